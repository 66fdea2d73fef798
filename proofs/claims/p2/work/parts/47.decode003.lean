theorem dX2_method_127 : decode cX2_method 127 = .ok (.iload 5, 2) := by decide +kernel
theorem dX2_method_129 : decode cX2_method 129 = .ok (.aload_n 1, 1) := by decide +kernel
theorem dX2_method_130 : decode cX2_method 130 = .ok (.getfield 194, 3) := by decide +kernel
theorem dX2_method_133 : decode cX2_method 133 = .ok (.ifCond .eq 31, 3) := by decide +kernel
theorem dX2_method_136 : decode cX2_method 136 = .ok (.aload_n 2, 1) := by decide +kernel
theorem dX2_method_137 : decode cX2_method 137 = .ok (.getfield 194, 3) := by decide +kernel
theorem dX2_method_140 : decode cX2_method 140 = .ok (.ifCond .eq 24, 3) := by decide +kernel
theorem dX2_method_143 : decode cX2_method 143 = .ok (.aload_n 0, 1) := by decide +kernel
theorem dX2_method_144 : decode cX2_method 144 = .ok (.aload_n 1, 1) := by decide +kernel
theorem dX2_method_145 : decode cX2_method 145 = .ok (.aload_n 2, 1) := by decide +kernel
theorem dX2_method_146 : decode cX2_method 146 = .ok (.invokevirtual 197, 3) := by decide +kernel
theorem dX2_method_149 : decode cX2_method 149 = .ok (.ifCond .ne 15, 3) := by decide +kernel
theorem dX2_method_152 : decode cX2_method 152 = .ok (.aload_n 0, 1) := by decide +kernel
theorem dX2_method_153 : decode cX2_method 153 = .ok (.bipush 39, 2) := by decide +kernel
theorem dX2_method_155 : decode cX2_method 155 = .ok (.iload_n 3, 1) := by decide +kernel
theorem dX2_method_156 : decode cX2_method 156 = .ok (.iload 4, 2) := by decide +kernel
theorem dX2_method_158 : decode cX2_method 158 = .ok (.invokevirtual 68, 3) := by decide +kernel
theorem dX2_method_161 : decode cX2_method 161 = .ok (.goto 4, 3) := by decide +kernel
theorem dX2_method_164 : decode cX2_method 164 = .ok (.iconst 0, 1) := by decide +kernel
theorem dX2_method_165 : decode cX2_method 165 = .ok (.iadd, 1) := by decide +kernel
theorem dX2_method_166 : decode cX2_method 166 = .ok (.ireturn, 1) := by decide +kernel
theorem dX2_makers_0 : decode cX2_makers 0 = .ok (.iconst 0, 1) := by decide +kernel
theorem dX2_makers_1 : decode cX2_makers 1 = .ok (.istore_n 3, 1) := by decide +kernel
theorem dX2_makers_2 : decode cX2_makers 2 = .ok (.iconst 0, 1) := by decide +kernel
theorem dX2_makers_3 : decode cX2_makers 3 = .ok (.istore 4, 2) := by decide +kernel
theorem dX2_makers_5 : decode cX2_makers 5 = .ok (.iload 4, 2) := by decide +kernel
theorem dX2_makers_7 : decode cX2_makers 7 = .ok (.aload_n 1, 1) := by decide +kernel
theorem dX2_makers_8 : decode cX2_makers 8 = .ok (.getfield 138, 3) := by decide +kernel
theorem dX2_makers_11 : decode cX2_makers 11 = .ok (.if_icmp .ge 133, 3) := by decide +kernel
theorem dX2_makers_14 : decode cX2_makers 14 = .ok (.aload_n 1, 1) := by decide +kernel
theorem dX2_makers_15 : decode cX2_makers 15 = .ok (.getfield 141, 3) := by decide +kernel
theorem dX2_makers_18 : decode cX2_makers 18 = .ok (.iload 4, 2) := by decide +kernel
theorem dX2_makers_20 : decode cX2_makers 20 = .ok (.aaload, 1) := by decide +kernel
theorem dX2_makers_21 : decode cX2_makers 21 = .ok (.astore 5, 2) := by decide +kernel
theorem dX2_makers_23 : decode cX2_makers 23 = .ok (.aload 5, 2) := by decide +kernel
theorem dX2_makers_25 : decode cX2_makers 25 = .ok (.getfield 145, 3) := by decide +kernel
theorem dX2_makers_28 : decode cX2_makers 28 = .ok (.iconst 2, 1) := by decide +kernel
theorem dX2_makers_29 : decode cX2_makers 29 = .ok (.if_icmp .ne 12, 3) := by decide +kernel
theorem dX2_makers_32 : decode cX2_makers 32 = .ok (.aload_n 2, 1) := by decide +kernel
theorem dX2_makers_33 : decode cX2_makers 33 = .ok (.aload 5, 2) := by decide +kernel
theorem dX2_makers_35 : decode cX2_makers 35 = .ok (.invokevirtual 201, 3) := by decide +kernel
theorem dX2_makers_38 : decode cX2_makers 38 = .ok (.goto 4, 3) := by decide +kernel
theorem dX2_makers_41 : decode cX2_makers 41 = .ok (.aconst_null, 1) := by decide +kernel
theorem dX2_makers_42 : decode cX2_makers 42 = .ok (.astore 6, 2) := by decide +kernel
theorem dX2_makers_44 : decode cX2_makers 44 = .ok (.aload 5, 2) := by decide +kernel
theorem dX2_makers_46 : decode cX2_makers 46 = .ok (.getfield 145, 3) := by decide +kernel
theorem dX2_makers_49 : decode cX2_makers 49 = .ok (.iconst 2, 1) := by decide +kernel
theorem dX2_makers_50 : decode cX2_makers 50 = .ok (.if_icmp .ne 24, 3) := by decide +kernel
theorem dX2_makers_53 : decode cX2_makers 53 = .ok (.aload 6, 2) := by decide +kernel
theorem dX2_makers_55 : decode cX2_makers 55 = .ok (.ifnonnull 19, 3) := by decide +kernel
theorem dX2_makers_58 : decode cX2_makers 58 = .ok (.iload_n 3, 1) := by decide +kernel
theorem dX2_makers_59 : decode cX2_makers 59 = .ok (.aload_n 0, 1) := by decide +kernel
theorem dX2_makers_60 : decode cX2_makers 60 = .ok (.bipush 50, 2) := by decide +kernel
theorem dX2_makers_62 : decode cX2_makers 62 = .ok (.iload 4, 2) := by decide +kernel
theorem dX2_makers_64 : decode cX2_makers 64 = .ok (.bipush (-2), 2) := by decide +kernel
theorem dX2_makers_66 : decode cX2_makers 66 = .ok (.invokevirtual 68, 3) := by decide +kernel
theorem dX2_makers_69 : decode cX2_makers 69 = .ok (.iadd, 1) := by decide +kernel
theorem dX2_makers_70 : decode cX2_makers 70 = .ok (.istore_n 3, 1) := by decide +kernel
theorem dX2_makers_71 : decode cX2_makers 71 = .ok (.goto 67, 3) := by decide +kernel
theorem dX2_makers_74 : decode cX2_makers 74 = .ok (.aload 6, 2) := by decide +kernel
theorem dX2_makers_76 : decode cX2_makers 76 = .ok (.ifnull 62, 3) := by decide +kernel
theorem dX2_makers_79 : decode cX2_makers 79 = .ok (.aload_n 2, 1) := by decide +kernel
theorem dX2_makers_80 : decode cX2_makers 80 = .ok (.aload 6, 2) := by decide +kernel
theorem dX2_makers_82 : decode cX2_makers 82 = .ok (.invokestatic 157, 3) := by decide +kernel
theorem dX2_makers_85 : decode cX2_makers 85 = .ok (.istore 7, 2) := by decide +kernel
theorem dX2_makers_87 : decode cX2_makers 87 = .ok (.iload_n 3, 1) := by decide +kernel
theorem dX2_makers_88 : decode cX2_makers 88 = .ok (.aload_n 0, 1) := by decide +kernel
theorem dX2_makers_89 : decode cX2_makers 89 = .ok (.aload 5, 2) := by decide +kernel
theorem dX2_makers_91 : decode cX2_makers 91 = .ok (.getfield 171, 3) := by decide +kernel
theorem dX2_makers_94 : decode cX2_makers 94 = .ok (.aload 6, 2) := by decide +kernel
theorem dX2_makers_96 : decode cX2_makers 96 = .ok (.getfield 171, 3) := by decide +kernel
theorem dX2_makers_99 : decode cX2_makers 99 = .ok (.bipush 51, 2) := by decide +kernel
theorem dX2_makers_101 : decode cX2_makers 101 = .ok (.iload 4, 2) := by decide +kernel
theorem dX2_makers_103 : decode cX2_makers 103 = .ok (.iload 7, 2) := by decide +kernel
theorem dX2_makers_105 : decode cX2_makers 105 = .ok (.invokevirtual 174, 3) := by decide +kernel
theorem dX2_makers_108 : decode cX2_makers 108 = .ok (.iadd, 1) := by decide +kernel
theorem dX2_makers_109 : decode cX2_makers 109 = .ok (.istore_n 3, 1) := by decide +kernel
theorem dX2_makers_110 : decode cX2_makers 110 = .ok (.iload_n 3, 1) := by decide +kernel
theorem dX2_makers_111 : decode cX2_makers 111 = .ok (.aload_n 0, 1) := by decide +kernel
theorem dX2_makers_112 : decode cX2_makers 112 = .ok (.aload 5, 2) := by decide +kernel
theorem dX2_makers_114 : decode cX2_makers 114 = .ok (.aload 6, 2) := by decide +kernel
theorem dX2_makers_116 : decode cX2_makers 116 = .ok (.invokevirtual 197, 3) := by decide +kernel
theorem dX2_makers_119 : decode cX2_makers 119 = .ok (.ifCond .eq 7, 3) := by decide +kernel
theorem dX2_makers_122 : decode cX2_makers 122 = .ok (.iconst 0, 1) := by decide +kernel
theorem dX2_makers_123 : decode cX2_makers 123 = .ok (.goto 13, 3) := by decide +kernel
theorem dX2_makers_126 : decode cX2_makers 126 = .ok (.aload_n 0, 1) := by decide +kernel
theorem dX2_makers_127 : decode cX2_makers 127 = .ok (.bipush 53, 2) := by decide +kernel
theorem dX2_makers_129 : decode cX2_makers 129 = .ok (.iload 4, 2) := by decide +kernel
theorem dX2_makers_131 : decode cX2_makers 131 = .ok (.iload 7, 2) := by decide +kernel
theorem dX2_makers_133 : decode cX2_makers 133 = .ok (.invokevirtual 68, 3) := by decide +kernel
theorem dX2_makers_136 : decode cX2_makers 136 = .ok (.iadd, 1) := by decide +kernel
theorem dX2_makers_137 : decode cX2_makers 137 = .ok (.istore_n 3, 1) := by decide +kernel
theorem dX2_makers_138 : decode cX2_makers 138 = .ok (.iinc 4 1, 3) := by decide +kernel
theorem dX2_makers_141 : decode cX2_makers 141 = .ok (.goto (-136), 3) := by decide +kernel
theorem dX2_makers_144 : decode cX2_makers 144 = .ok (.iconst 0, 1) := by decide +kernel
theorem dX2_makers_145 : decode cX2_makers 145 = .ok (.istore 4, 2) := by decide +kernel
theorem dX2_makers_147 : decode cX2_makers 147 = .ok (.iload 4, 2) := by decide +kernel
theorem dX2_makers_149 : decode cX2_makers 149 = .ok (.aload_n 2, 1) := by decide +kernel
theorem dX2_makers_150 : decode cX2_makers 150 = .ok (.getfield 138, 3) := by decide +kernel
theorem dX2_makers_153 : decode cX2_makers 153 = .ok (.if_icmp .ge 53, 3) := by decide +kernel
theorem dX2_makers_156 : decode cX2_makers 156 = .ok (.aload_n 2, 1) := by decide +kernel
theorem dX2_makers_157 : decode cX2_makers 157 = .ok (.getfield 141, 3) := by decide +kernel
theorem dX2_makers_160 : decode cX2_makers 160 = .ok (.iload 4, 2) := by decide +kernel
theorem dX2_makers_162 : decode cX2_makers 162 = .ok (.aaload, 1) := by decide +kernel
theorem dX2_makers_163 : decode cX2_makers 163 = .ok (.astore 5, 2) := by decide +kernel
theorem dX2_makers_165 : decode cX2_makers 165 = .ok (.iload_n 3, 1) := by decide +kernel
theorem dX2_makers_166 : decode cX2_makers 166 = .ok (.aload 5, 2) := by decide +kernel
theorem dX2_makers_168 : decode cX2_makers 168 = .ok (.getfield 145, 3) := by decide +kernel
theorem dX2_makers_171 : decode cX2_makers 171 = .ok (.iconst 2, 1) := by decide +kernel
theorem dX2_makers_172 : decode cX2_makers 172 = .ok (.if_icmp .ne 25, 3) := by decide +kernel
theorem dX2_makers_175 : decode cX2_makers 175 = .ok (.aload_n 1, 1) := by decide +kernel
theorem dX2_makers_176 : decode cX2_makers 176 = .ok (.aload 5, 2) := by decide +kernel
theorem dX2_makers_178 : decode cX2_makers 178 = .ok (.invokevirtual 201, 3) := by decide +kernel
theorem dX2_makers_181 : decode cX2_makers 181 = .ok (.ifnonnull 16, 3) := by decide +kernel
theorem dX2_makers_184 : decode cX2_makers 184 = .ok (.aload_n 0, 1) := by decide +kernel
theorem dX2_makers_185 : decode cX2_makers 185 = .ok (.bipush 54, 2) := by decide +kernel
theorem dX2_makers_187 : decode cX2_makers 187 = .ok (.bipush (-2), 2) := by decide +kernel
theorem dX2_makers_189 : decode cX2_makers 189 = .ok (.iload 4, 2) := by decide +kernel
theorem dX2_makers_191 : decode cX2_makers 191 = .ok (.invokevirtual 68, 3) := by decide +kernel
theorem dX2_makers_194 : decode cX2_makers 194 = .ok (.goto 4, 3) := by decide +kernel
theorem dX2_makers_197 : decode cX2_makers 197 = .ok (.iconst 0, 1) := by decide +kernel
theorem dX2_makers_198 : decode cX2_makers 198 = .ok (.iadd, 1) := by decide +kernel
theorem dX2_makers_199 : decode cX2_makers 199 = .ok (.istore_n 3, 1) := by decide +kernel
theorem dX2_makers_200 : decode cX2_makers 200 = .ok (.iinc 4 1, 3) := by decide +kernel
theorem dX2_makers_203 : decode cX2_makers 203 = .ok (.goto (-56), 3) := by decide +kernel
theorem dX2_makers_206 : decode cX2_makers 206 = .ok (.iload_n 3, 1) := by decide +kernel
theorem dX2_makers_207 : decode cX2_makers 207 = .ok (.ireturn, 1) := by decide +kernel
theorem dX2_sameBlocks_0 : decode cX2_sameBlocks 0 = .ok (.aload_n 1, 1) := by decide +kernel
theorem dX2_sameBlocks_1 : decode cX2_sameBlocks 1 = .ok (.getfield 194, 3) := by decide +kernel
theorem dX2_sameBlocks_4 : decode cX2_sameBlocks 4 = .ok (.ifCond .eq 10, 3) := by decide +kernel
theorem dX2_sameBlocks_7 : decode cX2_sameBlocks 7 = .ok (.aload_n 2, 1) := by decide +kernel
theorem dX2_sameBlocks_8 : decode cX2_sameBlocks 8 = .ok (.getfield 194, 3) := by decide +kernel
theorem dX2_sameBlocks_11 : decode cX2_sameBlocks 11 = .ok (.ifCond .ne 49, 3) := by decide +kernel
theorem dX2_sameBlocks_14 : decode cX2_sameBlocks 14 = .ok (.aload_n 1, 1) := by decide +kernel
theorem dX2_sameBlocks_15 : decode cX2_sameBlocks 15 = .ok (.getfield 194, 3) := by decide +kernel
theorem dX2_sameBlocks_18 : decode cX2_sameBlocks 18 = .ok (.ifCond .eq 16, 3) := by decide +kernel
theorem dX2_sameBlocks_21 : decode cX2_sameBlocks 21 = .ok (.aload_n 1, 1) := by decide +kernel
theorem dX2_sameBlocks_22 : decode cX2_sameBlocks 22 = .ok (.getfield 204, 3) := by decide +kernel
theorem dX2_sameBlocks_25 : decode cX2_sameBlocks 25 = .ok (.aload_n 1, 1) := by decide +kernel
theorem dX2_sameBlocks_26 : decode cX2_sameBlocks 26 = .ok (.getfield 207, 3) := by decide +kernel
theorem dX2_sameBlocks_29 : decode cX2_sameBlocks 29 = .ok (.isub, 1) := by decide +kernel
theorem dX2_sameBlocks_30 : decode cX2_sameBlocks 30 = .ok (.iconst 2, 1) := by decide +kernel
theorem dX2_sameBlocks_31 : decode cX2_sameBlocks 31 = .ok (.if_icmp .ne 27, 3) := by decide +kernel
theorem dX2_sameBlocks_34 : decode cX2_sameBlocks 34 = .ok (.aload_n 2, 1) := by decide +kernel
theorem dX2_sameBlocks_35 : decode cX2_sameBlocks 35 = .ok (.getfield 194, 3) := by decide +kernel
theorem dX2_sameBlocks_38 : decode cX2_sameBlocks 38 = .ok (.ifCond .eq 16, 3) := by decide +kernel
theorem dX2_sameBlocks_41 : decode cX2_sameBlocks 41 = .ok (.aload_n 2, 1) := by decide +kernel
theorem dX2_sameBlocks_42 : decode cX2_sameBlocks 42 = .ok (.getfield 204, 3) := by decide +kernel
theorem dX2_sameBlocks_45 : decode cX2_sameBlocks 45 = .ok (.aload_n 2, 1) := by decide +kernel
theorem dX2_sameBlocks_46 : decode cX2_sameBlocks 46 = .ok (.getfield 207, 3) := by decide +kernel
theorem dX2_sameBlocks_49 : decode cX2_sameBlocks 49 = .ok (.isub, 1) := by decide +kernel
theorem dX2_sameBlocks_50 : decode cX2_sameBlocks 50 = .ok (.iconst 2, 1) := by decide +kernel
theorem dX2_sameBlocks_51 : decode cX2_sameBlocks 51 = .ok (.if_icmp .ne 7, 3) := by decide +kernel
theorem dX2_sameBlocks_54 : decode cX2_sameBlocks 54 = .ok (.iconst 1, 1) := by decide +kernel
theorem dX2_sameBlocks_55 : decode cX2_sameBlocks 55 = .ok (.goto 4, 3) := by decide +kernel
theorem dX2_sameBlocks_58 : decode cX2_sameBlocks 58 = .ok (.iconst 0, 1) := by decide +kernel
theorem dX2_sameBlocks_59 : decode cX2_sameBlocks 59 = .ok (.ireturn, 1) := by decide +kernel
theorem dX2_sameBlocks_60 : decode cX2_sameBlocks 60 = .ok (.aload_n 1, 1) := by decide +kernel
theorem dX2_sameBlocks_61 : decode cX2_sameBlocks 61 = .ok (.aload_n 0, 1) := by decide +kernel
theorem dX2_sameBlocks_62 : decode cX2_sameBlocks 62 = .ok (.getfield 15, 3) := by decide +kernel
theorem dX2_sameBlocks_65 : decode cX2_sameBlocks 65 = .ok (.iconst 0, 1) := by decide +kernel
theorem dX2_sameBlocks_66 : decode cX2_sameBlocks 66 = .ok (.invokestatic 210, 3) := by decide +kernel
theorem dX2_sameBlocks_69 : decode cX2_sameBlocks 69 = .ok (.istore_n 3, 1) := by decide +kernel
theorem dX2_sameBlocks_70 : decode cX2_sameBlocks 70 = .ok (.iload_n 3, 1) := by decide +kernel
theorem dX2_sameBlocks_71 : decode cX2_sameBlocks 71 = .ok (.aload_n 2, 1) := by decide +kernel
theorem dX2_sameBlocks_72 : decode cX2_sameBlocks 72 = .ok (.aload_n 0, 1) := by decide +kernel
theorem dX2_sameBlocks_73 : decode cX2_sameBlocks 73 = .ok (.getfield 18, 3) := by decide +kernel
theorem dX2_sameBlocks_76 : decode cX2_sameBlocks 76 = .ok (.iconst 0, 1) := by decide +kernel
theorem dX2_sameBlocks_77 : decode cX2_sameBlocks 77 = .ok (.invokestatic 210, 3) := by decide +kernel
theorem dX2_sameBlocks_80 : decode cX2_sameBlocks 80 = .ok (.if_icmp .ne 15, 3) := by decide +kernel
theorem dX2_sameBlocks_83 : decode cX2_sameBlocks 83 = .ok (.aload_n 0, 1) := by decide +kernel
theorem dX2_sameBlocks_84 : decode cX2_sameBlocks 84 = .ok (.iload_n 3, 1) := by decide +kernel
theorem dX2_sameBlocks_85 : decode cX2_sameBlocks 85 = .ok (.invokevirtual 214, 3) := by decide +kernel
theorem dX2_sameBlocks_88 : decode cX2_sameBlocks 88 = .ok (.ifCond .eq 7, 3) := by decide +kernel
theorem dX2_sameBlocks_91 : decode cX2_sameBlocks 91 = .ok (.iconst 1, 1) := by decide +kernel
theorem dX2_sameBlocks_92 : decode cX2_sameBlocks 92 = .ok (.goto 4, 3) := by decide +kernel
theorem dX2_sameBlocks_95 : decode cX2_sameBlocks 95 = .ok (.iconst 0, 1) := by decide +kernel
theorem dX2_sameBlocks_96 : decode cX2_sameBlocks 96 = .ok (.ireturn, 1) := by decide +kernel
theorem dX2_range_0 : decode cX2_range 0 = .ok (.iload_n 2, 1) := by decide +kernel
theorem dX2_range_1 : decode cX2_range 1 = .ok (.istore_n 3, 1) := by decide +kernel
theorem dX2_range_2 : decode cX2_range 2 = .ok (.aload_n 0, 1) := by decide +kernel
theorem dX2_range_3 : decode cX2_range 3 = .ok (.getfield 207, 3) := by decide +kernel
theorem dX2_range_6 : decode cX2_range 6 = .ok (.istore 4, 2) := by decide +kernel
theorem dX2_range_8 : decode cX2_range 8 = .ok (.iload 4, 2) := by decide +kernel
theorem dX2_range_10 : decode cX2_range 10 = .ok (.aload_n 0, 1) := by decide +kernel
theorem dX2_range_11 : decode cX2_range 11 = .ok (.getfield 204, 3) := by decide +kernel
theorem dX2_range_14 : decode cX2_range 14 = .ok (.if_icmp .ge 23, 3) := by decide +kernel
theorem dX2_range_17 : decode cX2_range 17 = .ok (.iload_n 3, 1) := by decide +kernel
theorem dX2_range_18 : decode cX2_range 18 = .ok (.aload_n 1, 1) := by decide +kernel
theorem dX2_range_19 : decode cX2_range 19 = .ok (.arraylength, 1) := by decide +kernel
theorem dX2_range_20 : decode cX2_range 20 = .ok (.if_icmp .ge 17, 3) := by decide +kernel
theorem dX2_range_23 : decode cX2_range 23 = .ok (.aload_n 1, 1) := by decide +kernel
theorem dX2_range_24 : decode cX2_range 24 = .ok (.iload_n 3, 1) := by decide +kernel
theorem dX2_range_25 : decode cX2_range 25 = .ok (.iload 4, 2) := by decide +kernel
theorem dX2_range_27 : decode cX2_range 27 = .ok (.iastore, 1) := by decide +kernel
theorem dX2_range_28 : decode cX2_range 28 = .ok (.iinc 3 1, 3) := by decide +kernel
theorem dX2_range_31 : decode cX2_range 31 = .ok (.iinc 4 1, 3) := by decide +kernel
theorem dX2_range_34 : decode cX2_range 34 = .ok (.goto (-26), 3) := by decide +kernel
theorem dX2_range_37 : decode cX2_range 37 = .ok (.iload_n 3, 1) := by decide +kernel
theorem dX2_range_38 : decode cX2_range 38 = .ok (.ireturn, 1) := by decide +kernel
theorem dX2_starts_0 : decode cX2_starts 0 = .ok (.iconst 0, 1) := by decide +kernel
theorem dX2_starts_1 : decode cX2_starts 1 = .ok (.istore_n 2, 1) := by decide +kernel
theorem dX2_starts_2 : decode cX2_starts 2 = .ok (.iconst 0, 1) := by decide +kernel
theorem dX2_starts_3 : decode cX2_starts 3 = .ok (.istore_n 3, 1) := by decide +kernel
theorem dX2_starts_4 : decode cX2_starts 4 = .ok (.iload_n 3, 1) := by decide +kernel
theorem dX2_starts_5 : decode cX2_starts 5 = .ok (.aload_n 0, 1) := by decide +kernel
theorem dX2_starts_6 : decode cX2_starts 6 = .ok (.getfield 217, 3) := by decide +kernel
theorem dX2_starts_9 : decode cX2_starts 9 = .ok (.if_icmp .ge 50, 3) := by decide +kernel
theorem dX2_starts_12 : decode cX2_starts 12 = .ok (.aload_n 0, 1) := by decide +kernel
theorem dX2_starts_13 : decode cX2_starts 13 = .ok (.getfield 220, 3) := by decide +kernel
theorem dX2_starts_16 : decode cX2_starts 16 = .ok (.iload_n 3, 1) := by decide +kernel
theorem dX2_starts_17 : decode cX2_starts 17 = .ok (.aaload, 1) := by decide +kernel
theorem dX2_starts_18 : decode cX2_starts 18 = .ok (.astore 4, 2) := by decide +kernel
theorem dX2_starts_20 : decode cX2_starts 20 = .ok (.aload 4, 2) := by decide +kernel
theorem dX2_starts_22 : decode cX2_starts 22 = .ok (.getfield 145, 3) := by decide +kernel
theorem dX2_starts_25 : decode cX2_starts 25 = .ok (.iconst 3, 1) := by decide +kernel
theorem dX2_starts_26 : decode cX2_starts 26 = .ok (.if_icmp .eq 19, 3) := by decide +kernel
theorem dX2_starts_29 : decode cX2_starts 29 = .ok (.aload 4, 2) := by decide +kernel
theorem dX2_starts_31 : decode cX2_starts 31 = .ok (.getfield 145, 3) := by decide +kernel
theorem dX2_starts_34 : decode cX2_starts 34 = .ok (.ifCond .ne 19, 3) := by decide +kernel
theorem dX2_starts_37 : decode cX2_starts 37 = .ok (.aload 4, 2) := by decide +kernel
theorem dX2_starts_39 : decode cX2_starts 39 = .ok (.getfield 177, 3) := by decide +kernel
theorem dX2_starts_42 : decode cX2_starts 42 = .ok (.ifCond .ne 11, 3) := by decide +kernel
theorem dX2_starts_45 : decode cX2_starts 45 = .ok (.aload 4, 2) := by decide +kernel
theorem dX2_starts_47 : decode cX2_starts 47 = .ok (.aload_n 1, 1) := by decide +kernel
theorem dX2_starts_48 : decode cX2_starts 48 = .ok (.iload_n 2, 1) := by decide +kernel
theorem dX2_starts_49 : decode cX2_starts 49 = .ok (.invokestatic 210, 3) := by decide +kernel
theorem dX2_starts_52 : decode cX2_starts 52 = .ok (.istore_n 2, 1) := by decide +kernel
theorem dX2_starts_53 : decode cX2_starts 53 = .ok (.iinc 3 1, 3) := by decide +kernel
theorem dX2_starts_56 : decode cX2_starts 56 = .ok (.goto (-52), 3) := by decide +kernel
theorem dX2_starts_59 : decode cX2_starts 59 = .ok (.iload_n 2, 1) := by decide +kernel
theorem dX2_starts_60 : decode cX2_starts 60 = .ok (.ireturn, 1) := by decide +kernel
theorem dX2_sameStarts_0 : decode cX2_sameStarts 0 = .ok (.aload_n 1, 1) := by decide +kernel
theorem dX2_sameStarts_1 : decode cX2_sameStarts 1 = .ok (.aload_n 0, 1) := by decide +kernel
theorem dX2_sameStarts_2 : decode cX2_sameStarts 2 = .ok (.getfield 15, 3) := by decide +kernel
theorem dX2_sameStarts_5 : decode cX2_sameStarts 5 = .ok (.invokestatic 223, 3) := by decide +kernel
theorem dX2_sameStarts_8 : decode cX2_sameStarts 8 = .ok (.istore_n 3, 1) := by decide +kernel
theorem dX2_sameStarts_9 : decode cX2_sameStarts 9 = .ok (.iload_n 3, 1) := by decide +kernel
theorem dX2_sameStarts_10 : decode cX2_sameStarts 10 = .ok (.aload_n 2, 1) := by decide +kernel
theorem dX2_sameStarts_11 : decode cX2_sameStarts 11 = .ok (.aload_n 0, 1) := by decide +kernel
theorem dX2_sameStarts_12 : decode cX2_sameStarts 12 = .ok (.getfield 18, 3) := by decide +kernel
theorem dX2_sameStarts_15 : decode cX2_sameStarts 15 = .ok (.invokestatic 223, 3) := by decide +kernel
theorem dX2_sameStarts_18 : decode cX2_sameStarts 18 = .ok (.if_icmp .ne 15, 3) := by decide +kernel
theorem dX2_sameStarts_21 : decode cX2_sameStarts 21 = .ok (.aload_n 0, 1) := by decide +kernel
theorem dX2_sameStarts_22 : decode cX2_sameStarts 22 = .ok (.iload_n 3, 1) := by decide +kernel
theorem dX2_sameStarts_23 : decode cX2_sameStarts 23 = .ok (.invokevirtual 214, 3) := by decide +kernel
theorem dX2_sameStarts_26 : decode cX2_sameStarts 26 = .ok (.ifCond .eq 7, 3) := by decide +kernel
theorem dX2_sameStarts_29 : decode cX2_sameStarts 29 = .ok (.iconst 1, 1) := by decide +kernel
theorem dX2_sameStarts_30 : decode cX2_sameStarts 30 = .ok (.goto 4, 3) := by decide +kernel
theorem dX2_sameStarts_33 : decode cX2_sameStarts 33 = .ok (.iconst 0, 1) := by decide +kernel
theorem dX2_sameStarts_34 : decode cX2_sameStarts 34 = .ok (.ireturn, 1) := by decide +kernel
theorem dX2_sameTokens_0 : decode cX2_sameTokens 0 = .ok (.iconst 0, 1) := by decide +kernel
theorem dX2_sameTokens_1 : decode cX2_sameTokens 1 = .ok (.istore_n 2, 1) := by decide +kernel
theorem dX2_sameTokens_2 : decode cX2_sameTokens 2 = .ok (.iload_n 2, 1) := by decide +kernel
theorem dX2_sameTokens_3 : decode cX2_sameTokens 3 = .ok (.iload_n 1, 1) := by decide +kernel
theorem dX2_sameTokens_4 : decode cX2_sameTokens 4 = .ok (.if_icmp .ge 128, 3) := by decide +kernel
theorem dX2_sameTokens_7 : decode cX2_sameTokens 7 = .ok (.aload_n 0, 1) := by decide +kernel
theorem dX2_sameTokens_8 : decode cX2_sameTokens 8 = .ok (.getfield 21, 3) := by decide +kernel
theorem dX2_sameTokens_11 : decode cX2_sameTokens 11 = .ok (.getfield 227, 3) := by decide +kernel
theorem dX2_sameTokens_14 : decode cX2_sameTokens 14 = .ok (.aload_n 0, 1) := by decide +kernel
theorem dX2_sameTokens_15 : decode cX2_sameTokens 15 = .ok (.getfield 15, 3) := by decide +kernel
theorem dX2_sameTokens_18 : decode cX2_sameTokens 18 = .ok (.iload_n 2, 1) := by decide +kernel
theorem dX2_sameTokens_19 : decode cX2_sameTokens 19 = .ok (.iaload, 1) := by decide +kernel
theorem dX2_sameTokens_20 : decode cX2_sameTokens 20 = .ok (.iaload, 1) := by decide +kernel
theorem dX2_sameTokens_21 : decode cX2_sameTokens 21 = .ok (.istore_n 3, 1) := by decide +kernel
theorem dX2_sameTokens_22 : decode cX2_sameTokens 22 = .ok (.aload_n 0, 1) := by decide +kernel
theorem dX2_sameTokens_23 : decode cX2_sameTokens 23 = .ok (.getfield 21, 3) := by decide +kernel
theorem dX2_sameTokens_26 : decode cX2_sameTokens 26 = .ok (.getfield 229, 3) := by decide +kernel
theorem dX2_sameTokens_29 : decode cX2_sameTokens 29 = .ok (.aload_n 0, 1) := by decide +kernel
theorem dX2_sameTokens_30 : decode cX2_sameTokens 30 = .ok (.getfield 15, 3) := by decide +kernel
theorem dX2_sameTokens_33 : decode cX2_sameTokens 33 = .ok (.iload_n 2, 1) := by decide +kernel
theorem dX2_sameTokens_34 : decode cX2_sameTokens 34 = .ok (.iaload, 1) := by decide +kernel
theorem dX2_sameTokens_35 : decode cX2_sameTokens 35 = .ok (.iaload, 1) := by decide +kernel
theorem dX2_sameTokens_36 : decode cX2_sameTokens 36 = .ok (.iload_n 3, 1) := by decide +kernel
theorem dX2_sameTokens_37 : decode cX2_sameTokens 37 = .ok (.isub, 1) := by decide +kernel
theorem dX2_sameTokens_38 : decode cX2_sameTokens 38 = .ok (.istore 4, 2) := by decide +kernel
theorem dX2_sameTokens_40 : decode cX2_sameTokens 40 = .ok (.aload_n 0, 1) := by decide +kernel
theorem dX2_sameTokens_41 : decode cX2_sameTokens 41 = .ok (.getfield 25, 3) := by decide +kernel
theorem dX2_sameTokens_44 : decode cX2_sameTokens 44 = .ok (.getfield 227, 3) := by decide +kernel
theorem dX2_sameTokens_47 : decode cX2_sameTokens 47 = .ok (.aload_n 0, 1) := by decide +kernel
theorem dX2_sameTokens_48 : decode cX2_sameTokens 48 = .ok (.getfield 18, 3) := by decide +kernel
theorem dX2_sameTokens_51 : decode cX2_sameTokens 51 = .ok (.iload_n 2, 1) := by decide +kernel
theorem dX2_sameTokens_52 : decode cX2_sameTokens 52 = .ok (.iaload, 1) := by decide +kernel
theorem dX2_sameTokens_53 : decode cX2_sameTokens 53 = .ok (.iaload, 1) := by decide +kernel
theorem dX2_sameTokens_54 : decode cX2_sameTokens 54 = .ok (.istore 5, 2) := by decide +kernel
theorem dX2_sameTokens_56 : decode cX2_sameTokens 56 = .ok (.aload_n 0, 1) := by decide +kernel
theorem dX2_sameTokens_57 : decode cX2_sameTokens 57 = .ok (.getfield 25, 3) := by decide +kernel
theorem dX2_sameTokens_60 : decode cX2_sameTokens 60 = .ok (.getfield 229, 3) := by decide +kernel
theorem dX2_sameTokens_63 : decode cX2_sameTokens 63 = .ok (.aload_n 0, 1) := by decide +kernel
theorem dX2_sameTokens_64 : decode cX2_sameTokens 64 = .ok (.getfield 18, 3) := by decide +kernel
theorem dX2_sameTokens_67 : decode cX2_sameTokens 67 = .ok (.iload_n 2, 1) := by decide +kernel
theorem dX2_sameTokens_68 : decode cX2_sameTokens 68 = .ok (.iaload, 1) := by decide +kernel
theorem dX2_sameTokens_69 : decode cX2_sameTokens 69 = .ok (.iaload, 1) := by decide +kernel
theorem dX2_sameTokens_70 : decode cX2_sameTokens 70 = .ok (.iload 5, 2) := by decide +kernel
theorem dX2_sameTokens_72 : decode cX2_sameTokens 72 = .ok (.isub, 1) := by decide +kernel
theorem dX2_sameTokens_73 : decode cX2_sameTokens 73 = .ok (.iload 4, 2) := by decide +kernel
theorem dX2_sameTokens_75 : decode cX2_sameTokens 75 = .ok (.if_icmp .eq 5, 3) := by decide +kernel
theorem dX2_sameTokens_78 : decode cX2_sameTokens 78 = .ok (.iconst 0, 1) := by decide +kernel
theorem dX2_sameTokens_79 : decode cX2_sameTokens 79 = .ok (.ireturn, 1) := by decide +kernel
theorem dX2_sameTokens_80 : decode cX2_sameTokens 80 = .ok (.iconst 0, 1) := by decide +kernel
theorem dX2_sameTokens_81 : decode cX2_sameTokens 81 = .ok (.istore 6, 2) := by decide +kernel
theorem dX2_sameTokens_83 : decode cX2_sameTokens 83 = .ok (.iload 6, 2) := by decide +kernel
theorem dX2_sameTokens_85 : decode cX2_sameTokens 85 = .ok (.iload 4, 2) := by decide +kernel
theorem dX2_sameTokens_87 : decode cX2_sameTokens 87 = .ok (.if_icmp .ge 39, 3) := by decide +kernel
theorem dX2_sameTokens_90 : decode cX2_sameTokens 90 = .ok (.aload_n 0, 1) := by decide +kernel
theorem dX2_sameTokens_91 : decode cX2_sameTokens 91 = .ok (.getfield 21, 3) := by decide +kernel
theorem dX2_sameTokens_94 : decode cX2_sameTokens 94 = .ok (.getfield 231, 3) := by decide +kernel
theorem dX2_sameTokens_97 : decode cX2_sameTokens 97 = .ok (.iload_n 3, 1) := by decide +kernel
theorem dX2_sameTokens_98 : decode cX2_sameTokens 98 = .ok (.iload 6, 2) := by decide +kernel
theorem dX2_sameTokens_100 : decode cX2_sameTokens 100 = .ok (.iadd, 1) := by decide +kernel
theorem dX2_sameTokens_101 : decode cX2_sameTokens 101 = .ok (.baload, 1) := by decide +kernel
theorem dX2_sameTokens_102 : decode cX2_sameTokens 102 = .ok (.aload_n 0, 1) := by decide +kernel
theorem dX2_sameTokens_103 : decode cX2_sameTokens 103 = .ok (.getfield 25, 3) := by decide +kernel
theorem dX2_sameTokens_106 : decode cX2_sameTokens 106 = .ok (.getfield 231, 3) := by decide +kernel
theorem dX2_sameTokens_109 : decode cX2_sameTokens 109 = .ok (.iload 5, 2) := by decide +kernel
theorem dX2_sameTokens_111 : decode cX2_sameTokens 111 = .ok (.iload 6, 2) := by decide +kernel
theorem dX2_sameTokens_113 : decode cX2_sameTokens 113 = .ok (.iadd, 1) := by decide +kernel
theorem dX2_sameTokens_114 : decode cX2_sameTokens 114 = .ok (.baload, 1) := by decide +kernel
theorem dX2_sameTokens_115 : decode cX2_sameTokens 115 = .ok (.if_icmp .eq 5, 3) := by decide +kernel
theorem dX2_sameTokens_118 : decode cX2_sameTokens 118 = .ok (.iconst 0, 1) := by decide +kernel
theorem dX2_sameTokens_119 : decode cX2_sameTokens 119 = .ok (.ireturn, 1) := by decide +kernel
theorem dX2_sameTokens_120 : decode cX2_sameTokens 120 = .ok (.iinc 6 1, 3) := by decide +kernel
theorem dX2_sameTokens_123 : decode cX2_sameTokens 123 = .ok (.goto (-40), 3) := by decide +kernel
theorem dX2_sameTokens_126 : decode cX2_sameTokens 126 = .ok (.iinc 2 1, 3) := by decide +kernel
theorem dX2_sameTokens_129 : decode cX2_sameTokens 129 = .ok (.goto (-127), 3) := by decide +kernel
theorem dX2_sameTokens_132 : decode cX2_sameTokens 132 = .ok (.iconst 1, 1) := by decide +kernel
theorem dX2_sameTokens_133 : decode cX2_sameTokens 133 = .ok (.ireturn, 1) := by decide +kernel
theorem dX3_init_0 : decode cX3_init 0 = .ok (.aload_n 0, 1) := by decide +kernel
theorem dX3_init_1 : decode cX3_init 1 = .ok (.invokespecial 3, 3) := by decide +kernel
theorem dX3_init_4 : decode cX3_init 4 = .ok (.return_, 1) := by decide +kernel
theorem dX3_write_0 : decode cX3_write 0 = .ok (.aload_n 0, 1) := by decide +kernel
theorem dX3_write_1 : decode cX3_write 1 = .ok (.aload_n 1, 1) := by decide +kernel
theorem dX3_write_2 : decode cX3_write 2 = .ok (.putfield 9, 3) := by decide +kernel
theorem dX3_write_5 : decode cX3_write 5 = .ok (.aload_n 0, 1) := by decide +kernel
theorem dX3_write_6 : decode cX3_write 6 = .ok (.aload_n 2, 1) := by decide +kernel
theorem dX3_write_7 : decode cX3_write 7 = .ok (.putfield 15, 3) := by decide +kernel
theorem dX3_write_10 : decode cX3_write 10 = .ok (.iconst 0, 1) := by decide +kernel
theorem dX3_write_11 : decode cX3_write 11 = .ok (.istore_n 3, 1) := by decide +kernel
theorem dX3_write_12 : decode cX3_write 12 = .ok (.iload_n 3, 1) := by decide +kernel
theorem dX3_write_13 : decode cX3_write 13 = .ok (.aload_n 0, 1) := by decide +kernel
theorem dX3_write_14 : decode cX3_write 14 = .ok (.getfield 15, 3) := by decide +kernel
theorem dX3_write_17 : decode cX3_write 17 = .ok (.getfield 19, 3) := by decide +kernel
theorem dX3_write_20 : decode cX3_write 20 = .ok (.if_icmp .ge 201, 3) := by decide +kernel
theorem dX3_write_23 : decode cX3_write 23 = .ok (.aload_n 0, 1) := by decide +kernel
theorem dX3_write_24 : decode cX3_write 24 = .ok (.iload_n 3, 1) := by decide +kernel
theorem dX3_write_25 : decode cX3_write 25 = .ok (.putfield 25, 3) := by decide +kernel
theorem dX3_write_28 : decode cX3_write 28 = .ok (.aload_n 0, 1) := by decide +kernel
theorem dX3_write_29 : decode cX3_write 29 = .ok (.aload_n 0, 1) := by decide +kernel
theorem dX3_write_30 : decode cX3_write 30 = .ok (.getfield 15, 3) := by decide +kernel
theorem dX3_write_33 : decode cX3_write 33 = .ok (.getfield 28, 3) := by decide +kernel
theorem dX3_write_36 : decode cX3_write 36 = .ok (.iload_n 3, 1) := by decide +kernel
theorem dX3_write_37 : decode cX3_write 37 = .ok (.aaload, 1) := by decide +kernel
theorem dX3_write_38 : decode cX3_write 38 = .ok (.invokevirtual 32, 3) := by decide +kernel
theorem dX3_write_41 : decode cX3_write 41 = .ok (.iconst 0, 1) := by decide +kernel
theorem dX3_write_42 : decode cX3_write 42 = .ok (.istore 4, 2) := by decide +kernel
theorem dX3_write_44 : decode cX3_write 44 = .ok (.iload 4, 2) := by decide +kernel
theorem dX3_write_46 : decode cX3_write 46 = .ok (.aload_n 0, 1) := by decide +kernel
theorem dX3_write_47 : decode cX3_write 47 = .ok (.getfield 36, 3) := by decide +kernel
theorem dX3_write_50 : decode cX3_write 50 = .ok (.getfield 40, 3) := by decide +kernel
theorem dX3_write_53 : decode cX3_write 53 = .ok (.if_icmp .ge 76, 3) := by decide +kernel
theorem dX3_write_56 : decode cX3_write 56 = .ok (.aload_n 0, 1) := by decide +kernel
theorem dX3_write_57 : decode cX3_write 57 = .ok (.getfield 36, 3) := by decide +kernel
theorem dX3_write_60 : decode cX3_write 60 = .ok (.getfield 45, 3) := by decide +kernel
theorem dX3_write_63 : decode cX3_write 63 = .ok (.iload 4, 2) := by decide +kernel
theorem dX3_write_65 : decode cX3_write 65 = .ok (.aaload, 1) := by decide +kernel
theorem dX3_write_66 : decode cX3_write 66 = .ok (.astore 5, 2) := by decide +kernel
theorem dX3_write_68 : decode cX3_write 68 = .ok (.aload_n 0, 1) := by decide +kernel
theorem dX3_write_69 : decode cX3_write 69 = .ok (.aload 5, 2) := by decide +kernel
theorem dX3_write_71 : decode cX3_write 71 = .ok (.putfield 49, 3) := by decide +kernel
theorem dX3_write_74 : decode cX3_write 74 = .ok (.aload 5, 2) := by decide +kernel
theorem dX3_write_76 : decode cX3_write 76 = .ok (.getfield 53, 3) := by decide +kernel
theorem dX3_write_79 : decode cX3_write 79 = .ok (.ifCond .ne 12, 3) := by decide +kernel
theorem dX3_write_82 : decode cX3_write 82 = .ok (.aload_n 0, 1) := by decide +kernel
theorem dX3_write_83 : decode cX3_write 83 = .ok (.aload 5, 2) := by decide +kernel
theorem dX3_write_85 : decode cX3_write 85 = .ok (.invokevirtual 58, 3) := by decide +kernel
theorem dX3_write_88 : decode cX3_write 88 = .ok (.goto 35, 3) := by decide +kernel
theorem dX3_write_91 : decode cX3_write 91 = .ok (.aload 5, 2) := by decide +kernel
theorem dX3_write_93 : decode cX3_write 93 = .ok (.getfield 53, 3) := by decide +kernel
theorem dX3_write_96 : decode cX3_write 96 = .ok (.iconst 2, 1) := by decide +kernel
theorem dX3_write_97 : decode cX3_write 97 = .ok (.if_icmp .ne 12, 3) := by decide +kernel
theorem dX3_write_100 : decode cX3_write 100 = .ok (.aload_n 0, 1) := by decide +kernel
theorem dX3_write_101 : decode cX3_write 101 = .ok (.aload 5, 2) := by decide +kernel
theorem dX3_write_103 : decode cX3_write 103 = .ok (.invokevirtual 62, 3) := by decide +kernel
theorem dX3_write_106 : decode cX3_write 106 = .ok (.goto 17, 3) := by decide +kernel
theorem dX3_write_109 : decode cX3_write 109 = .ok (.aload 5, 2) := by decide +kernel
theorem dX3_write_111 : decode cX3_write 111 = .ok (.getfield 65, 3) := by decide +kernel
theorem dX3_write_114 : decode cX3_write 114 = .ok (.ifCond .eq 9, 3) := by decide +kernel
theorem dX3_write_117 : decode cX3_write 117 = .ok (.aload_n 0, 1) := by decide +kernel
theorem dX3_write_118 : decode cX3_write 118 = .ok (.aload 5, 2) := by decide +kernel
theorem dX3_write_120 : decode cX3_write 120 = .ok (.invokevirtual 69, 3) := by decide +kernel
theorem dX3_write_123 : decode cX3_write 123 = .ok (.iinc 4 1, 3) := by decide +kernel
theorem dX3_write_126 : decode cX3_write 126 = .ok (.goto (-82), 3) := by decide +kernel
theorem dX3_write_129 : decode cX3_write 129 = .ok (.iconst 0, 1) := by decide +kernel
theorem dX3_write_130 : decode cX3_write 130 = .ok (.istore 4, 2) := by decide +kernel
theorem dX3_write_132 : decode cX3_write 132 = .ok (.iload 4, 2) := by decide +kernel
theorem dX3_write_134 : decode cX3_write 134 = .ok (.aload_n 0, 1) := by decide +kernel
theorem dX3_write_135 : decode cX3_write 135 = .ok (.getfield 36, 3) := by decide +kernel
theorem dX3_write_138 : decode cX3_write 138 = .ok (.getfield 72, 3) := by decide +kernel
theorem dX3_write_141 : decode cX3_write 141 = .ok (.if_icmp .ge 70, 3) := by decide +kernel
theorem dX3_write_144 : decode cX3_write 144 = .ok (.aload_n 0, 1) := by decide +kernel
theorem dX3_write_145 : decode cX3_write 145 = .ok (.getfield 36, 3) := by decide +kernel
theorem dX3_write_148 : decode cX3_write 148 = .ok (.getfield 75, 3) := by decide +kernel
theorem dX3_write_151 : decode cX3_write 151 = .ok (.iload 4, 2) := by decide +kernel
theorem dX3_write_153 : decode cX3_write 153 = .ok (.aaload, 1) := by decide +kernel
theorem dX3_write_154 : decode cX3_write 154 = .ok (.astore 5, 2) := by decide +kernel
theorem dX3_write_156 : decode cX3_write 156 = .ok (.aload 5, 2) := by decide +kernel
theorem dX3_write_158 : decode cX3_write 158 = .ok (.getfield 78, 3) := by decide +kernel
theorem dX3_write_161 : decode cX3_write 161 = .ok (.ifCond .eq 21, 3) := by decide +kernel
theorem dX3_write_164 : decode cX3_write 164 = .ok (.aload_n 0, 1) := by decide +kernel
theorem dX3_write_165 : decode cX3_write 165 = .ok (.aload 5, 2) := by decide +kernel
theorem dX3_write_167 : decode cX3_write 167 = .ok (.aload_n 0, 1) := by decide +kernel
theorem dX3_write_168 : decode cX3_write 168 = .ok (.getfield 36, 3) := by decide +kernel
theorem dX3_write_171 : decode cX3_write 171 = .ok (.aload 5, 2) := by decide +kernel
theorem dX3_write_173 : decode cX3_write 173 = .ok (.invokevirtual 81, 3) := by decide +kernel
theorem dX3_write_176 : decode cX3_write 176 = .ok (.invokevirtual 85, 3) := by decide +kernel
theorem dX3_write_179 : decode cX3_write 179 = .ok (.goto 26, 3) := by decide +kernel
theorem dX3_write_182 : decode cX3_write 182 = .ok (.aload 5, 2) := by decide +kernel
theorem dX3_write_184 : decode cX3_write 184 = .ok (.getfield 53, 3) := by decide +kernel
theorem dX3_write_187 : decode cX3_write 187 = .ok (.iconst 2, 1) := by decide +kernel
theorem dX3_write_188 : decode cX3_write 188 = .ok (.if_icmp .ne 17, 3) := by decide +kernel
theorem dX3_write_191 : decode cX3_write 191 = .ok (.aload 5, 2) := by decide +kernel
theorem dX3_write_193 : decode cX3_write 193 = .ok (.getfield 65, 3) := by decide +kernel
theorem dX3_write_196 : decode cX3_write 196 = .ok (.ifCond .ne 9, 3) := by decide +kernel
theorem dX3_write_199 : decode cX3_write 199 = .ok (.aload_n 0, 1) := by decide +kernel
theorem dX3_write_200 : decode cX3_write 200 = .ok (.aload 5, 2) := by decide +kernel
theorem dX3_write_202 : decode cX3_write 202 = .ok (.invokevirtual 62, 3) := by decide +kernel
theorem dX3_write_205 : decode cX3_write 205 = .ok (.iinc 4 1, 3) := by decide +kernel
theorem dX3_write_208 : decode cX3_write 208 = .ok (.goto (-76), 3) := by decide +kernel
theorem dX3_write_211 : decode cX3_write 211 = .ok (.aload_n 0, 1) := by decide +kernel
theorem dX3_write_212 : decode cX3_write 212 = .ok (.invokevirtual 88, 3) := by decide +kernel
theorem dX3_write_215 : decode cX3_write 215 = .ok (.iinc 3 1, 3) := by decide +kernel
theorem dX3_write_218 : decode cX3_write 218 = .ok (.goto (-206), 3) := by decide +kernel
theorem dX3_write_221 : decode cX3_write 221 = .ok (.return_, 1) := by decide +kernel
theorem dX3_openRow_0 : decode cX3_openRow 0 = .ok (.aload_n 0, 1) := by decide +kernel
theorem dX3_openRow_1 : decode cX3_openRow 1 = .ok (.aload_n 1, 1) := by decide +kernel
theorem dX3_openRow_2 : decode cX3_openRow 2 = .ok (.putfield 36, 3) := by decide +kernel
theorem dX3_openRow_5 : decode cX3_openRow 5 = .ok (.aload_n 0, 1) := by decide +kernel
theorem dX3_openRow_6 : decode cX3_openRow 6 = .ok (.getfield 36, 3) := by decide +kernel
theorem dX3_openRow_9 : decode cX3_openRow 9 = .ok (.aload_n 0, 1) := by decide +kernel
theorem dX3_openRow_10 : decode cX3_openRow 10 = .ok (.getfield 15, 3) := by decide +kernel
theorem dX3_openRow_13 : decode cX3_openRow 13 = .ok (.getfield 91, 3) := by decide +kernel
theorem dX3_openRow_16 : decode cX3_openRow 16 = .ok (.putfield 94, 3) := by decide +kernel
theorem dX3_openRow_19 : decode cX3_openRow 19 = .ok (.aload_n 0, 1) := by decide +kernel
theorem dX3_openRow_20 : decode cX3_openRow 20 = .ok (.getfield 36, 3) := by decide +kernel
theorem dX3_openRow_23 : decode cX3_openRow 23 = .ok (.aload_n 0, 1) := by decide +kernel
theorem dX3_openRow_24 : decode cX3_openRow 24 = .ok (.getfield 15, 3) := by decide +kernel
theorem dX3_openRow_27 : decode cX3_openRow 27 = .ok (.invokevirtual 97, 3) := by decide +kernel
theorem dX3_openRow_30 : decode cX3_openRow 30 = .ok (.putfield 101, 3) := by decide +kernel
theorem dX3_openRow_33 : decode cX3_openRow 33 = .ok (.aload_n 0, 1) := by decide +kernel
theorem dX3_openRow_34 : decode cX3_openRow 34 = .ok (.getfield 36, 3) := by decide +kernel
theorem dX3_openRow_37 : decode cX3_openRow 37 = .ok (.getfield 101, 3) := by decide +kernel
theorem dX3_openRow_40 : decode cX3_openRow 40 = .ok (.iconst 3, 1) := by decide +kernel
theorem dX3_openRow_41 : decode cX3_openRow 41 = .ok (.putfield 53, 3) := by decide +kernel
theorem dX3_openRow_44 : decode cX3_openRow 44 = .ok (.aload_n 0, 1) := by decide +kernel
theorem dX3_openRow_45 : decode cX3_openRow 45 = .ok (.getfield 36, 3) := by decide +kernel
theorem dX3_openRow_48 : decode cX3_openRow 48 = .ok (.getfield 101, 3) := by decide +kernel
theorem dX3_openRow_51 : decode cX3_openRow 51 = .ok (.bipush (-2), 2) := by decide +kernel
theorem dX3_openRow_53 : decode cX3_openRow 53 = .ok (.putfield 104, 3) := by decide +kernel
theorem dX3_openRow_56 : decode cX3_openRow 56 = .ok (.aload_n 0, 1) := by decide +kernel
theorem dX3_openRow_57 : decode cX3_openRow 57 = .ok (.getfield 36, 3) := by decide +kernel
theorem dX3_openRow_60 : decode cX3_openRow 60 = .ok (.bipush (-2), 2) := by decide +kernel
theorem dX3_openRow_62 : decode cX3_openRow 62 = .ok (.putfield 107, 3) := by decide +kernel
theorem dX3_openRow_65 : decode cX3_openRow 65 = .ok (.aload_n 0, 1) := by decide +kernel
theorem dX3_openRow_66 : decode cX3_openRow 66 = .ok (.getfield 36, 3) := by decide +kernel
theorem dX3_openRow_69 : decode cX3_openRow 69 = .ok (.iconst 0, 1) := by decide +kernel
theorem dX3_openRow_70 : decode cX3_openRow 70 = .ok (.putfield 110, 3) := by decide +kernel
theorem dX3_openRow_73 : decode cX3_openRow 73 = .ok (.aload_n 0, 1) := by decide +kernel
theorem dX3_openRow_74 : decode cX3_openRow 74 = .ok (.bipush (-2), 2) := by decide +kernel
theorem dX3_openRow_76 : decode cX3_openRow 76 = .ok (.putfield 113, 3) := by decide +kernel
theorem dX3_openRow_79 : decode cX3_openRow 79 = .ok (.aload_n 0, 1) := by decide +kernel
theorem dX3_openRow_80 : decode cX3_openRow 80 = .ok (.bipush (-2), 2) := by decide +kernel
theorem dX3_openRow_82 : decode cX3_openRow 82 = .ok (.putfield 116, 3) := by decide +kernel
theorem dX3_openRow_85 : decode cX3_openRow 85 = .ok (.iconst 0, 1) := by decide +kernel
theorem dX3_openRow_86 : decode cX3_openRow 86 = .ok (.istore_n 2, 1) := by decide +kernel
theorem dX3_openRow_87 : decode cX3_openRow 87 = .ok (.iconst 0, 1) := by decide +kernel
theorem dX3_openRow_88 : decode cX3_openRow 88 = .ok (.istore_n 3, 1) := by decide +kernel
theorem dX3_openRow_89 : decode cX3_openRow 89 = .ok (.iload_n 3, 1) := by decide +kernel
theorem dX3_openRow_90 : decode cX3_openRow 90 = .ok (.aload_n 0, 1) := by decide +kernel
theorem dX3_openRow_91 : decode cX3_openRow 91 = .ok (.getfield 36, 3) := by decide +kernel
theorem dX3_openRow_94 : decode cX3_openRow 94 = .ok (.getfield 72, 3) := by decide +kernel
theorem dX3_openRow_97 : decode cX3_openRow 97 = .ok (.if_icmp .ge 93, 3) := by decide +kernel
theorem dX3_openRow_100 : decode cX3_openRow 100 = .ok (.aload_n 0, 1) := by decide +kernel
theorem dX3_openRow_101 : decode cX3_openRow 101 = .ok (.getfield 36, 3) := by decide +kernel
theorem dX3_openRow_104 : decode cX3_openRow 104 = .ok (.getfield 75, 3) := by decide +kernel
theorem dX3_openRow_107 : decode cX3_openRow 107 = .ok (.iload_n 3, 1) := by decide +kernel
theorem dX3_openRow_108 : decode cX3_openRow 108 = .ok (.aaload, 1) := by decide +kernel
theorem dX3_openRow_109 : decode cX3_openRow 109 = .ok (.astore 4, 2) := by decide +kernel
theorem dX3_openRow_111 : decode cX3_openRow 111 = .ok (.aload 4, 2) := by decide +kernel
theorem dX3_openRow_113 : decode cX3_openRow 113 = .ok (.getfield 53, 3) := by decide +kernel
theorem dX3_openRow_116 : decode cX3_openRow 116 = .ok (.ifCond .ne 68, 3) := by decide +kernel
theorem dX3_openRow_119 : decode cX3_openRow 119 = .ok (.aload 4, 2) := by decide +kernel
theorem dX3_openRow_121 : decode cX3_openRow 121 = .ok (.aload 4, 2) := by decide +kernel
theorem dX3_openRow_123 : decode cX3_openRow 123 = .ok (.getfield 119, 3) := by decide +kernel
theorem dX3_openRow_126 : decode cX3_openRow 126 = .ok (.ifCond .eq 7, 3) := by decide +kernel
theorem dX3_openRow_129 : decode cX3_openRow 129 = .ok (.iload_n 2, 1) := by decide +kernel
theorem dX3_openRow_130 : decode cX3_openRow 130 = .ok (.goto 10, 3) := by decide +kernel
theorem dX3_openRow_133 : decode cX3_openRow 133 = .ok (.aload_n 0, 1) := by decide +kernel
theorem dX3_openRow_134 : decode cX3_openRow 134 = .ok (.getfield 36, 3) := by decide +kernel
theorem dX3_openRow_137 : decode cX3_openRow 137 = .ok (.getfield 110, 3) := by decide +kernel
theorem dX3_openRow_140 : decode cX3_openRow 140 = .ok (.putfield 104, 3) := by decide +kernel
theorem dX3_openRow_143 : decode cX3_openRow 143 = .ok (.iload_n 2, 1) := by decide +kernel
theorem dX3_openRow_144 : decode cX3_openRow 144 = .ok (.aload 4, 2) := by decide +kernel
theorem dX3_openRow_146 : decode cX3_openRow 146 = .ok (.getfield 119, 3) := by decide +kernel
theorem dX3_openRow_149 : decode cX3_openRow 149 = .ok (.ifCond .eq 7, 3) := by decide +kernel
theorem dX3_openRow_152 : decode cX3_openRow 152 = .ok (.iconst 1, 1) := by decide +kernel
theorem dX3_openRow_153 : decode cX3_openRow 153 = .ok (.goto 4, 3) := by decide +kernel
theorem dX3_openRow_156 : decode cX3_openRow 156 = .ok (.iconst 0, 1) := by decide +kernel
theorem dX3_openRow_157 : decode cX3_openRow 157 = .ok (.iadd, 1) := by decide +kernel
theorem dX3_openRow_158 : decode cX3_openRow 158 = .ok (.istore_n 2, 1) := by decide +kernel
theorem dX3_openRow_159 : decode cX3_openRow 159 = .ok (.aload_n 0, 1) := by decide +kernel
theorem dX3_openRow_160 : decode cX3_openRow 160 = .ok (.getfield 36, 3) := by decide +kernel
theorem dX3_openRow_163 : decode cX3_openRow 163 = .ok (.dup, 1) := by decide +kernel
theorem dX3_openRow_164 : decode cX3_openRow 164 = .ok (.getfield 110, 3) := by decide +kernel
theorem dX3_openRow_167 : decode cX3_openRow 167 = .ok (.aload 4, 2) := by decide +kernel
theorem dX3_openRow_169 : decode cX3_openRow 169 = .ok (.getfield 119, 3) := by decide +kernel
theorem dX3_openRow_172 : decode cX3_openRow 172 = .ok (.ifCond .eq 7, 3) := by decide +kernel
theorem dX3_openRow_175 : decode cX3_openRow 175 = .ok (.iconst 0, 1) := by decide +kernel
theorem dX3_openRow_176 : decode cX3_openRow 176 = .ok (.goto 4, 3) := by decide +kernel
theorem dX3_openRow_179 : decode cX3_openRow 179 = .ok (.iconst 1, 1) := by decide +kernel
theorem dX3_openRow_180 : decode cX3_openRow 180 = .ok (.iadd, 1) := by decide +kernel
theorem dX3_openRow_181 : decode cX3_openRow 181 = .ok (.putfield 110, 3) := by decide +kernel
theorem dX3_openRow_184 : decode cX3_openRow 184 = .ok (.iinc 3 1, 3) := by decide +kernel
theorem dX3_openRow_187 : decode cX3_openRow 187 = .ok (.goto (-98), 3) := by decide +kernel
theorem dX3_openRow_190 : decode cX3_openRow 190 = .ok (.aload_n 0, 1) := by decide +kernel
theorem dX3_openRow_191 : decode cX3_openRow 191 = .ok (.getfield 36, 3) := by decide +kernel
theorem dX3_openRow_194 : decode cX3_openRow 194 = .ok (.getfield 122, 3) := by decide +kernel
theorem dX3_openRow_197 : decode cX3_openRow 197 = .ok (.ifCond .eq 21, 3) := by decide +kernel
theorem dX3_openRow_200 : decode cX3_openRow 200 = .ok (.aload_n 0, 1) := by decide +kernel
theorem dX3_openRow_201 : decode cX3_openRow 201 = .ok (.bipush 18, 2) := by decide +kernel
theorem dX3_openRow_203 : decode cX3_openRow 203 = .ok (.aload_n 0, 1) := by decide +kernel
theorem dX3_openRow_204 : decode cX3_openRow 204 = .ok (.getfield 36, 3) := by decide +kernel
theorem dX3_openRow_207 : decode cX3_openRow 207 = .ok (.getfield 125, 3) := by decide +kernel
theorem dX3_openRow_210 : decode cX3_openRow 210 = .ok (.aconst_null, 1) := by decide +kernel
theorem dX3_openRow_211 : decode cX3_openRow 211 = .ok (.ldc2_w 129, 3) := by decide +kernel
theorem dX3_openRow_214 : decode cX3_openRow 214 = .ok (.invokevirtual 131, 3) := by decide +kernel
theorem dX3_openRow_217 : decode cX3_openRow 217 = .ok (.pop, 1) := by decide +kernel
theorem dX3_openRow_218 : decode cX3_openRow 218 = .ok (.iconst 0, 1) := by decide +kernel
theorem dX3_openRow_219 : decode cX3_openRow 219 = .ok (.istore_n 3, 1) := by decide +kernel
theorem dX3_openRow_220 : decode cX3_openRow 220 = .ok (.iload_n 3, 1) := by decide +kernel
theorem dX3_openRow_221 : decode cX3_openRow 221 = .ok (.aload_n 0, 1) := by decide +kernel
theorem dX3_openRow_222 : decode cX3_openRow 222 = .ok (.getfield 36, 3) := by decide +kernel
theorem dX3_openRow_225 : decode cX3_openRow 225 = .ok (.getfield 135, 3) := by decide +kernel
theorem dX3_openRow_228 : decode cX3_openRow 228 = .ok (.iconst 0, 1) := by decide +kernel
theorem dX3_openRow_229 : decode cX3_openRow 229 = .ok (.iaload, 1) := by decide +kernel
theorem dX3_openRow_230 : decode cX3_openRow 230 = .ok (.if_icmp .ge 29, 3) := by decide +kernel
theorem dX3_openRow_233 : decode cX3_openRow 233 = .ok (.aload_n 0, 1) := by decide +kernel
theorem dX3_openRow_234 : decode cX3_openRow 234 = .ok (.bipush 19, 2) := by decide +kernel
theorem dX3_openRow_236 : decode cX3_openRow 236 = .ok (.aload_n 0, 1) := by decide +kernel
theorem dX3_openRow_237 : decode cX3_openRow 237 = .ok (.getfield 36, 3) := by decide +kernel
theorem dX3_openRow_240 : decode cX3_openRow 240 = .ok (.iconst 0, 1) := by decide +kernel
theorem dX3_openRow_241 : decode cX3_openRow 241 = .ok (.iload_n 3, 1) := by decide +kernel
theorem dX3_openRow_242 : decode cX3_openRow 242 = .ok (.invokevirtual 139, 3) := by decide +kernel
theorem dX3_openRow_245 : decode cX3_openRow 245 = .ok (.aconst_null, 1) := by decide +kernel
theorem dX3_openRow_246 : decode cX3_openRow 246 = .ok (.ldc2_w 129, 3) := by decide +kernel
theorem dX3_openRow_249 : decode cX3_openRow 249 = .ok (.invokevirtual 131, 3) := by decide +kernel
theorem dX3_openRow_252 : decode cX3_openRow 252 = .ok (.pop, 1) := by decide +kernel
theorem dX3_openRow_253 : decode cX3_openRow 253 = .ok (.iinc 3 1, 3) := by decide +kernel
theorem dX3_openRow_256 : decode cX3_openRow 256 = .ok (.goto (-36), 3) := by decide +kernel
theorem dX3_openRow_259 : decode cX3_openRow 259 = .ok (.return_, 1) := by decide +kernel
theorem dX3_closeRow_0 : decode cX3_closeRow 0 = .ok (.aload_n 0, 1) := by decide +kernel
theorem dX3_closeRow_1 : decode cX3_closeRow 1 = .ok (.getfield 36, 3) := by decide +kernel
theorem dX3_closeRow_4 : decode cX3_closeRow 4 = .ok (.aload_n 0, 1) := by decide +kernel
theorem dX3_closeRow_5 : decode cX3_closeRow 5 = .ok (.getfield 15, 3) := by decide +kernel
theorem dX3_closeRow_8 : decode cX3_closeRow 8 = .ok (.getfield 91, 3) := by decide +kernel
theorem dX3_closeRow_11 : decode cX3_closeRow 11 = .ok (.aload_n 0, 1) := by decide +kernel
theorem dX3_closeRow_12 : decode cX3_closeRow 12 = .ok (.getfield 36, 3) := by decide +kernel
theorem dX3_closeRow_15 : decode cX3_closeRow 15 = .ok (.getfield 94, 3) := by decide +kernel
theorem dX3_closeRow_18 : decode cX3_closeRow 18 = .ok (.isub, 1) := by decide +kernel
theorem dX3_closeRow_19 : decode cX3_closeRow 19 = .ok (.putfield 143, 3) := by decide +kernel
theorem dX3_closeRow_22 : decode cX3_closeRow 22 = .ok (.aload_n 0, 1) := by decide +kernel
theorem dX3_closeRow_23 : decode cX3_closeRow 23 = .ok (.getfield 36, 3) := by decide +kernel
theorem dX3_closeRow_26 : decode cX3_closeRow 26 = .ok (.getfield 101, 3) := by decide +kernel
theorem dX3_closeRow_29 : decode cX3_closeRow 29 = .ok (.getfield 104, 3) := by decide +kernel
theorem dX3_closeRow_32 : decode cX3_closeRow 32 = .ok (.ifCond .ge 20, 3) := by decide +kernel
theorem dX3_closeRow_35 : decode cX3_closeRow 35 = .ok (.aload_n 0, 1) := by decide +kernel
theorem dX3_closeRow_36 : decode cX3_closeRow 36 = .ok (.getfield 36, 3) := by decide +kernel
theorem dX3_closeRow_39 : decode cX3_closeRow 39 = .ok (.getfield 101, 3) := by decide +kernel
theorem dX3_closeRow_42 : decode cX3_closeRow 42 = .ok (.aload_n 0, 1) := by decide +kernel
theorem dX3_closeRow_43 : decode cX3_closeRow 43 = .ok (.getfield 15, 3) := by decide +kernel
theorem dX3_closeRow_46 : decode cX3_closeRow 46 = .ok (.getfield 144, 3) := by decide +kernel
theorem dX3_closeRow_49 : decode cX3_closeRow 49 = .ok (.putfield 104, 3) := by decide +kernel
theorem dX3_closeRow_52 : decode cX3_closeRow 52 = .ok (.aload_n 0, 1) := by decide +kernel
theorem dX3_closeRow_53 : decode cX3_closeRow 53 = .ok (.getfield 15, 3) := by decide +kernel
theorem dX3_closeRow_56 : decode cX3_closeRow 56 = .ok (.aload_n 0, 1) := by decide +kernel
theorem dX3_closeRow_57 : decode cX3_closeRow 57 = .ok (.getfield 113, 3) := by decide +kernel
theorem dX3_closeRow_60 : decode cX3_closeRow 60 = .ok (.invokevirtual 147, 3) := by decide +kernel
theorem dX3_closeRow_63 : decode cX3_closeRow 63 = .ok (.aload_n 0, 1) := by decide +kernel
theorem dX3_closeRow_64 : decode cX3_closeRow 64 = .ok (.getfield 15, 3) := by decide +kernel
theorem dX3_closeRow_67 : decode cX3_closeRow 67 = .ok (.bipush 22, 2) := by decide +kernel
theorem dX3_closeRow_69 : decode cX3_closeRow 69 = .ok (.iconst 0, 1) := by decide +kernel
theorem dX3_closeRow_70 : decode cX3_closeRow 70 = .ok (.invokevirtual 151, 3) := by decide +kernel
theorem dX3_closeRow_73 : decode cX3_closeRow 73 = .ok (.pop, 1) := by decide +kernel
theorem dX3_closeRow_74 : decode cX3_closeRow 74 = .ok (.aload_n 0, 1) := by decide +kernel
theorem dX3_closeRow_75 : decode cX3_closeRow 75 = .ok (.getfield 36, 3) := by decide +kernel
theorem dX3_closeRow_78 : decode cX3_closeRow 78 = .ok (.getfield 107, 3) := by decide +kernel
theorem dX3_closeRow_81 : decode cX3_closeRow 81 = .ok (.ifCond .ge 17, 3) := by decide +kernel
theorem dX3_closeRow_84 : decode cX3_closeRow 84 = .ok (.aload_n 0, 1) := by decide +kernel
theorem dX3_closeRow_85 : decode cX3_closeRow 85 = .ok (.getfield 36, 3) := by decide +kernel
theorem dX3_closeRow_88 : decode cX3_closeRow 88 = .ok (.aload_n 0, 1) := by decide +kernel
theorem dX3_closeRow_89 : decode cX3_closeRow 89 = .ok (.getfield 15, 3) := by decide +kernel
theorem dX3_closeRow_92 : decode cX3_closeRow 92 = .ok (.getfield 144, 3) := by decide +kernel
theorem dX3_closeRow_95 : decode cX3_closeRow 95 = .ok (.putfield 107, 3) := by decide +kernel
theorem dX3_closeRow_98 : decode cX3_closeRow 98 = .ok (.aload_n 0, 1) := by decide +kernel
theorem dX3_closeRow_99 : decode cX3_closeRow 99 = .ok (.getfield 15, 3) := by decide +kernel
theorem dX3_closeRow_102 : decode cX3_closeRow 102 = .ok (.aload_n 0, 1) := by decide +kernel
theorem dX3_closeRow_103 : decode cX3_closeRow 103 = .ok (.getfield 116, 3) := by decide +kernel
theorem dX3_closeRow_106 : decode cX3_closeRow 106 = .ok (.invokevirtual 147, 3) := by decide +kernel
theorem dX3_closeRow_109 : decode cX3_closeRow 109 = .ok (.aload_n 0, 1) := by decide +kernel
theorem dX3_closeRow_110 : decode cX3_closeRow 110 = .ok (.getfield 15, 3) := by decide +kernel
theorem dX3_closeRow_113 : decode cX3_closeRow 113 = .ok (.bipush 21, 2) := by decide +kernel
theorem dX3_closeRow_115 : decode cX3_closeRow 115 = .ok (.iconst 0, 1) := by decide +kernel
theorem dX3_closeRow_116 : decode cX3_closeRow 116 = .ok (.invokevirtual 151, 3) := by decide +kernel
theorem dX3_closeRow_119 : decode cX3_closeRow 119 = .ok (.pop, 1) := by decide +kernel
theorem dX3_closeRow_120 : decode cX3_closeRow 120 = .ok (.return_, 1) := by decide +kernel
theorem dX3_openStart_0 : decode cX3_openStart 0 = .ok (.aload_n 0, 1) := by decide +kernel
theorem dX3_openStart_1 : decode cX3_openStart 1 = .ok (.getfield 36, 3) := by decide +kernel
theorem dX3_openStart_4 : decode cX3_openStart 4 = .ok (.getfield 101, 3) := by decide +kernel
theorem dX3_openStart_7 : decode cX3_openStart 7 = .ok (.getfield 104, 3) := by decide +kernel
theorem dX3_openStart_10 : decode cX3_openStart 10 = .ok (.ifCond .ge 20, 3) := by decide +kernel
theorem dX3_openStart_13 : decode cX3_openStart 13 = .ok (.aload_n 0, 1) := by decide +kernel
theorem dX3_openStart_14 : decode cX3_openStart 14 = .ok (.getfield 36, 3) := by decide +kernel
theorem dX3_openStart_17 : decode cX3_openStart 17 = .ok (.getfield 101, 3) := by decide +kernel
theorem dX3_openStart_20 : decode cX3_openStart 20 = .ok (.aload_n 0, 1) := by decide +kernel
theorem dX3_openStart_21 : decode cX3_openStart 21 = .ok (.getfield 15, 3) := by decide +kernel
theorem dX3_openStart_24 : decode cX3_openStart 24 = .ok (.getfield 144, 3) := by decide +kernel
theorem dX3_openStart_27 : decode cX3_openStart 27 = .ok (.putfield 104, 3) := by decide +kernel
theorem dX3_openStart_30 : decode cX3_openStart 30 = .ok (.aload_n 0, 1) := by decide +kernel
theorem dX3_openStart_31 : decode cX3_openStart 31 = .ok (.getfield 15, 3) := by decide +kernel
theorem dX3_openStart_34 : decode cX3_openStart 34 = .ok (.aload_n 0, 1) := by decide +kernel
theorem dX3_openStart_35 : decode cX3_openStart 35 = .ok (.getfield 113, 3) := by decide +kernel
theorem dX3_openStart_38 : decode cX3_openStart 38 = .ok (.invokevirtual 147, 3) := by decide +kernel
theorem dX3_openStart_41 : decode cX3_openStart 41 = .ok (.return_, 1) := by decide +kernel
theorem dX3_body_0 : decode cX3_body 0 = .ok (.aload_n 1, 1) := by decide +kernel
theorem dX3_body_1 : decode cX3_body 1 = .ok (.getfield 53, 3) := by decide +kernel
theorem dX3_body_4 : decode cX3_body 4 = .ok (.iconst 3, 1) := by decide +kernel
theorem dX3_body_5 : decode cX3_body 5 = .ok (.if_icmp .ne 59, 3) := by decide +kernel
theorem dX3_body_8 : decode cX3_body 8 = .ok (.aload_n 0, 1) := by decide +kernel
theorem dX3_body_9 : decode cX3_body 9 = .ok (.invokevirtual 155, 3) := by decide +kernel
theorem dX3_body_12 : decode cX3_body 12 = .ok (.aload_n 0, 1) := by decide +kernel
theorem dX3_body_13 : decode cX3_body 13 = .ok (.getfield 36, 3) := by decide +kernel
theorem dX3_body_16 : decode cX3_body 16 = .ok (.getfield 101, 3) := by decide +kernel
theorem dX3_body_19 : decode cX3_body 19 = .ok (.aload_n 0, 1) := by decide +kernel
theorem dX3_body_20 : decode cX3_body 20 = .ok (.getfield 36, 3) := by decide +kernel
theorem dX3_body_23 : decode cX3_body 23 = .ok (.getfield 101, 3) := by decide +kernel
theorem dX3_body_26 : decode cX3_body 26 = .ok (.getfield 158, 3) := by decide +kernel
theorem dX3_body_29 : decode cX3_body 29 = .ok (.aload_n 1, 1) := by decide +kernel
theorem dX3_body_30 : decode cX3_body 30 = .ok (.getfield 158, 3) := by decide +kernel
theorem dX3_body_33 : decode cX3_body 33 = .ok (.invokestatic 161, 3) := by decide +kernel
theorem dX3_body_36 : decode cX3_body 36 = .ok (.putfield 158, 3) := by decide +kernel
theorem dX3_body_39 : decode cX3_body 39 = .ok (.aload_n 0, 1) := by decide +kernel
theorem dX3_body_40 : decode cX3_body 40 = .ok (.aload_n 1, 1) := by decide +kernel
theorem dX3_body_41 : decode cX3_body 41 = .ok (.getfield 166, 3) := by decide +kernel
theorem dX3_body_44 : decode cX3_body 44 = .ok (.invokevirtual 169, 3) := by decide +kernel
theorem dX3_body_47 : decode cX3_body 47 = .ok (.aload_n 0, 1) := by decide +kernel
theorem dX3_body_48 : decode cX3_body 48 = .ok (.aload_n 0, 1) := by decide +kernel
theorem dX3_body_49 : decode cX3_body 49 = .ok (.getfield 15, 3) := by decide +kernel
theorem dX3_body_52 : decode cX3_body 52 = .ok (.bipush 12, 2) := by decide +kernel
theorem dX3_body_54 : decode cX3_body 54 = .ok (.iconst 0, 1) := by decide +kernel
theorem dX3_body_55 : decode cX3_body 55 = .ok (.invokevirtual 151, 3) := by decide +kernel
theorem dX3_body_58 : decode cX3_body 58 = .ok (.putfield 113, 3) := by decide +kernel
theorem dX3_body_61 : decode cX3_body 61 = .ok (.goto 33, 3) := by decide +kernel
theorem dX3_body_64 : decode cX3_body 64 = .ok (.aload_n 1, 1) := by decide +kernel
theorem dX3_body_65 : decode cX3_body 65 = .ok (.aload_n 0, 1) := by decide +kernel
theorem dX3_body_66 : decode cX3_body 66 = .ok (.getfield 15, 3) := by decide +kernel
theorem dX3_body_69 : decode cX3_body 69 = .ok (.getfield 144, 3) := by decide +kernel
theorem dX3_body_72 : decode cX3_body 72 = .ok (.putfield 104, 3) := by decide +kernel
theorem dX3_body_75 : decode cX3_body 75 = .ok (.aload_n 0, 1) := by decide +kernel
theorem dX3_body_76 : decode cX3_body 76 = .ok (.aload_n 1, 1) := by decide +kernel
theorem dX3_body_77 : decode cX3_body 77 = .ok (.getfield 166, 3) := by decide +kernel
theorem dX3_body_80 : decode cX3_body 80 = .ok (.invokevirtual 169, 3) := by decide +kernel
theorem dX3_body_83 : decode cX3_body 83 = .ok (.aload_n 0, 1) := by decide +kernel
theorem dX3_body_84 : decode cX3_body 84 = .ok (.getfield 15, 3) := by decide +kernel
theorem dX3_body_87 : decode cX3_body 87 = .ok (.bipush 18, 2) := by decide +kernel
theorem dX3_body_89 : decode cX3_body 89 = .ok (.iconst 0, 1) := by decide +kernel
theorem dX3_body_90 : decode cX3_body 90 = .ok (.invokevirtual 151, 3) := by decide +kernel
theorem dX3_body_93 : decode cX3_body 93 = .ok (.pop, 1) := by decide +kernel
theorem dX3_body_94 : decode cX3_body 94 = .ok (.return_, 1) := by decide +kernel
theorem dX3_field_0 : decode cX3_field 0 = .ok (.aload_n 1, 1) := by decide +kernel
theorem dX3_field_1 : decode cX3_field 1 = .ok (.getfield 166, 3) := by decide +kernel
theorem dX3_field_4 : decode cX3_field 4 = .ok (.ifnonnull 4, 3) := by decide +kernel
theorem dX3_field_7 : decode cX3_field 7 = .ok (.return_, 1) := by decide +kernel
theorem dX3_field_8 : decode cX3_field 8 = .ok (.aload_n 0, 1) := by decide +kernel
theorem dX3_field_9 : decode cX3_field 9 = .ok (.getfield 15, 3) := by decide +kernel
theorem dX3_field_12 : decode cX3_field 12 = .ok (.getfield 144, 3) := by decide +kernel
theorem dX3_field_15 : decode cX3_field 15 = .ok (.istore_n 2, 1) := by decide +kernel
theorem dX3_field_16 : decode cX3_field 16 = .ok (.aload_n 1, 1) := by decide +kernel
theorem dX3_field_17 : decode cX3_field 17 = .ok (.getfield 173, 3) := by decide +kernel
theorem dX3_field_20 : decode cX3_field 20 = .ok (.ifCond .eq 20, 3) := by decide +kernel
theorem dX3_field_23 : decode cX3_field 23 = .ok (.aload_n 0, 1) := by decide +kernel
theorem dX3_field_24 : decode cX3_field 24 = .ok (.aload_n 1, 1) := by decide +kernel
theorem dX3_field_25 : decode cX3_field 25 = .ok (.getfield 166, 3) := by decide +kernel
theorem dX3_field_28 : decode cX3_field 28 = .ok (.invokevirtual 176, 3) := by decide +kernel
theorem dX3_field_31 : decode cX3_field 31 = .ok (.aload_n 0, 1) := by decide +kernel
theorem dX3_field_32 : decode cX3_field 32 = .ok (.getfield 15, 3) := by decide +kernel
theorem dX3_field_35 : decode cX3_field 35 = .ok (.iload_n 2, 1) := by decide +kernel
theorem dX3_field_36 : decode cX3_field 36 = .ok (.putfield 144, 3) := by decide +kernel
theorem dX3_field_39 : decode cX3_field 39 = .ok (.return_, 1) := by decide +kernel
theorem dX3_field_40 : decode cX3_field 40 = .ok (.aload_n 1, 1) := by decide +kernel
theorem dX3_field_41 : decode cX3_field 41 = .ok (.getfield 119, 3) := by decide +kernel
theorem dX3_field_44 : decode cX3_field 44 = .ok (.ifCond .eq 10, 3) := by decide +kernel
theorem dX3_field_47 : decode cX3_field 47 = .ok (.aload_n 0, 1) := by decide +kernel
theorem dX3_field_48 : decode cX3_field 48 = .ok (.invokevirtual 155, 3) := by decide +kernel
theorem dX3_field_51 : decode cX3_field 51 = .ok (.goto 42, 3) := by decide +kernel
theorem dX3_field_54 : decode cX3_field 54 = .ok (.aload_n 0, 1) := by decide +kernel
theorem dX3_field_55 : decode cX3_field 55 = .ok (.getfield 36, 3) := by decide +kernel
theorem dX3_field_58 : decode cX3_field 58 = .ok (.getfield 107, 3) := by decide +kernel
theorem dX3_field_61 : decode cX3_field 61 = .ok (.ifCond .ge 11, 3) := by decide +kernel
theorem dX3_field_64 : decode cX3_field 64 = .ok (.aload_n 0, 1) := by decide +kernel
theorem dX3_field_65 : decode cX3_field 65 = .ok (.getfield 36, 3) := by decide +kernel
theorem dX3_field_68 : decode cX3_field 68 = .ok (.iload_n 2, 1) := by decide +kernel
theorem dX3_field_69 : decode cX3_field 69 = .ok (.putfield 107, 3) := by decide +kernel
theorem dX3_field_72 : decode cX3_field 72 = .ok (.aload_n 0, 1) := by decide +kernel
theorem dX3_field_73 : decode cX3_field 73 = .ok (.getfield 15, 3) := by decide +kernel
theorem dX3_field_76 : decode cX3_field 76 = .ok (.aload_n 0, 1) := by decide +kernel
theorem dX3_field_77 : decode cX3_field 77 = .ok (.getfield 116, 3) := by decide +kernel
theorem dX3_field_80 : decode cX3_field 80 = .ok (.invokevirtual 147, 3) := by decide +kernel
theorem dX3_field_83 : decode cX3_field 83 = .ok (.aload_n 0, 1) := by decide +kernel
theorem dX3_field_84 : decode cX3_field 84 = .ok (.getfield 15, 3) := by decide +kernel
theorem dX3_field_87 : decode cX3_field 87 = .ok (.iconst 3, 1) := by decide +kernel
theorem dX3_field_88 : decode cX3_field 88 = .ok (.iconst 0, 1) := by decide +kernel
theorem dX3_field_89 : decode cX3_field 89 = .ok (.invokevirtual 151, 3) := by decide +kernel
theorem dX3_field_92 : decode cX3_field 92 = .ok (.pop, 1) := by decide +kernel
theorem dX3_field_93 : decode cX3_field 93 = .ok (.aload_n 0, 1) := by decide +kernel
theorem dX3_field_94 : decode cX3_field 94 = .ok (.aload_n 1, 1) := by decide +kernel
theorem dX3_field_95 : decode cX3_field 95 = .ok (.getfield 166, 3) := by decide +kernel
theorem dX3_field_98 : decode cX3_field 98 = .ok (.invokevirtual 176, 3) := by decide +kernel
theorem dX3_field_101 : decode cX3_field 101 = .ok (.aload_n 0, 1) := by decide +kernel
theorem dX3_field_102 : decode cX3_field 102 = .ok (.bipush 17, 2) := by decide +kernel
theorem dX3_field_104 : decode cX3_field 104 = .ok (.aload_n 1, 1) := by decide +kernel
theorem dX3_field_105 : decode cX3_field 105 = .ok (.getfield 166, 3) := by decide +kernel
theorem dX3_field_108 : decode cX3_field 108 = .ok (.getfield 179, 3) := by decide +kernel
theorem dX3_field_111 : decode cX3_field 111 = .ok (.aconst_null, 1) := by decide +kernel
theorem dX3_field_112 : decode cX3_field 112 = .ok (.aload_n 1, 1) := by decide +kernel
theorem dX3_field_113 : decode cX3_field 113 = .ok (.getfield 184, 3) := by decide +kernel
theorem dX3_field_116 : decode cX3_field 116 = .ok (.invokevirtual 131, 3) := by decide +kernel
theorem dX3_field_119 : decode cX3_field 119 = .ok (.pop, 1) := by decide +kernel
theorem dX3_field_120 : decode cX3_field 120 = .ok (.aload_n 0, 1) := by decide +kernel
theorem dX3_field_121 : decode cX3_field 121 = .ok (.getfield 15, 3) := by decide +kernel
theorem dX3_field_124 : decode cX3_field 124 = .ok (.aload_n 1, 1) := by decide +kernel
theorem dX3_field_125 : decode cX3_field 125 = .ok (.getfield 119, 3) := by decide +kernel
theorem dX3_field_128 : decode cX3_field 128 = .ok (.ifCond .eq 8, 3) := by decide +kernel
theorem dX3_field_131 : decode cX3_field 131 = .ok (.bipush 24, 2) := by decide +kernel
theorem dX3_field_133 : decode cX3_field 133 = .ok (.goto 5, 3) := by decide +kernel
theorem dX3_field_136 : decode cX3_field 136 = .ok (.bipush 23, 2) := by decide +kernel
theorem dX3_field_138 : decode cX3_field 138 = .ok (.aload_n 1, 1) := by decide +kernel
theorem dX3_field_139 : decode cX3_field 139 = .ok (.getfield 104, 3) := by decide +kernel
theorem dX3_field_142 : decode cX3_field 142 = .ok (.invokevirtual 151, 3) := by decide +kernel
theorem dX3_field_145 : decode cX3_field 145 = .ok (.pop, 1) := by decide +kernel
theorem dX3_field_146 : decode cX3_field 146 = .ok (.aload_n 1, 1) := by decide +kernel
theorem dX3_field_147 : decode cX3_field 147 = .ok (.getfield 119, 3) := by decide +kernel
theorem dX3_field_150 : decode cX3_field 150 = .ok (.ifCond .eq 20, 3) := by decide +kernel
theorem dX3_field_153 : decode cX3_field 153 = .ok (.aload_n 0, 1) := by decide +kernel
theorem dX3_field_154 : decode cX3_field 154 = .ok (.aload_n 0, 1) := by decide +kernel
theorem dX3_field_155 : decode cX3_field 155 = .ok (.getfield 15, 3) := by decide +kernel
theorem dX3_field_158 : decode cX3_field 158 = .ok (.bipush 12, 2) := by decide +kernel
theorem dX3_field_160 : decode cX3_field 160 = .ok (.iconst 0, 1) := by decide +kernel
theorem dX3_field_161 : decode cX3_field 161 = .ok (.invokevirtual 151, 3) := by decide +kernel
theorem dX3_field_164 : decode cX3_field 164 = .ok (.putfield 113, 3) := by decide +kernel
theorem dX3_field_167 : decode cX3_field 167 = .ok (.goto 17, 3) := by decide +kernel
theorem dX3_field_170 : decode cX3_field 170 = .ok (.aload_n 0, 1) := by decide +kernel
theorem dX3_field_171 : decode cX3_field 171 = .ok (.aload_n 0, 1) := by decide +kernel
theorem dX3_field_172 : decode cX3_field 172 = .ok (.getfield 15, 3) := by decide +kernel
theorem dX3_field_175 : decode cX3_field 175 = .ok (.bipush 12, 2) := by decide +kernel
theorem dX3_field_177 : decode cX3_field 177 = .ok (.iconst 0, 1) := by decide +kernel
theorem dX3_field_178 : decode cX3_field 178 = .ok (.invokevirtual 151, 3) := by decide +kernel
theorem dX3_field_181 : decode cX3_field 181 = .ok (.putfield 116, 3) := by decide +kernel
theorem dX3_field_184 : decode cX3_field 184 = .ok (.return_, 1) := by decide +kernel
theorem dX3_maker_0 : decode cX3_maker 0 = .ok (.aload_n 1, 1) := by decide +kernel
theorem dX3_maker_1 : decode cX3_maker 1 = .ok (.aload_n 0, 1) := by decide +kernel
theorem dX3_maker_2 : decode cX3_maker 2 = .ok (.getfield 15, 3) := by decide +kernel
theorem dX3_maker_5 : decode cX3_maker 5 = .ok (.getfield 144, 3) := by decide +kernel
theorem dX3_maker_8 : decode cX3_maker 8 = .ok (.putfield 104, 3) := by decide +kernel
theorem dX3_maker_11 : decode cX3_maker 11 = .ok (.aload_n 1, 1) := by decide +kernel
theorem dX3_maker_12 : decode cX3_maker 12 = .ok (.getfield 166, 3) := by decide +kernel
theorem dX3_maker_15 : decode cX3_maker 15 = .ok (.ifnonnull 7, 3) := by decide +kernel
theorem dX3_maker_18 : decode cX3_maker 18 = .ok (.aconst_null, 1) := by decide +kernel
theorem dX3_maker_19 : decode cX3_maker 19 = .ok (.goto 10, 3) := by decide +kernel
theorem dX3_maker_22 : decode cX3_maker 22 = .ok (.aload_n 1, 1) := by decide +kernel
theorem dX3_maker_23 : decode cX3_maker 23 = .ok (.getfield 166, 3) := by decide +kernel
theorem dX3_maker_26 : decode cX3_maker 26 = .ok (.getfield 185, 3) := by decide +kernel
theorem dX3_maker_29 : decode cX3_maker 29 = .ok (.astore_n 2, 1) := by decide +kernel
theorem dX3_maker_30 : decode cX3_maker 30 = .ok (.aload_n 2, 1) := by decide +kernel
theorem dX3_maker_31 : decode cX3_maker 31 = .ok (.ifnull 95, 3) := by decide +kernel
theorem dX3_maker_34 : decode cX3_maker 34 = .ok (.aload_n 2, 1) := by decide +kernel
theorem dX3_maker_35 : decode cX3_maker 35 = .ok (.getfield 188, 3) := by decide +kernel
theorem dX3_maker_38 : decode cX3_maker 38 = .ok (.bipush 38, 2) := by decide +kernel
theorem dX3_maker_40 : decode cX3_maker 40 = .ok (.if_icmp .ne 86, 3) := by decide +kernel
theorem dX3_maker_43 : decode cX3_maker 43 = .ok (.aload_n 0, 1) := by decide +kernel
theorem dX3_maker_44 : decode cX3_maker 44 = .ok (.getfield 15, 3) := by decide +kernel
theorem dX3_maker_47 : decode cX3_maker 47 = .ok (.iconst 1, 1) := by decide +kernel
theorem dX3_maker_48 : decode cX3_maker 48 = .ok (.iconst 0, 1) := by decide +kernel
theorem dX3_maker_49 : decode cX3_maker 49 = .ok (.invokevirtual 151, 3) := by decide +kernel
theorem dX3_maker_52 : decode cX3_maker 52 = .ok (.pop, 1) := by decide +kernel
theorem dX3_maker_53 : decode cX3_maker 53 = .ok (.aload_n 0, 1) := by decide +kernel
theorem dX3_maker_54 : decode cX3_maker 54 = .ok (.getfield 36, 3) := by decide +kernel
theorem dX3_maker_57 : decode cX3_maker 57 = .ok (.getfield 125, 3) := by decide +kernel
theorem dX3_maker_60 : decode cX3_maker 60 = .ok (.ldc2_w 189, 3) := by decide +kernel
theorem dX3_maker_63 : decode cX3_maker 63 = .ok (.lcmp, 1) := by decide +kernel
theorem dX3_maker_64 : decode cX3_maker 64 = .ok (.ifCond .eq 54, 3) := by decide +kernel
theorem dX3_maker_67 : decode cX3_maker 67 = .ok (.aload_n 0, 1) := by decide +kernel
theorem dX3_maker_68 : decode cX3_maker 68 = .ok (.getfield 15, 3) := by decide +kernel
theorem dX3_maker_71 : decode cX3_maker 71 = .ok (.iconst 3, 1) := by decide +kernel
theorem dX3_maker_72 : decode cX3_maker 72 = .ok (.iconst 0, 1) := by decide +kernel
theorem dX3_maker_73 : decode cX3_maker 73 = .ok (.invokevirtual 151, 3) := by decide +kernel
theorem dX3_maker_76 : decode cX3_maker 76 = .ok (.pop, 1) := by decide +kernel
theorem dX3_maker_77 : decode cX3_maker 77 = .ok (.aload_n 0, 1) := by decide +kernel
theorem dX3_maker_78 : decode cX3_maker 78 = .ok (.aload_n 2, 1) := by decide +kernel
theorem dX3_maker_79 : decode cX3_maker 79 = .ok (.getfield 185, 3) := by decide +kernel
theorem dX3_maker_82 : decode cX3_maker 82 = .ok (.aload_n 2, 1) := by decide +kernel
theorem dX3_maker_83 : decode cX3_maker 83 = .ok (.getfield 191, 3) := by decide +kernel
theorem dX3_maker_86 : decode cX3_maker 86 = .ok (.invokevirtual 192, 3) := by decide +kernel
theorem dX3_maker_89 : decode cX3_maker 89 = .ok (.aload_n 0, 1) := by decide +kernel
theorem dX3_maker_90 : decode cX3_maker 90 = .ok (.getfield 15, 3) := by decide +kernel
theorem dX3_maker_93 : decode cX3_maker 93 = .ok (.bipush 36, 2) := by decide +kernel
theorem dX3_maker_95 : decode cX3_maker 95 = .ok (.aload_n 0, 1) := by decide +kernel
theorem dX3_maker_96 : decode cX3_maker 96 = .ok (.iconst 2, 1) := by decide +kernel
theorem dX3_maker_97 : decode cX3_maker 97 = .ok (.aload_n 0, 1) := by decide +kernel
theorem dX3_maker_98 : decode cX3_maker 98 = .ok (.getfield 36, 3) := by decide +kernel
theorem dX3_maker_101 : decode cX3_maker 101 = .ok (.getfield 125, 3) := by decide +kernel
theorem dX3_maker_104 : decode cX3_maker 104 = .ok (.aload_n 2, 1) := by decide +kernel
theorem dX3_maker_105 : decode cX3_maker 105 = .ok (.getfield 191, 3) := by decide +kernel
theorem dX3_maker_108 : decode cX3_maker 108 = .ok (.ldc2_w 129, 3) := by decide +kernel
theorem dX3_maker_111 : decode cX3_maker 111 = .ok (.invokevirtual 131, 3) := by decide +kernel
theorem dX3_maker_114 : decode cX3_maker 114 = .ok (.invokevirtual 151, 3) := by decide +kernel
theorem dX3_maker_117 : decode cX3_maker 117 = .ok (.pop, 1) := by decide +kernel
theorem dX3_maker_118 : decode cX3_maker 118 = .ok (.aload_n 2, 1) := by decide +kernel
theorem dX3_maker_119 : decode cX3_maker 119 = .ok (.getfield 196, 3) := by decide +kernel
theorem dX3_maker_122 : decode cX3_maker 122 = .ok (.astore_n 2, 1) := by decide +kernel
theorem dX3_maker_123 : decode cX3_maker 123 = .ok (.goto 69, 3) := by decide +kernel
theorem dX3_maker_126 : decode cX3_maker 126 = .ok (.aload_n 0, 1) := by decide +kernel
theorem dX3_maker_127 : decode cX3_maker 127 = .ok (.getfield 36, 3) := by decide +kernel
theorem dX3_maker_130 : decode cX3_maker 130 = .ok (.getfield 125, 3) := by decide +kernel
theorem dX3_maker_133 : decode cX3_maker 133 = .ok (.ldc2_w 189, 3) := by decide +kernel
theorem dX3_maker_136 : decode cX3_maker 136 = .ok (.lcmp, 1) := by decide +kernel
theorem dX3_maker_137 : decode cX3_maker 137 = .ok (.ifCond .eq 55, 3) := by decide +kernel
theorem dX3_maker_140 : decode cX3_maker 140 = .ok (.aload_n 0, 1) := by decide +kernel
theorem dX3_maker_141 : decode cX3_maker 141 = .ok (.getfield 15, 3) := by decide +kernel
theorem dX3_maker_144 : decode cX3_maker 144 = .ok (.iconst 3, 1) := by decide +kernel
theorem dX3_maker_145 : decode cX3_maker 145 = .ok (.iconst 0, 1) := by decide +kernel
theorem dX3_maker_146 : decode cX3_maker 146 = .ok (.invokevirtual 151, 3) := by decide +kernel
theorem dX3_maker_149 : decode cX3_maker 149 = .ok (.pop, 1) := by decide +kernel
theorem dX3_maker_150 : decode cX3_maker 150 = .ok (.aload_n 0, 1) := by decide +kernel
theorem dX3_maker_151 : decode cX3_maker 151 = .ok (.getfield 15, 3) := by decide +kernel
theorem dX3_maker_154 : decode cX3_maker 154 = .ok (.bipush 36, 2) := by decide +kernel
theorem dX3_maker_156 : decode cX3_maker 156 = .ok (.aload_n 0, 1) := by decide +kernel
theorem dX3_maker_157 : decode cX3_maker 157 = .ok (.iconst 2, 1) := by decide +kernel
theorem dX3_maker_158 : decode cX3_maker 158 = .ok (.aload_n 0, 1) := by decide +kernel
theorem dX3_maker_159 : decode cX3_maker 159 = .ok (.getfield 36, 3) := by decide +kernel
theorem dX3_maker_162 : decode cX3_maker 162 = .ok (.getfield 125, 3) := by decide +kernel
theorem dX3_maker_165 : decode cX3_maker 165 = .ok (.aload_n 0, 1) := by decide +kernel
theorem dX3_maker_166 : decode cX3_maker 166 = .ok (.getfield 9, 3) := by decide +kernel
theorem dX3_maker_169 : decode cX3_maker 169 = .ok (.getfield 199, 3) := by decide +kernel
theorem dX3_maker_172 : decode cX3_maker 172 = .ok (.getfield 28, 3) := by decide +kernel
theorem dX3_maker_175 : decode cX3_maker 175 = .ok (.iconst 0, 1) := by decide +kernel
theorem dX3_maker_176 : decode cX3_maker 176 = .ok (.aaload, 1) := by decide +kernel
theorem dX3_maker_177 : decode cX3_maker 177 = .ok (.getfield 75, 3) := by decide +kernel
theorem dX3_maker_180 : decode cX3_maker 180 = .ok (.iconst 0, 1) := by decide +kernel
theorem dX3_maker_181 : decode cX3_maker 181 = .ok (.aaload, 1) := by decide +kernel
theorem dX3_maker_182 : decode cX3_maker 182 = .ok (.ldc2_w 129, 3) := by decide +kernel
theorem dX3_maker_185 : decode cX3_maker 185 = .ok (.invokevirtual 131, 3) := by decide +kernel
theorem dX3_maker_188 : decode cX3_maker 188 = .ok (.invokevirtual 151, 3) := by decide +kernel
theorem dX3_maker_191 : decode cX3_maker 191 = .ok (.pop, 1) := by decide +kernel
theorem dX3_maker_192 : decode cX3_maker 192 = .ok (.aload_n 0, 1) := by decide +kernel
theorem dX3_maker_193 : decode cX3_maker 193 = .ok (.getfield 15, 3) := by decide +kernel
theorem dX3_maker_196 : decode cX3_maker 196 = .ok (.bipush 20, 2) := by decide +kernel
theorem dX3_maker_198 : decode cX3_maker 198 = .ok (.iconst 0, 1) := by decide +kernel
theorem dX3_maker_199 : decode cX3_maker 199 = .ok (.invokevirtual 151, 3) := by decide +kernel
theorem dX3_maker_202 : decode cX3_maker 202 = .ok (.pop, 1) := by decide +kernel
theorem dX3_maker_203 : decode cX3_maker 203 = .ok (.aload_n 2, 1) := by decide +kernel
theorem dX3_maker_204 : decode cX3_maker 204 = .ok (.astore_n 3, 1) := by decide +kernel
theorem dX3_maker_205 : decode cX3_maker 205 = .ok (.aload_n 3, 1) := by decide +kernel
theorem dX3_maker_206 : decode cX3_maker 206 = .ok (.ifnull 16, 3) := by decide +kernel
theorem dX3_maker_209 : decode cX3_maker 209 = .ok (.aload_n 0, 1) := by decide +kernel
theorem dX3_maker_210 : decode cX3_maker 210 = .ok (.aload_n 3, 1) := by decide +kernel
theorem dX3_maker_211 : decode cX3_maker 211 = .ok (.invokevirtual 169, 3) := by decide +kernel
theorem dX3_maker_214 : decode cX3_maker 214 = .ok (.aload_n 3, 1) := by decide +kernel
theorem dX3_maker_215 : decode cX3_maker 215 = .ok (.getfield 196, 3) := by decide +kernel
theorem dX3_maker_218 : decode cX3_maker 218 = .ok (.astore_n 3, 1) := by decide +kernel
theorem dX3_maker_219 : decode cX3_maker 219 = .ok (.goto (-14), 3) := by decide +kernel
theorem dX3_maker_222 : decode cX3_maker 222 = .ok (.aload_n 0, 1) := by decide +kernel
theorem dX3_maker_223 : decode cX3_maker 223 = .ok (.getfield 15, 3) := by decide +kernel
theorem dX3_maker_226 : decode cX3_maker 226 = .ok (.bipush 18, 2) := by decide +kernel
theorem dX3_maker_228 : decode cX3_maker 228 = .ok (.iconst 0, 1) := by decide +kernel
theorem dX3_maker_229 : decode cX3_maker 229 = .ok (.invokevirtual 151, 3) := by decide +kernel
theorem dX3_maker_232 : decode cX3_maker 232 = .ok (.pop, 1) := by decide +kernel
theorem dX3_maker_233 : decode cX3_maker 233 = .ok (.aload_n 1, 1) := by decide +kernel
theorem dX3_maker_234 : decode cX3_maker 234 = .ok (.aload_n 1, 1) := by decide +kernel
theorem dX3_maker_235 : decode cX3_maker 235 = .ok (.getfield 158, 3) := by decide +kernel
theorem dX3_maker_238 : decode cX3_maker 238 = .ok (.iconst 1, 1) := by decide +kernel
theorem dX3_maker_239 : decode cX3_maker 239 = .ok (.invokestatic 161, 3) := by decide +kernel
theorem dX3_maker_242 : decode cX3_maker 242 = .ok (.putfield 158, 3) := by decide +kernel
theorem dX3_maker_245 : decode cX3_maker 245 = .ok (.return_, 1) := by decide +kernel
theorem dX3_bridge_0 : decode cX3_bridge 0 = .ok (.aload_n 2, 1) := by decide +kernel
theorem dX3_bridge_1 : decode cX3_bridge 1 = .ok (.ifnonnull 4, 3) := by decide +kernel
theorem dX3_bridge_4 : decode cX3_bridge 4 = .ok (.return_, 1) := by decide +kernel
theorem dX3_bridge_5 : decode cX3_bridge 5 = .ok (.aload_n 1, 1) := by decide +kernel
theorem dX3_bridge_6 : decode cX3_bridge 6 = .ok (.aload_n 0, 1) := by decide +kernel
theorem dX3_bridge_7 : decode cX3_bridge 7 = .ok (.getfield 15, 3) := by decide +kernel
theorem dX3_bridge_10 : decode cX3_bridge 10 = .ok (.getfield 144, 3) := by decide +kernel
theorem dX3_bridge_13 : decode cX3_bridge 13 = .ok (.putfield 104, 3) := by decide +kernel
theorem dX3_bridge_16 : decode cX3_bridge 16 = .ok (.aload_n 1, 1) := by decide +kernel
theorem dX3_bridge_17 : decode cX3_bridge 17 = .ok (.aload_n 1, 1) := by decide +kernel
theorem dX3_bridge_18 : decode cX3_bridge 18 = .ok (.getfield 204, 3) := by decide +kernel
theorem dX3_bridge_21 : decode cX3_bridge 21 = .ok (.aload_n 1, 1) := by decide +kernel
theorem dX3_bridge_22 : decode cX3_bridge 22 = .ok (.getfield 119, 3) := by decide +kernel
theorem dX3_bridge_25 : decode cX3_bridge 25 = .ok (.ifCond .eq 7, 3) := by decide +kernel
theorem dX3_bridge_28 : decode cX3_bridge 28 = .ok (.iconst 0, 1) := by decide +kernel
theorem dX3_bridge_29 : decode cX3_bridge 29 = .ok (.goto 4, 3) := by decide +kernel
theorem dX3_bridge_32 : decode cX3_bridge 32 = .ok (.iconst 1, 1) := by decide +kernel
theorem dX3_bridge_33 : decode cX3_bridge 33 = .ok (.iadd, 1) := by decide +kernel
theorem dX3_bridge_34 : decode cX3_bridge 34 = .ok (.putfield 158, 3) := by decide +kernel
theorem dX3_bridge_37 : decode cX3_bridge 37 = .ok (.iconst 0, 1) := by decide +kernel
theorem dX3_bridge_38 : decode cX3_bridge 38 = .ok (.istore_n 3, 1) := by decide +kernel
theorem dX3_bridge_39 : decode cX3_bridge 39 = .ok (.iload_n 3, 1) := by decide +kernel
theorem dX3_bridge_40 : decode cX3_bridge 40 = .ok (.aload_n 1, 1) := by decide +kernel
theorem dX3_bridge_41 : decode cX3_bridge 41 = .ok (.getfield 158, 3) := by decide +kernel
theorem dX3_bridge_44 : decode cX3_bridge 44 = .ok (.if_icmp .ge 19, 3) := by decide +kernel
theorem dX3_bridge_47 : decode cX3_bridge 47 = .ok (.aload_n 0, 1) := by decide +kernel
theorem dX3_bridge_48 : decode cX3_bridge 48 = .ok (.getfield 15, 3) := by decide +kernel
theorem dX3_bridge_51 : decode cX3_bridge 51 = .ok (.iconst 3, 1) := by decide +kernel
theorem dX3_bridge_52 : decode cX3_bridge 52 = .ok (.iload_n 3, 1) := by decide +kernel
theorem dX3_bridge_53 : decode cX3_bridge 53 = .ok (.invokevirtual 151, 3) := by decide +kernel
theorem dX3_bridge_56 : decode cX3_bridge 56 = .ok (.pop, 1) := by decide +kernel
theorem dX3_bridge_57 : decode cX3_bridge 57 = .ok (.iinc 3 1, 3) := by decide +kernel
theorem dX3_bridge_60 : decode cX3_bridge 60 = .ok (.goto (-21), 3) := by decide +kernel
theorem dX3_bridge_63 : decode cX3_bridge 63 = .ok (.aload_n 1, 1) := by decide +kernel
theorem dX3_bridge_64 : decode cX3_bridge 64 = .ok (.getfield 119, 3) := by decide +kernel
theorem dX3_bridge_67 : decode cX3_bridge 67 = .ok (.ifCond .eq 8, 3) := by decide +kernel
theorem dX3_bridge_70 : decode cX3_bridge 70 = .ok (.bipush 9, 2) := by decide +kernel
theorem dX3_bridge_72 : decode cX3_bridge 72 = .ok (.goto 5, 3) := by decide +kernel
theorem dX3_bridge_75 : decode cX3_bridge 75 = .ok (.bipush 7, 2) := by decide +kernel
theorem dX3_bridge_77 : decode cX3_bridge 77 = .ok (.istore_n 3, 1) := by decide +kernel
theorem dX3_bridge_78 : decode cX3_bridge 78 = .ok (.aload_n 0, 1) := by decide +kernel
theorem dX3_bridge_79 : decode cX3_bridge 79 = .ok (.getfield 15, 3) := by decide +kernel
theorem dX3_bridge_82 : decode cX3_bridge 82 = .ok (.bipush 34, 2) := by decide +kernel
theorem dX3_bridge_84 : decode cX3_bridge 84 = .ok (.aload_n 0, 1) := by decide +kernel
theorem dX3_bridge_85 : decode cX3_bridge 85 = .ok (.aload_n 0, 1) := by decide +kernel
theorem dX3_bridge_86 : decode cX3_bridge 86 = .ok (.getfield 36, 3) := by decide +kernel
theorem dX3_bridge_89 : decode cX3_bridge 89 = .ok (.getfield 207, 3) := by decide +kernel
theorem dX3_bridge_92 : decode cX3_bridge 92 = .ok (.ifCond .eq 9, 3) := by decide +kernel
theorem dX3_bridge_95 : decode cX3_bridge 95 = .ok (.iload_n 3, 1) := by decide +kernel
theorem dX3_bridge_96 : decode cX3_bridge 96 = .ok (.iconst 1, 1) := by decide +kernel
theorem dX3_bridge_97 : decode cX3_bridge 97 = .ok (.iadd, 1) := by decide +kernel
theorem dX3_bridge_98 : decode cX3_bridge 98 = .ok (.goto 4, 3) := by decide +kernel
theorem dX3_bridge_101 : decode cX3_bridge 101 = .ok (.iload_n 3, 1) := by decide +kernel
theorem dX3_bridge_102 : decode cX3_bridge 102 = .ok (.aload_n 0, 1) := by decide +kernel
theorem dX3_bridge_103 : decode cX3_bridge 103 = .ok (.getfield 36, 3) := by decide +kernel
theorem dX3_bridge_106 : decode cX3_bridge 106 = .ok (.getfield 210, 3) := by decide +kernel
theorem dX3_bridge_109 : decode cX3_bridge 109 = .ok (.aload_n 2, 1) := by decide +kernel
theorem dX3_bridge_110 : decode cX3_bridge 110 = .ok (.ldc2_w 129, 3) := by decide +kernel
theorem dX3_bridge_113 : decode cX3_bridge 113 = .ok (.invokevirtual 131, 3) := by decide +kernel
theorem dX3_bridge_116 : decode cX3_bridge 116 = .ok (.invokevirtual 151, 3) := by decide +kernel
theorem dX3_bridge_119 : decode cX3_bridge 119 = .ok (.pop, 1) := by decide +kernel
theorem dX3_bridge_120 : decode cX3_bridge 120 = .ok (.aload_n 0, 1) := by decide +kernel
theorem dX3_bridge_121 : decode cX3_bridge 121 = .ok (.bipush 17, 2) := by decide +kernel
theorem dX3_bridge_123 : decode cX3_bridge 123 = .ok (.aload_n 2, 1) := by decide +kernel
theorem dX3_bridge_124 : decode cX3_bridge 124 = .ok (.getfield 184, 3) := by decide +kernel
theorem dX3_bridge_127 : decode cX3_bridge 127 = .ok (.aconst_null, 1) := by decide +kernel
theorem dX3_bridge_128 : decode cX3_bridge 128 = .ok (.aload_n 1, 1) := by decide +kernel
theorem dX3_bridge_129 : decode cX3_bridge 129 = .ok (.getfield 184, 3) := by decide +kernel
theorem dX3_bridge_132 : decode cX3_bridge 132 = .ok (.invokevirtual 131, 3) := by decide +kernel
theorem dX3_bridge_135 : decode cX3_bridge 135 = .ok (.pop, 1) := by decide +kernel
theorem dX3_bridge_136 : decode cX3_bridge 136 = .ok (.aload_n 0, 1) := by decide +kernel
theorem dX3_bridge_137 : decode cX3_bridge 137 = .ok (.getfield 15, 3) := by decide +kernel
theorem dX3_bridge_140 : decode cX3_bridge 140 = .ok (.bipush 19, 2) := by decide +kernel
theorem dX3_bridge_142 : decode cX3_bridge 142 = .ok (.iconst 0, 1) := by decide +kernel
theorem dX3_bridge_143 : decode cX3_bridge 143 = .ok (.invokevirtual 151, 3) := by decide +kernel
theorem dX3_bridge_146 : decode cX3_bridge 146 = .ok (.pop, 1) := by decide +kernel
theorem dX3_bridge_147 : decode cX3_bridge 147 = .ok (.return_, 1) := by decide +kernel
theorem dX3_isFit_0 : decode cX3_isFit 0 = .ok (.lload_n 0, 1) := by decide +kernel
theorem dX3_isFit_1 : decode cX3_isFit 1 = .ok (.ldc2_w 213, 3) := by decide +kernel
theorem dX3_isFit_4 : decode cX3_isFit 4 = .ok (.lcmp, 1) := by decide +kernel
theorem dX3_isFit_5 : decode cX3_isFit 5 = .ok (.ifCond .eq 39, 3) := by decide +kernel
theorem dX3_isFit_8 : decode cX3_isFit 8 = .ok (.lload_n 0, 1) := by decide +kernel
theorem dX3_isFit_9 : decode cX3_isFit 9 = .ok (.ldc2_w 215, 3) := by decide +kernel
theorem dX3_isFit_12 : decode cX3_isFit 12 = .ok (.lcmp, 1) := by decide +kernel
theorem dX3_isFit_13 : decode cX3_isFit 13 = .ok (.ifCond .eq 31, 3) := by decide +kernel
theorem dX3_isFit_16 : decode cX3_isFit 16 = .ok (.lload_n 0, 1) := by decide +kernel
theorem dX3_isFit_17 : decode cX3_isFit 17 = .ok (.ldc2_w 217, 3) := by decide +kernel
theorem dX3_isFit_20 : decode cX3_isFit 20 = .ok (.lcmp, 1) := by decide +kernel
theorem dX3_isFit_21 : decode cX3_isFit 21 = .ok (.ifCond .eq 23, 3) := by decide +kernel
theorem dX3_isFit_24 : decode cX3_isFit 24 = .ok (.lload_n 2, 1) := by decide +kernel
theorem dX3_isFit_25 : decode cX3_isFit 25 = .ok (.ldc2_w 213, 3) := by decide +kernel
theorem dX3_isFit_28 : decode cX3_isFit 28 = .ok (.lcmp, 1) := by decide +kernel
theorem dX3_isFit_29 : decode cX3_isFit 29 = .ok (.ifCond .eq 15, 3) := by decide +kernel
theorem dX3_isFit_32 : decode cX3_isFit 32 = .ok (.lload_n 2, 1) := by decide +kernel
theorem dX3_isFit_33 : decode cX3_isFit 33 = .ok (.ldc2_w 215, 3) := by decide +kernel
theorem dX3_isFit_36 : decode cX3_isFit 36 = .ok (.lcmp, 1) := by decide +kernel
theorem dX3_isFit_37 : decode cX3_isFit 37 = .ok (.ifCond .eq 7, 3) := by decide +kernel
theorem dX3_isFit_40 : decode cX3_isFit 40 = .ok (.iconst 1, 1) := by decide +kernel
theorem dX3_isFit_41 : decode cX3_isFit 41 = .ok (.goto 4, 3) := by decide +kernel
theorem dX3_isFit_44 : decode cX3_isFit 44 = .ok (.iconst 0, 1) := by decide +kernel
theorem dX3_isFit_45 : decode cX3_isFit 45 = .ok (.istore 4, 2) := by decide +kernel
theorem dX3_isFit_47 : decode cX3_isFit 47 = .ok (.iload 4, 2) := by decide +kernel
theorem dX3_isFit_49 : decode cX3_isFit 49 = .ok (.ifCond .eq 21, 3) := by decide +kernel
theorem dX3_isFit_52 : decode cX3_isFit 52 = .ok (.lload_n 0, 1) := by decide +kernel
theorem dX3_isFit_53 : decode cX3_isFit 53 = .ok (.lload_n 2, 1) := by decide +kernel
theorem dX3_isFit_54 : decode cX3_isFit 54 = .ok (.lcmp, 1) := by decide +kernel
theorem dX3_isFit_55 : decode cX3_isFit 55 = .ok (.ifCond .eq 15, 3) := by decide +kernel
theorem dX3_isFit_58 : decode cX3_isFit 58 = .ok (.lload_n 2, 1) := by decide +kernel
theorem dX3_isFit_59 : decode cX3_isFit 59 = .ok (.ldc2_w 189, 3) := by decide +kernel
theorem dX3_isFit_62 : decode cX3_isFit 62 = .ok (.lcmp, 1) := by decide +kernel
theorem dX3_isFit_63 : decode cX3_isFit 63 = .ok (.ifCond .eq 7, 3) := by decide +kernel
theorem dX3_isFit_66 : decode cX3_isFit 66 = .ok (.iconst 1, 1) := by decide +kernel
theorem dX3_isFit_67 : decode cX3_isFit 67 = .ok (.goto 4, 3) := by decide +kernel
theorem dX3_isFit_70 : decode cX3_isFit 70 = .ok (.iconst 0, 1) := by decide +kernel
theorem dX3_isFit_71 : decode cX3_isFit 71 = .ok (.ireturn, 1) := by decide +kernel
theorem dX3_useOf_0 : decode cX3_useOf 0 = .ok (.aload_n 0, 1) := by decide +kernel
theorem dX3_useOf_1 : decode cX3_useOf 1 = .ok (.getfield 36, 3) := by decide +kernel
theorem dX3_useOf_4 : decode cX3_useOf 4 = .ok (.getfield 94, 3) := by decide +kernel
theorem dX3_useOf_7 : decode cX3_useOf 7 = .ok (.istore 7, 2) := by decide +kernel
theorem dX3_useOf_9 : decode cX3_useOf 9 = .ok (.iload 7, 2) := by decide +kernel
theorem dX3_useOf_11 : decode cX3_useOf 11 = .ok (.aload_n 0, 1) := by decide +kernel
theorem dX3_useOf_12 : decode cX3_useOf 12 = .ok (.getfield 15, 3) := by decide +kernel
theorem dX3_useOf_15 : decode cX3_useOf 15 = .ok (.getfield 91, 3) := by decide +kernel
theorem dX3_useOf_18 : decode cX3_useOf 18 = .ok (.if_icmp .ge 104, 3) := by decide +kernel
theorem dX3_useOf_21 : decode cX3_useOf 21 = .ok (.aload_n 0, 1) := by decide +kernel
theorem dX3_useOf_22 : decode cX3_useOf 22 = .ok (.getfield 15, 3) := by decide +kernel
theorem dX3_useOf_25 : decode cX3_useOf 25 = .ok (.getfield 219, 3) := by decide +kernel
theorem dX3_useOf_28 : decode cX3_useOf 28 = .ok (.iload 7, 2) := by decide +kernel
theorem dX3_useOf_30 : decode cX3_useOf 30 = .ok (.aaload, 1) := by decide +kernel
theorem dX3_useOf_31 : decode cX3_useOf 31 = .ok (.astore 8, 2) := by decide +kernel
theorem dX3_useOf_33 : decode cX3_useOf 33 = .ok (.aload_n 0, 1) := by decide +kernel
theorem dX3_useOf_34 : decode cX3_useOf 34 = .ok (.getfield 15, 3) := by decide +kernel
theorem dX3_useOf_37 : decode cX3_useOf 37 = .ok (.getfield 222, 3) := by decide +kernel
theorem dX3_useOf_40 : decode cX3_useOf 40 = .ok (.iload 7, 2) := by decide +kernel
theorem dX3_useOf_42 : decode cX3_useOf 42 = .ok (.iaload, 1) := by decide +kernel
theorem dX3_useOf_43 : decode cX3_useOf 43 = .ok (.iload_n 1, 1) := by decide +kernel
theorem dX3_useOf_44 : decode cX3_useOf 44 = .ok (.if_icmp .ne 72, 3) := by decide +kernel
theorem dX3_useOf_47 : decode cX3_useOf 47 = .ok (.aload_n 0, 1) := by decide +kernel
theorem dX3_useOf_48 : decode cX3_useOf 48 = .ok (.getfield 15, 3) := by decide +kernel
theorem dX3_useOf_51 : decode cX3_useOf 51 = .ok (.getfield 225, 3) := by decide +kernel
theorem dX3_useOf_54 : decode cX3_useOf 54 = .ok (.iload 7, 2) := by decide +kernel
theorem dX3_useOf_56 : decode cX3_useOf 56 = .ok (.laload, 1) := by decide +kernel
theorem dX3_useOf_57 : decode cX3_useOf 57 = .ok (.lload_n 2, 1) := by decide +kernel
theorem dX3_useOf_58 : decode cX3_useOf 58 = .ok (.lcmp, 1) := by decide +kernel
theorem dX3_useOf_59 : decode cX3_useOf 59 = .ok (.ifCond .ne 57, 3) := by decide +kernel
theorem dX3_useOf_62 : decode cX3_useOf 62 = .ok (.aload_n 0, 1) := by decide +kernel
theorem dX3_useOf_63 : decode cX3_useOf 63 = .ok (.getfield 15, 3) := by decide +kernel
theorem dX3_useOf_66 : decode cX3_useOf 66 = .ok (.getfield 229, 3) := by decide +kernel
theorem dX3_useOf_69 : decode cX3_useOf 69 = .ok (.iload 7, 2) := by decide +kernel
theorem dX3_useOf_71 : decode cX3_useOf 71 = .ok (.laload, 1) := by decide +kernel
theorem dX3_useOf_72 : decode cX3_useOf 72 = .ok (.lload 5, 2) := by decide +kernel
theorem dX3_useOf_74 : decode cX3_useOf 74 = .ok (.lcmp, 1) := by decide +kernel
theorem dX3_useOf_75 : decode cX3_useOf 75 = .ok (.ifCond .ne 41, 3) := by decide +kernel
theorem dX3_useOf_78 : decode cX3_useOf 78 = .ok (.aload 8, 2) := by decide +kernel
theorem dX3_useOf_80 : decode cX3_useOf 80 = .ok (.aload 4, 2) := by decide +kernel
theorem dX3_useOf_82 : decode cX3_useOf 82 = .ok (.if_acmp .eq 23, 3) := by decide +kernel
theorem dX3_useOf_85 : decode cX3_useOf 85 = .ok (.aload 8, 2) := by decide +kernel
theorem dX3_useOf_87 : decode cX3_useOf 87 = .ok (.ifnull 29, 3) := by decide +kernel
theorem dX3_useOf_90 : decode cX3_useOf 90 = .ok (.aload 4, 2) := by decide +kernel
theorem dX3_useOf_92 : decode cX3_useOf 92 = .ok (.ifnull 24, 3) := by decide +kernel
theorem dX3_useOf_95 : decode cX3_useOf 95 = .ok (.aload 8, 2) := by decide +kernel
theorem dX3_useOf_97 : decode cX3_useOf 97 = .ok (.aload 4, 2) := by decide +kernel
theorem dX3_useOf_99 : decode cX3_useOf 99 = .ok (.invokevirtual 232, 3) := by decide +kernel
theorem dX3_useOf_102 : decode cX3_useOf 102 = .ok (.ifCond .eq 14, 3) := by decide +kernel
theorem dX3_useOf_105 : decode cX3_useOf 105 = .ok (.iload 7, 2) := by decide +kernel
theorem dX3_useOf_107 : decode cX3_useOf 107 = .ok (.aload_n 0, 1) := by decide +kernel
theorem dX3_useOf_108 : decode cX3_useOf 108 = .ok (.getfield 36, 3) := by decide +kernel
theorem dX3_useOf_111 : decode cX3_useOf 111 = .ok (.getfield 94, 3) := by decide +kernel
theorem dX3_useOf_114 : decode cX3_useOf 114 = .ok (.isub, 1) := by decide +kernel
theorem dX3_useOf_115 : decode cX3_useOf 115 = .ok (.ireturn, 1) := by decide +kernel
theorem dX3_useOf_116 : decode cX3_useOf 116 = .ok (.iinc 7 1, 3) := by decide +kernel
theorem dX3_useOf_119 : decode cX3_useOf 119 = .ok (.goto (-110), 3) := by decide +kernel
theorem dX3_useOf_122 : decode cX3_useOf 122 = .ok (.iload_n 1, 1) := by decide +kernel
theorem dX3_useOf_123 : decode cX3_useOf 123 = .ok (.bipush 17, 2) := by decide +kernel
theorem dX3_useOf_125 : decode cX3_useOf 125 = .ok (.if_icmp .ne 16, 3) := by decide +kernel
theorem dX3_useOf_128 : decode cX3_useOf 128 = .ok (.lload_n 2, 1) := by decide +kernel
theorem dX3_useOf_129 : decode cX3_useOf 129 = .ok (.lload 5, 2) := by decide +kernel
theorem dX3_useOf_131 : decode cX3_useOf 131 = .ok (.invokestatic 236, 3) := by decide +kernel
theorem dX3_useOf_134 : decode cX3_useOf 134 = .ok (.ifCond .ne 7, 3) := by decide +kernel
theorem dX3_useOf_137 : decode cX3_useOf 137 = .ok (.iconst 1, 1) := by decide +kernel
theorem dX3_useOf_138 : decode cX3_useOf 138 = .ok (.goto 4, 3) := by decide +kernel
theorem dX3_useOf_141 : decode cX3_useOf 141 = .ok (.iconst 0, 1) := by decide +kernel
theorem dX3_useOf_142 : decode cX3_useOf 142 = .ok (.istore 7, 2) := by decide +kernel
theorem dX3_useOf_144 : decode cX3_useOf 144 = .ok (.iload 7, 2) := by decide +kernel
theorem dX3_useOf_146 : decode cX3_useOf 146 = .ok (.ifCond .ne 21, 3) := by decide +kernel
theorem dX3_useOf_149 : decode cX3_useOf 149 = .ok (.aload_n 0, 1) := by decide +kernel
theorem dX3_useOf_150 : decode cX3_useOf 150 = .ok (.getfield 15, 3) := by decide +kernel
theorem dX3_useOf_153 : decode cX3_useOf 153 = .ok (.getfield 91, 3) := by decide +kernel
theorem dX3_useOf_156 : decode cX3_useOf 156 = .ok (.aload_n 0, 1) := by decide +kernel
theorem dX3_useOf_157 : decode cX3_useOf 157 = .ok (.getfield 15, 3) := by decide +kernel
theorem dX3_useOf_160 : decode cX3_useOf 160 = .ok (.getfield 222, 3) := by decide +kernel
theorem dX3_useOf_163 : decode cX3_useOf 163 = .ok (.arraylength, 1) := by decide +kernel
theorem dX3_useOf_164 : decode cX3_useOf 164 = .ok (.if_icmp .lt 5, 3) := by decide +kernel
theorem dX3_useOf_167 : decode cX3_useOf 167 = .ok (.iconst 0, 1) := by decide +kernel
theorem dX3_useOf_168 : decode cX3_useOf 168 = .ok (.ireturn, 1) := by decide +kernel
theorem dX3_useOf_169 : decode cX3_useOf 169 = .ok (.aload_n 0, 1) := by decide +kernel
theorem dX3_useOf_170 : decode cX3_useOf 170 = .ok (.getfield 15, 3) := by decide +kernel
theorem dX3_useOf_173 : decode cX3_useOf 173 = .ok (.getfield 91, 3) := by decide +kernel
theorem dX3_useOf_176 : decode cX3_useOf 176 = .ok (.istore 8, 2) := by decide +kernel
theorem dX3_useOf_178 : decode cX3_useOf 178 = .ok (.aload_n 0, 1) := by decide +kernel
theorem dX3_useOf_179 : decode cX3_useOf 179 = .ok (.getfield 15, 3) := by decide +kernel
theorem dX3_useOf_182 : decode cX3_useOf 182 = .ok (.getfield 222, 3) := by decide +kernel
theorem dX3_useOf_185 : decode cX3_useOf 185 = .ok (.iload 8, 2) := by decide +kernel
theorem dX3_useOf_187 : decode cX3_useOf 187 = .ok (.iload_n 1, 1) := by decide +kernel
theorem dX3_useOf_188 : decode cX3_useOf 188 = .ok (.iastore, 1) := by decide +kernel
theorem dX3_useOf_189 : decode cX3_useOf 189 = .ok (.aload_n 0, 1) := by decide +kernel
theorem dX3_useOf_190 : decode cX3_useOf 190 = .ok (.getfield 15, 3) := by decide +kernel
theorem dX3_useOf_193 : decode cX3_useOf 193 = .ok (.getfield 240, 3) := by decide +kernel
theorem dX3_useOf_196 : decode cX3_useOf 196 = .ok (.iload 8, 2) := by decide +kernel
theorem dX3_useOf_198 : decode cX3_useOf 198 = .ok (.aload_n 0, 1) := by decide +kernel
theorem dX3_useOf_199 : decode cX3_useOf 199 = .ok (.getfield 25, 3) := by decide +kernel
theorem dX3_useOf_202 : decode cX3_useOf 202 = .ok (.iastore, 1) := by decide +kernel
theorem dX3_useOf_203 : decode cX3_useOf 203 = .ok (.aload_n 0, 1) := by decide +kernel
theorem dX3_useOf_204 : decode cX3_useOf 204 = .ok (.getfield 15, 3) := by decide +kernel
theorem dX3_useOf_207 : decode cX3_useOf 207 = .ok (.getfield 225, 3) := by decide +kernel
theorem dX3_useOf_210 : decode cX3_useOf 210 = .ok (.iload 8, 2) := by decide +kernel
theorem dX3_useOf_212 : decode cX3_useOf 212 = .ok (.lload_n 2, 1) := by decide +kernel
theorem dX3_useOf_213 : decode cX3_useOf 213 = .ok (.lastore, 1) := by decide +kernel
theorem dX3_useOf_214 : decode cX3_useOf 214 = .ok (.aload_n 0, 1) := by decide +kernel
theorem dX3_useOf_215 : decode cX3_useOf 215 = .ok (.getfield 15, 3) := by decide +kernel
theorem dX3_useOf_218 : decode cX3_useOf 218 = .ok (.getfield 219, 3) := by decide +kernel
theorem dX3_useOf_221 : decode cX3_useOf 221 = .ok (.iload 8, 2) := by decide +kernel
theorem dX3_useOf_223 : decode cX3_useOf 223 = .ok (.aload 4, 2) := by decide +kernel
theorem dX3_useOf_225 : decode cX3_useOf 225 = .ok (.aastore, 1) := by decide +kernel
theorem dX3_useOf_226 : decode cX3_useOf 226 = .ok (.aload_n 0, 1) := by decide +kernel
theorem dX3_useOf_227 : decode cX3_useOf 227 = .ok (.getfield 15, 3) := by decide +kernel
theorem dX3_useOf_230 : decode cX3_useOf 230 = .ok (.getfield 229, 3) := by decide +kernel
theorem dX3_useOf_233 : decode cX3_useOf 233 = .ok (.iload 8, 2) := by decide +kernel
theorem dX3_useOf_235 : decode cX3_useOf 235 = .ok (.lload 5, 2) := by decide +kernel
theorem dX3_useOf_237 : decode cX3_useOf 237 = .ok (.lastore, 1) := by decide +kernel
theorem dX3_useOf_238 : decode cX3_useOf 238 = .ok (.aload_n 0, 1) := by decide +kernel
theorem dX3_useOf_239 : decode cX3_useOf 239 = .ok (.getfield 15, 3) := by decide +kernel
theorem dX3_useOf_242 : decode cX3_useOf 242 = .ok (.dup, 1) := by decide +kernel
theorem dX3_useOf_243 : decode cX3_useOf 243 = .ok (.getfield 91, 3) := by decide +kernel
theorem dX3_useOf_246 : decode cX3_useOf 246 = .ok (.iconst 1, 1) := by decide +kernel
theorem dX3_useOf_247 : decode cX3_useOf 247 = .ok (.iadd, 1) := by decide +kernel
theorem dX3_useOf_248 : decode cX3_useOf 248 = .ok (.putfield 91, 3) := by decide +kernel
theorem dX3_useOf_251 : decode cX3_useOf 251 = .ok (.iload 8, 2) := by decide +kernel
theorem dX3_useOf_253 : decode cX3_useOf 253 = .ok (.aload_n 0, 1) := by decide +kernel
theorem dX3_useOf_254 : decode cX3_useOf 254 = .ok (.getfield 36, 3) := by decide +kernel
theorem dX3_useOf_257 : decode cX3_useOf 257 = .ok (.getfield 94, 3) := by decide +kernel
theorem dX3_useOf_260 : decode cX3_useOf 260 = .ok (.isub, 1) := by decide +kernel
theorem dX3_useOf_261 : decode cX3_useOf 261 = .ok (.ireturn, 1) := by decide +kernel
theorem dX3_args_0 : decode cX3_args 0 = .ok (.iconst 0, 1) := by decide +kernel
theorem dX3_args_1 : decode cX3_args 1 = .ok (.istore_n 3, 1) := by decide +kernel
theorem dX3_args_2 : decode cX3_args 2 = .ok (.aload_n 1, 1) := by decide +kernel
theorem dX3_args_3 : decode cX3_args 3 = .ok (.astore 4, 2) := by decide +kernel
theorem dX3_args_5 : decode cX3_args 5 = .ok (.aload 4, 2) := by decide +kernel
theorem dX3_args_7 : decode cX3_args 7 = .ok (.ifnull 53, 3) := by decide +kernel
theorem dX3_args_10 : decode cX3_args 10 = .ok (.aload_n 0, 1) := by decide +kernel
theorem dX3_args_11 : decode cX3_args 11 = .ok (.aload 4, 2) := by decide +kernel
theorem dX3_args_13 : decode cX3_args 13 = .ok (.invokevirtual 176, 3) := by decide +kernel
theorem dX3_args_16 : decode cX3_args 16 = .ok (.aload_n 2, 1) := by decide +kernel
theorem dX3_args_17 : decode cX3_args 17 = .ok (.ifnull 30, 3) := by decide +kernel
theorem dX3_args_20 : decode cX3_args 20 = .ok (.iload_n 3, 1) := by decide +kernel
theorem dX3_args_21 : decode cX3_args 21 = .ok (.aload_n 2, 1) := by decide +kernel
theorem dX3_args_22 : decode cX3_args 22 = .ok (.getfield 204, 3) := by decide +kernel
theorem dX3_args_25 : decode cX3_args 25 = .ok (.if_icmp .ge 22, 3) := by decide +kernel
theorem dX3_args_28 : decode cX3_args 28 = .ok (.aload_n 0, 1) := by decide +kernel
theorem dX3_args_29 : decode cX3_args 29 = .ok (.bipush 17, 2) := by decide +kernel
theorem dX3_args_31 : decode cX3_args 31 = .ok (.aload 4, 2) := by decide +kernel
theorem dX3_args_33 : decode cX3_args 33 = .ok (.getfield 179, 3) := by decide +kernel
theorem dX3_args_36 : decode cX3_args 36 = .ok (.aconst_null, 1) := by decide +kernel
theorem dX3_args_37 : decode cX3_args 37 = .ok (.aload_n 2, 1) := by decide +kernel
theorem dX3_args_38 : decode cX3_args 38 = .ok (.getfield 243, 3) := by decide +kernel
theorem dX3_args_41 : decode cX3_args 41 = .ok (.iload_n 3, 1) := by decide +kernel
theorem dX3_args_42 : decode cX3_args 42 = .ok (.laload, 1) := by decide +kernel
theorem dX3_args_43 : decode cX3_args 43 = .ok (.invokevirtual 131, 3) := by decide +kernel
theorem dX3_args_46 : decode cX3_args 46 = .ok (.pop, 1) := by decide +kernel
theorem dX3_args_47 : decode cX3_args 47 = .ok (.iinc 3 1, 3) := by decide +kernel
theorem dX3_args_50 : decode cX3_args 50 = .ok (.aload 4, 2) := by decide +kernel
theorem dX3_args_52 : decode cX3_args 52 = .ok (.getfield 196, 3) := by decide +kernel
theorem dX3_args_55 : decode cX3_args 55 = .ok (.astore 4, 2) := by decide +kernel
theorem dX3_args_57 : decode cX3_args 57 = .ok (.goto (-52), 3) := by decide +kernel
theorem dX3_args_60 : decode cX3_args 60 = .ok (.return_, 1) := by decide +kernel
theorem dX3_statement_0 : decode cX3_statement 0 = .ok (.aload_n 1, 1) := by decide +kernel
theorem dX3_statement_1 : decode cX3_statement 1 = .ok (.ifnonnull 4, 3) := by decide +kernel
theorem dX3_statement_4 : decode cX3_statement 4 = .ok (.return_, 1) := by decide +kernel
theorem dX3_statement_5 : decode cX3_statement 5 = .ok (.aload_n 1, 1) := by decide +kernel
theorem dX3_statement_6 : decode cX3_statement 6 = .ok (.getfield 188, 3) := by decide +kernel
theorem dX3_statement_9 : decode cX3_statement 9 = .ok (.bipush 30, 2) := by decide +kernel
theorem dX3_statement_11 : decode cX3_statement 11 = .ok (.if_icmp .ne 26, 3) := by decide +kernel
theorem dX3_statement_14 : decode cX3_statement 14 = .ok (.aload_n 1, 1) := by decide +kernel
theorem dX3_statement_15 : decode cX3_statement 15 = .ok (.getfield 185, 3) := by decide +kernel
theorem dX3_statement_18 : decode cX3_statement 18 = .ok (.astore_n 2, 1) := by decide +kernel
theorem dX3_statement_19 : decode cX3_statement 19 = .ok (.aload_n 2, 1) := by decide +kernel
theorem dX3_statement_20 : decode cX3_statement 20 = .ok (.ifnull 16, 3) := by decide +kernel
theorem dX3_statement_23 : decode cX3_statement 23 = .ok (.aload_n 0, 1) := by decide +kernel
theorem dX3_statement_24 : decode cX3_statement 24 = .ok (.aload_n 2, 1) := by decide +kernel
theorem dX3_statement_25 : decode cX3_statement 25 = .ok (.invokevirtual 169, 3) := by decide +kernel
theorem dX3_statement_28 : decode cX3_statement 28 = .ok (.aload_n 2, 1) := by decide +kernel
theorem dX3_statement_29 : decode cX3_statement 29 = .ok (.getfield 196, 3) := by decide +kernel
theorem dX3_statement_32 : decode cX3_statement 32 = .ok (.astore_n 2, 1) := by decide +kernel
theorem dX3_statement_33 : decode cX3_statement 33 = .ok (.goto (-14), 3) := by decide +kernel
theorem dX3_statement_36 : decode cX3_statement 36 = .ok (.return_, 1) := by decide +kernel
theorem dX3_statement_37 : decode cX3_statement 37 = .ok (.aload_n 0, 1) := by decide +kernel
theorem dX3_statement_38 : decode cX3_statement 38 = .ok (.getfield 15, 3) := by decide +kernel
theorem dX3_statement_41 : decode cX3_statement 41 = .ok (.iconst 1, 1) := by decide +kernel
theorem dX3_statement_42 : decode cX3_statement 42 = .ok (.iconst 0, 1) := by decide +kernel
theorem dX3_statement_43 : decode cX3_statement 43 = .ok (.invokevirtual 151, 3) := by decide +kernel
theorem dX3_statement_46 : decode cX3_statement 46 = .ok (.pop, 1) := by decide +kernel
theorem dX3_statement_47 : decode cX3_statement 47 = .ok (.aload_n 1, 1) := by decide +kernel
theorem dX3_statement_48 : decode cX3_statement 48 = .ok (.getfield 188, 3) := by decide +kernel
theorem dX3_statement_51 : decode cX3_statement 51 = .ok (.tableswitch 357 31 39 #[49, 105, 113, 121, 184, 237, 245, 357, 267], 49) := by decide +kernel
theorem dX3_statement_100 : decode cX3_statement 100 = .ok (.aload_n 0, 1) := by decide +kernel
theorem dX3_statement_101 : decode cX3_statement 101 = .ok (.aload_n 1, 1) := by decide +kernel
theorem dX3_statement_102 : decode cX3_statement 102 = .ok (.getfield 185, 3) := by decide +kernel
theorem dX3_statement_105 : decode cX3_statement 105 = .ok (.invokevirtual 176, 3) := by decide +kernel

theorem dX9_readTyped_102 : decode cX9_readTyped 102 = .ok (.aload_n 0, 1) := by decide +kernel
theorem dX9_readTyped_103 : decode cX9_readTyped 103 = .ok (.getfield 114, 3) := by decide +kernel
theorem dX9_readTyped_106 : decode cX9_readTyped 106 = .ok (.putfield 219, 3) := by decide +kernel
theorem dX9_readTyped_109 : decode cX9_readTyped 109 = .ok (.aload_n 1, 1) := by decide +kernel
theorem dX9_readTyped_110 : decode cX9_readTyped 110 = .ok (.aload_n 0, 1) := by decide +kernel
theorem dX9_readTyped_111 : decode cX9_readTyped 111 = .ok (.getfield 25, 3) := by decide +kernel
theorem dX9_readTyped_114 : decode cX9_readTyped 114 = .ok (.aload_n 0, 1) := by decide +kernel
theorem dX9_readTyped_115 : decode cX9_readTyped 115 = .ok (.getfield 114, 3) := by decide +kernel
theorem dX9_readTyped_118 : decode cX9_readTyped 118 = .ok (.laload, 1) := by decide +kernel
theorem dX9_readTyped_119 : decode cX9_readTyped 119 = .ok (.putfield 244, 3) := by decide +kernel
theorem dX9_readTyped_122 : decode cX9_readTyped 122 = .ok (.aload_n 0, 1) := by decide +kernel
theorem dX9_readTyped_123 : decode cX9_readTyped 123 = .ok (.invokevirtual 158, 3) := by decide +kernel
theorem dX9_readTyped_126 : decode cX9_readTyped 126 = .ok (.ifCond .ne 5, 3) := by decide +kernel
theorem dX9_readTyped_129 : decode cX9_readTyped 129 = .ok (.iconst 0, 1) := by decide +kernel
theorem dX9_readTyped_130 : decode cX9_readTyped 130 = .ok (.ireturn, 1) := by decide +kernel
theorem dX9_readTyped_131 : decode cX9_readTyped 131 = .ok (.aload_n 0, 1) := by decide +kernel
theorem dX9_readTyped_132 : decode cX9_readTyped 132 = .ok (.invokevirtual 74, 3) := by decide +kernel
theorem dX9_readTyped_135 : decode cX9_readTyped 135 = .ok (.sipush 140, 3) := by decide +kernel
theorem dX9_readTyped_138 : decode cX9_readTyped 138 = .ok (.if_icmp .ne 39, 3) := by decide +kernel
theorem dX9_readTyped_141 : decode cX9_readTyped 141 = .ok (.aload_n 1, 1) := by decide +kernel
theorem dX9_readTyped_142 : decode cX9_readTyped 142 = .ok (.iconst 1, 1) := by decide +kernel
theorem dX9_readTyped_143 : decode cX9_readTyped 143 = .ok (.putfield 215, 3) := by decide +kernel
theorem dX9_readTyped_146 : decode cX9_readTyped 146 = .ok (.aload_n 0, 1) := by decide +kernel
theorem dX9_readTyped_147 : decode cX9_readTyped 147 = .ok (.aload_n 1, 1) := by decide +kernel
theorem dX9_readTyped_148 : decode cX9_readTyped 148 = .ok (.invokevirtual 226, 3) := by decide +kernel
theorem dX9_readTyped_151 : decode cX9_readTyped 151 = .ok (.ifCond .eq 13, 3) := by decide +kernel
theorem dX9_readTyped_154 : decode cX9_readTyped 154 = .ok (.aload_n 0, 1) := by decide +kernel
theorem dX9_readTyped_155 : decode cX9_readTyped 155 = .ok (.invokevirtual 74, 3) := by decide +kernel
theorem dX9_readTyped_158 : decode cX9_readTyped 158 = .ok (.sipush 223, 3) := by decide +kernel
theorem dX9_readTyped_161 : decode cX9_readTyped 161 = .ok (.if_icmp .ne 47, 3) := by decide +kernel
theorem dX9_readTyped_164 : decode cX9_readTyped 164 = .ok (.aload_n 0, 1) := by decide +kernel
theorem dX9_readTyped_165 : decode cX9_readTyped 165 = .ok (.getfield 60, 3) := by decide +kernel
theorem dX9_readTyped_168 : decode cX9_readTyped 168 = .ok (.ifCond .ne 7, 3) := by decide +kernel
theorem dX9_readTyped_171 : decode cX9_readTyped 171 = .ok (.iconst 1, 1) := by decide +kernel
theorem dX9_readTyped_172 : decode cX9_readTyped 172 = .ok (.goto 4, 3) := by decide +kernel
theorem dX9_readTyped_175 : decode cX9_readTyped 175 = .ok (.iconst 0, 1) := by decide +kernel
theorem dX9_readTyped_176 : decode cX9_readTyped 176 = .ok (.ireturn, 1) := by decide +kernel
theorem dX9_readTyped_177 : decode cX9_readTyped 177 = .ok (.iload_n 2, 1) := by decide +kernel
theorem dX9_readTyped_178 : decode cX9_readTyped 178 = .ok (.ifCond .eq 8, 3) := by decide +kernel
theorem dX9_readTyped_181 : decode cX9_readTyped 181 = .ok (.aload_n 0, 1) := by decide +kernel
theorem dX9_readTyped_182 : decode cX9_readTyped 182 = .ok (.invokevirtual 151, 3) := by decide +kernel
theorem dX9_readTyped_185 : decode cX9_readTyped 185 = .ok (.ireturn, 1) := by decide +kernel
theorem dX9_readTyped_186 : decode cX9_readTyped 186 = .ok (.aload_n 0, 1) := by decide +kernel
theorem dX9_readTyped_187 : decode cX9_readTyped 187 = .ok (.invokevirtual 74, 3) := by decide +kernel
theorem dX9_readTyped_190 : decode cX9_readTyped 190 = .ok (.sipush 161, 3) := by decide +kernel
theorem dX9_readTyped_193 : decode cX9_readTyped 193 = .ok (.if_icmp .ne 15, 3) := by decide +kernel
theorem dX9_readTyped_196 : decode cX9_readTyped 196 = .ok (.aload_n 0, 1) := by decide +kernel
theorem dX9_readTyped_197 : decode cX9_readTyped 197 = .ok (.sipush 161, 3) := by decide +kernel
theorem dX9_readTyped_200 : decode cX9_readTyped 200 = .ok (.putfield 85, 3) := by decide +kernel
theorem dX9_readTyped_203 : decode cX9_readTyped 203 = .ok (.aload_n 0, 1) := by decide +kernel
theorem dX9_readTyped_204 : decode cX9_readTyped 204 = .ok (.invokevirtual 158, 3) := by decide +kernel
theorem dX9_readTyped_207 : decode cX9_readTyped 207 = .ok (.ireturn, 1) := by decide +kernel
theorem dX9_readTyped_208 : decode cX9_readTyped 208 = .ok (.aload_n 0, 1) := by decide +kernel
theorem dX9_readTyped_209 : decode cX9_readTyped 209 = .ok (.iconst 0, 1) := by decide +kernel
theorem dX9_readTyped_210 : decode cX9_readTyped 210 = .ok (.putfield 85, 3) := by decide +kernel
theorem dX9_readTyped_213 : decode cX9_readTyped 213 = .ok (.aload_n 0, 1) := by decide +kernel
theorem dX9_readTyped_214 : decode cX9_readTyped 214 = .ok (.sipush 159, 3) := by decide +kernel
theorem dX9_readTyped_217 : decode cX9_readTyped 217 = .ok (.invokevirtual 101, 3) := by decide +kernel
theorem dX9_readTyped_220 : decode cX9_readTyped 220 = .ok (.ireturn, 1) := by decide +kernel
theorem dX9_readParams_0 : decode cX9_readParams 0 = .ok (.aload_n 0, 1) := by decide +kernel
theorem dX9_readParams_1 : decode cX9_readParams 1 = .ok (.sipush 140, 3) := by decide +kernel
theorem dX9_readParams_4 : decode cX9_readParams 4 = .ok (.invokevirtual 101, 3) := by decide +kernel
theorem dX9_readParams_7 : decode cX9_readParams 7 = .ok (.ifCond .ne 5, 3) := by decide +kernel
theorem dX9_readParams_10 : decode cX9_readParams 10 = .ok (.iconst 0, 1) := by decide +kernel
theorem dX9_readParams_11 : decode cX9_readParams 11 = .ok (.ireturn, 1) := by decide +kernel
theorem dX9_readParams_12 : decode cX9_readParams 12 = .ok (.aload_n 0, 1) := by decide +kernel
theorem dX9_readParams_13 : decode cX9_readParams 13 = .ok (.invokevirtual 74, 3) := by decide +kernel
theorem dX9_readParams_16 : decode cX9_readParams 16 = .ok (.sipush 141, 3) := by decide +kernel
theorem dX9_readParams_19 : decode cX9_readParams 19 = .ok (.if_icmp .eq 7, 3) := by decide +kernel
theorem dX9_readParams_22 : decode cX9_readParams 22 = .ok (.iconst 1, 1) := by decide +kernel
theorem dX9_readParams_23 : decode cX9_readParams 23 = .ok (.goto 4, 3) := by decide +kernel
theorem dX9_readParams_26 : decode cX9_readParams 26 = .ok (.iconst 0, 1) := by decide +kernel
theorem dX9_readParams_27 : decode cX9_readParams 27 = .ok (.istore_n 2, 1) := by decide +kernel
theorem dX9_readParams_28 : decode cX9_readParams 28 = .ok (.iconst 0, 1) := by decide +kernel
theorem dX9_readParams_29 : decode cX9_readParams 29 = .ok (.istore_n 3, 1) := by decide +kernel
theorem dX9_readParams_30 : decode cX9_readParams 30 = .ok (.iload_n 3, 1) := by decide +kernel
theorem dX9_readParams_31 : decode cX9_readParams 31 = .ok (.iconst 4, 1) := by decide +kernel
theorem dX9_readParams_32 : decode cX9_readParams 32 = .ok (.if_icmp .gt 138, 3) := by decide +kernel
theorem dX9_readParams_35 : decode cX9_readParams 35 = .ok (.iload_n 2, 1) := by decide +kernel
theorem dX9_readParams_36 : decode cX9_readParams 36 = .ok (.ifCond .eq 134, 3) := by decide +kernel
theorem dX9_readParams_39 : decode cX9_readParams 39 = .ok (.aload_n 0, 1) := by decide +kernel
theorem dX9_readParams_40 : decode cX9_readParams 40 = .ok (.invokevirtual 74, 3) := by decide +kernel
theorem dX9_readParams_43 : decode cX9_readParams 43 = .ok (.bipush 26, 2) := by decide +kernel
theorem dX9_readParams_45 : decode cX9_readParams 45 = .ok (.if_icmp .eq 16, 3) := by decide +kernel
theorem dX9_readParams_48 : decode cX9_readParams 48 = .ok (.aload_n 0, 1) := by decide +kernel
theorem dX9_readParams_49 : decode cX9_readParams 49 = .ok (.invokevirtual 74, 3) := by decide +kernel
theorem dX9_readParams_52 : decode cX9_readParams 52 = .ok (.iconst 2, 1) := by decide +kernel
theorem dX9_readParams_53 : decode cX9_readParams 53 = .ok (.if_icmp .eq 8, 3) := by decide +kernel
theorem dX9_readParams_56 : decode cX9_readParams 56 = .ok (.aload_n 0, 1) := by decide +kernel
theorem dX9_readParams_57 : decode cX9_readParams 57 = .ok (.invokevirtual 151, 3) := by decide +kernel
theorem dX9_readParams_60 : decode cX9_readParams 60 = .ok (.ireturn, 1) := by decide +kernel
theorem dX9_readParams_61 : decode cX9_readParams 61 = .ok (.aload_n 1, 1) := by decide +kernel
theorem dX9_readParams_62 : decode cX9_readParams 62 = .ok (.getfield 245, 3) := by decide +kernel
theorem dX9_readParams_65 : decode cX9_readParams 65 = .ok (.iconst 4, 1) := by decide +kernel
theorem dX9_readParams_66 : decode cX9_readParams 66 = .ok (.if_icmp .lt 9, 3) := by decide +kernel
theorem dX9_readParams_69 : decode cX9_readParams 69 = .ok (.aload_n 0, 1) := by decide +kernel
theorem dX9_readParams_70 : decode cX9_readParams 70 = .ok (.iconst 3, 1) := by decide +kernel
theorem dX9_readParams_71 : decode cX9_readParams 71 = .ok (.invokevirtual 148, 3) := by decide +kernel
theorem dX9_readParams_74 : decode cX9_readParams 74 = .ok (.ireturn, 1) := by decide +kernel
theorem dX9_readParams_75 : decode cX9_readParams 75 = .ok (.aload_n 1, 1) := by decide +kernel
theorem dX9_readParams_76 : decode cX9_readParams 76 = .ok (.getfield 246, 3) := by decide +kernel
theorem dX9_readParams_79 : decode cX9_readParams 79 = .ok (.aload_n 1, 1) := by decide +kernel
theorem dX9_readParams_80 : decode cX9_readParams 80 = .ok (.getfield 245, 3) := by decide +kernel
theorem dX9_readParams_83 : decode cX9_readParams 83 = .ok (.aload_n 0, 1) := by decide +kernel
theorem dX9_readParams_84 : decode cX9_readParams 84 = .ok (.invokevirtual 74, 3) := by decide +kernel
theorem dX9_readParams_87 : decode cX9_readParams 87 = .ok (.bipush 26, 2) := by decide +kernel
theorem dX9_readParams_89 : decode cX9_readParams 89 = .ok (.if_icmp .ne 9, 3) := by decide +kernel
theorem dX9_readParams_92 : decode cX9_readParams 92 = .ok (.ldc2_w 239, 3) := by decide +kernel
theorem dX9_readParams_95 : decode cX9_readParams 95 = .ok (.goto 12, 3) := by decide +kernel
theorem dX9_readParams_98 : decode cX9_readParams 98 = .ok (.aload_n 0, 1) := by decide +kernel
theorem dX9_readParams_99 : decode cX9_readParams 99 = .ok (.getfield 25, 3) := by decide +kernel
theorem dX9_readParams_102 : decode cX9_readParams 102 = .ok (.aload_n 0, 1) := by decide +kernel
theorem dX9_readParams_103 : decode cX9_readParams 103 = .ok (.getfield 114, 3) := by decide +kernel
theorem dX9_readParams_106 : decode cX9_readParams 106 = .ok (.laload, 1) := by decide +kernel
theorem dX9_readParams_107 : decode cX9_readParams 107 = .ok (.lastore, 1) := by decide +kernel
theorem dX9_readParams_108 : decode cX9_readParams 108 = .ok (.aload_n 1, 1) := by decide +kernel
theorem dX9_readParams_109 : decode cX9_readParams 109 = .ok (.dup, 1) := by decide +kernel
theorem dX9_readParams_110 : decode cX9_readParams 110 = .ok (.getfield 245, 3) := by decide +kernel
theorem dX9_readParams_113 : decode cX9_readParams 113 = .ok (.iconst 1, 1) := by decide +kernel
theorem dX9_readParams_114 : decode cX9_readParams 114 = .ok (.iadd, 1) := by decide +kernel
theorem dX9_readParams_115 : decode cX9_readParams 115 = .ok (.putfield 245, 3) := by decide +kernel
theorem dX9_readParams_118 : decode cX9_readParams 118 = .ok (.aload_n 0, 1) := by decide +kernel
theorem dX9_readParams_119 : decode cX9_readParams 119 = .ok (.invokevirtual 158, 3) := by decide +kernel
theorem dX9_readParams_122 : decode cX9_readParams 122 = .ok (.ifCond .eq 11, 3) := by decide +kernel
theorem dX9_readParams_125 : decode cX9_readParams 125 = .ok (.aload_n 0, 1) := by decide +kernel
theorem dX9_readParams_126 : decode cX9_readParams 126 = .ok (.iconst 3, 1) := by decide +kernel
theorem dX9_readParams_127 : decode cX9_readParams 127 = .ok (.invokevirtual 101, 3) := by decide +kernel
theorem dX9_readParams_130 : decode cX9_readParams 130 = .ok (.ifCond .ne 5, 3) := by decide +kernel
theorem dX9_readParams_133 : decode cX9_readParams 133 = .ok (.iconst 0, 1) := by decide +kernel
theorem dX9_readParams_134 : decode cX9_readParams 134 = .ok (.ireturn, 1) := by decide +kernel
theorem dX9_readParams_135 : decode cX9_readParams 135 = .ok (.aload_n 0, 1) := by decide +kernel
theorem dX9_readParams_136 : decode cX9_readParams 136 = .ok (.invokevirtual 74, 3) := by decide +kernel
theorem dX9_readParams_139 : decode cX9_readParams 139 = .ok (.sipush 144, 3) := by decide +kernel
theorem dX9_readParams_142 : decode cX9_readParams 142 = .ok (.if_icmp .ne 7, 3) := by decide +kernel
theorem dX9_readParams_145 : decode cX9_readParams 145 = .ok (.iconst 1, 1) := by decide +kernel
theorem dX9_readParams_146 : decode cX9_readParams 146 = .ok (.goto 4, 3) := by decide +kernel
theorem dX9_readParams_149 : decode cX9_readParams 149 = .ok (.iconst 0, 1) := by decide +kernel
theorem dX9_readParams_150 : decode cX9_readParams 150 = .ok (.istore_n 2, 1) := by decide +kernel
theorem dX9_readParams_151 : decode cX9_readParams 151 = .ok (.iload_n 2, 1) := by decide +kernel
theorem dX9_readParams_152 : decode cX9_readParams 152 = .ok (.ifCond .eq 12, 3) := by decide +kernel
theorem dX9_readParams_155 : decode cX9_readParams 155 = .ok (.aload_n 0, 1) := by decide +kernel
theorem dX9_readParams_156 : decode cX9_readParams 156 = .ok (.invokevirtual 158, 3) := by decide +kernel
theorem dX9_readParams_159 : decode cX9_readParams 159 = .ok (.ifCond .ne 5, 3) := by decide +kernel
theorem dX9_readParams_162 : decode cX9_readParams 162 = .ok (.iconst 0, 1) := by decide +kernel
theorem dX9_readParams_163 : decode cX9_readParams 163 = .ok (.ireturn, 1) := by decide +kernel
theorem dX9_readParams_164 : decode cX9_readParams 164 = .ok (.iinc 3 1, 3) := by decide +kernel
theorem dX9_readParams_167 : decode cX9_readParams 167 = .ok (.goto (-137), 3) := by decide +kernel
theorem dX9_readParams_170 : decode cX9_readParams 170 = .ok (.aload_n 0, 1) := by decide +kernel
theorem dX9_readParams_171 : decode cX9_readParams 171 = .ok (.sipush 141, 3) := by decide +kernel
theorem dX9_readParams_174 : decode cX9_readParams 174 = .ok (.invokevirtual 101, 3) := by decide +kernel
theorem dX9_readParams_177 : decode cX9_readParams 177 = .ok (.ireturn, 1) := by decide +kernel
theorem dX9_readBody_0 : decode cX9_readBody 0 = .ok (.aload_n 1, 1) := by decide +kernel
theorem dX9_readBody_1 : decode cX9_readBody 1 = .ok (.aload_n 0, 1) := by decide +kernel
theorem dX9_readBody_2 : decode cX9_readBody 2 = .ok (.getfield 114, 3) := by decide +kernel
theorem dX9_readBody_5 : decode cX9_readBody 5 = .ok (.putfield 249, 3) := by decide +kernel
theorem dX9_readBody_8 : decode cX9_readBody 8 = .ok (.aload_n 1, 1) := by decide +kernel
theorem dX9_readBody_9 : decode cX9_readBody 9 = .ok (.aload_n 0, 1) := by decide +kernel
theorem dX9_readBody_10 : decode cX9_readBody 10 = .ok (.getfield 85, 3) := by decide +kernel
theorem dX9_readBody_13 : decode cX9_readBody 13 = .ok (.sipush 223, 3) := by decide +kernel
theorem dX9_readBody_16 : decode cX9_readBody 16 = .ok (.if_icmp .ne 7, 3) := by decide +kernel
theorem dX9_readBody_19 : decode cX9_readBody 19 = .ok (.iconst 1, 1) := by decide +kernel
theorem dX9_readBody_20 : decode cX9_readBody 20 = .ok (.goto 4, 3) := by decide +kernel
theorem dX9_readBody_23 : decode cX9_readBody 23 = .ok (.iconst 0, 1) := by decide +kernel
theorem dX9_readBody_24 : decode cX9_readBody 24 = .ok (.putfield 251, 3) := by decide +kernel
theorem dX9_readBody_27 : decode cX9_readBody 27 = .ok (.aload_n 1, 1) := by decide +kernel
theorem dX9_readBody_28 : decode cX9_readBody 28 = .ok (.aload_n 1, 1) := by decide +kernel
theorem dX9_readBody_29 : decode cX9_readBody 29 = .ok (.getfield 251, 3) := by decide +kernel
theorem dX9_readBody_32 : decode cX9_readBody 32 = .ok (.ifCond .eq 11, 3) := by decide +kernel
theorem dX9_readBody_35 : decode cX9_readBody 35 = .ok (.aload_n 0, 1) := by decide +kernel
theorem dX9_readBody_36 : decode cX9_readBody 36 = .ok (.iconst 0, 1) := by decide +kernel
theorem dX9_readBody_37 : decode cX9_readBody 37 = .ok (.invokevirtual 254, 3) := by decide +kernel
theorem dX9_readBody_40 : decode cX9_readBody 40 = .ok (.goto 8, 3) := by decide +kernel
theorem dX9_readBody_43 : decode cX9_readBody 43 = .ok (.aload_n 0, 1) := by decide +kernel
theorem dX9_readBody_44 : decode cX9_readBody 44 = .ok (.iconst 0, 1) := by decide +kernel
theorem dX9_readBody_45 : decode cX9_readBody 45 = .ok (.invokevirtual 257, 3) := by decide +kernel
theorem dX9_readBody_48 : decode cX9_readBody 48 = .ok (.putfield 260, 3) := by decide +kernel
theorem dX9_readBody_51 : decode cX9_readBody 51 = .ok (.aload_n 1, 1) := by decide +kernel
theorem dX9_readBody_52 : decode cX9_readBody 52 = .ok (.aload_n 0, 1) := by decide +kernel
theorem dX9_readBody_53 : decode cX9_readBody 53 = .ok (.getfield 114, 3) := by decide +kernel
theorem dX9_readBody_56 : decode cX9_readBody 56 = .ok (.putfield 264, 3) := by decide +kernel
theorem dX9_readBody_59 : decode cX9_readBody 59 = .ok (.aload_n 0, 1) := by decide +kernel
theorem dX9_readBody_60 : decode cX9_readBody 60 = .ok (.getfield 60, 3) := by decide +kernel
theorem dX9_readBody_63 : decode cX9_readBody 63 = .ok (.ifCond .ne 24, 3) := by decide +kernel
theorem dX9_readBody_66 : decode cX9_readBody 66 = .ok (.aload_n 1, 1) := by decide +kernel
theorem dX9_readBody_67 : decode cX9_readBody 67 = .ok (.getfield 251, 3) := by decide +kernel
theorem dX9_readBody_70 : decode cX9_readBody 70 = .ok (.ifCond .ne 13, 3) := by decide +kernel
theorem dX9_readBody_73 : decode cX9_readBody 73 = .ok (.aload_n 0, 1) := by decide +kernel
theorem dX9_readBody_74 : decode cX9_readBody 74 = .ok (.sipush 159, 3) := by decide +kernel
theorem dX9_readBody_77 : decode cX9_readBody 77 = .ok (.invokevirtual 101, 3) := by decide +kernel
theorem dX9_readBody_80 : decode cX9_readBody 80 = .ok (.ifCond .eq 7, 3) := by decide +kernel
theorem dX9_readBody_83 : decode cX9_readBody 83 = .ok (.iconst 1, 1) := by decide +kernel
theorem dX9_readBody_84 : decode cX9_readBody 84 = .ok (.goto 4, 3) := by decide +kernel
theorem dX9_readBody_87 : decode cX9_readBody 87 = .ok (.iconst 0, 1) := by decide +kernel
theorem dX9_readBody_88 : decode cX9_readBody 88 = .ok (.ireturn, 1) := by decide +kernel
theorem dX9_block_0 : decode cX9_block 0 = .ok (.aload_n 0, 1) := by decide +kernel
theorem dX9_block_1 : decode cX9_block 1 = .ok (.invokevirtual 74, 3) := by decide +kernel
theorem dX9_block_4 : decode cX9_block 4 = .ok (.sipush 223, 3) := by decide +kernel
theorem dX9_block_7 : decode cX9_block 7 = .ok (.if_icmp .eq 10, 3) := by decide +kernel
theorem dX9_block_10 : decode cX9_block 10 = .ok (.aload_n 0, 1) := by decide +kernel
theorem dX9_block_11 : decode cX9_block 11 = .ok (.invokevirtual 151, 3) := by decide +kernel
theorem dX9_block_14 : decode cX9_block 14 = .ok (.pop, 1) := by decide +kernel
theorem dX9_block_15 : decode cX9_block 15 = .ok (.aconst_null, 1) := by decide +kernel
theorem dX9_block_16 : decode cX9_block 16 = .ok (.areturn, 1) := by decide +kernel
theorem dX9_block_17 : decode cX9_block 17 = .ok (.iload_n 1, 1) := by decide +kernel
theorem dX9_block_18 : decode cX9_block 18 = .ok (.bipush 12, 2) := by decide +kernel
theorem dX9_block_20 : decode cX9_block 20 = .ok (.if_icmp .lt 11, 3) := by decide +kernel
theorem dX9_block_23 : decode cX9_block 23 = .ok (.aload_n 0, 1) := by decide +kernel
theorem dX9_block_24 : decode cX9_block 24 = .ok (.iconst 3, 1) := by decide +kernel
theorem dX9_block_25 : decode cX9_block 25 = .ok (.invokevirtual 148, 3) := by decide +kernel
theorem dX9_block_28 : decode cX9_block 28 = .ok (.pop, 1) := by decide +kernel
theorem dX9_block_29 : decode cX9_block 29 = .ok (.aconst_null, 1) := by decide +kernel
theorem dX9_block_30 : decode cX9_block 30 = .ok (.areturn, 1) := by decide +kernel
theorem dX9_block_31 : decode cX9_block 31 = .ok (.aload_n 0, 1) := by decide +kernel
theorem dX9_block_32 : decode cX9_block 32 = .ok (.bipush 30, 2) := by decide +kernel
theorem dX9_block_34 : decode cX9_block 34 = .ok (.aload_n 0, 1) := by decide +kernel
theorem dX9_block_35 : decode cX9_block 35 = .ok (.getfield 114, 3) := by decide +kernel
theorem dX9_block_38 : decode cX9_block 38 = .ok (.invokevirtual 266, 3) := by decide +kernel
theorem dX9_block_41 : decode cX9_block 41 = .ok (.astore_n 2, 1) := by decide +kernel
theorem dX9_block_42 : decode cX9_block 42 = .ok (.aload_n 0, 1) := by decide +kernel
theorem dX9_block_43 : decode cX9_block 43 = .ok (.invokevirtual 158, 3) := by decide +kernel
theorem dX9_block_46 : decode cX9_block 46 = .ok (.pop, 1) := by decide +kernel
theorem dX9_block_47 : decode cX9_block 47 = .ok (.aconst_null, 1) := by decide +kernel
theorem dX9_block_48 : decode cX9_block 48 = .ok (.astore_n 3, 1) := by decide +kernel
theorem dX9_block_49 : decode cX9_block 49 = .ok (.iconst 0, 1) := by decide +kernel
theorem dX9_block_50 : decode cX9_block 50 = .ok (.istore 4, 2) := by decide +kernel
theorem dX9_block_52 : decode cX9_block 52 = .ok (.iload 4, 2) := by decide +kernel
theorem dX9_block_54 : decode cX9_block 54 = .ok (.sipush 700, 3) := by decide +kernel
theorem dX9_block_57 : decode cX9_block 57 = .ok (.if_icmp .gt 57, 3) := by decide +kernel
theorem dX9_block_60 : decode cX9_block 60 = .ok (.aload_n 0, 1) := by decide +kernel
theorem dX9_block_61 : decode cX9_block 61 = .ok (.getfield 60, 3) := by decide +kernel
theorem dX9_block_64 : decode cX9_block 64 = .ok (.ifCond .ne 50, 3) := by decide +kernel
theorem dX9_block_67 : decode cX9_block 67 = .ok (.aload_n 0, 1) := by decide +kernel
theorem dX9_block_68 : decode cX9_block 68 = .ok (.invokevirtual 74, 3) := by decide +kernel
theorem dX9_block_71 : decode cX9_block 71 = .ok (.sipush 225, 3) := by decide +kernel
theorem dX9_block_74 : decode cX9_block 74 = .ok (.if_icmp .eq 40, 3) := by decide +kernel
theorem dX9_block_77 : decode cX9_block 77 = .ok (.aload_n 0, 1) := by decide +kernel
theorem dX9_block_78 : decode cX9_block 78 = .ok (.iload_n 1, 1) := by decide +kernel
theorem dX9_block_79 : decode cX9_block 79 = .ok (.iconst 1, 1) := by decide +kernel
theorem dX9_block_80 : decode cX9_block 80 = .ok (.iadd, 1) := by decide +kernel
theorem dX9_block_81 : decode cX9_block 81 = .ok (.invokevirtual 270, 3) := by decide +kernel
theorem dX9_block_84 : decode cX9_block 84 = .ok (.astore 5, 2) := by decide +kernel
theorem dX9_block_86 : decode cX9_block 86 = .ok (.aload_n 3, 1) := by decide +kernel
theorem dX9_block_87 : decode cX9_block 87 = .ok (.ifnonnull 12, 3) := by decide +kernel
theorem dX9_block_90 : decode cX9_block 90 = .ok (.aload_n 2, 1) := by decide +kernel
theorem dX9_block_91 : decode cX9_block 91 = .ok (.aload 5, 2) := by decide +kernel
theorem dX9_block_93 : decode cX9_block 93 = .ok (.putfield 273, 3) := by decide +kernel
theorem dX9_block_96 : decode cX9_block 96 = .ok (.goto 9, 3) := by decide +kernel
theorem dX9_block_99 : decode cX9_block 99 = .ok (.aload_n 3, 1) := by decide +kernel
theorem dX9_block_100 : decode cX9_block 100 = .ok (.aload 5, 2) := by decide +kernel
theorem dX9_block_102 : decode cX9_block 102 = .ok (.putfield 276, 3) := by decide +kernel
theorem dX9_block_105 : decode cX9_block 105 = .ok (.aload 5, 2) := by decide +kernel
theorem dX9_block_107 : decode cX9_block 107 = .ok (.astore_n 3, 1) := by decide +kernel
theorem dX9_block_108 : decode cX9_block 108 = .ok (.iinc 4 1, 3) := by decide +kernel
theorem dX9_block_111 : decode cX9_block 111 = .ok (.goto (-59), 3) := by decide +kernel
theorem dX9_block_114 : decode cX9_block 114 = .ok (.aload_n 0, 1) := by decide +kernel
theorem dX9_block_115 : decode cX9_block 115 = .ok (.getfield 60, 3) := by decide +kernel
theorem dX9_block_118 : decode cX9_block 118 = .ok (.ifCond .ne 14, 3) := by decide +kernel
theorem dX9_block_121 : decode cX9_block 121 = .ok (.aload_n 0, 1) := by decide +kernel
theorem dX9_block_122 : decode cX9_block 122 = .ok (.invokevirtual 158, 3) := by decide +kernel
theorem dX9_block_125 : decode cX9_block 125 = .ok (.ifCond .eq 7, 3) := by decide +kernel
theorem dX9_block_128 : decode cX9_block 128 = .ok (.aload_n 2, 1) := by decide +kernel
theorem dX9_block_129 : decode cX9_block 129 = .ok (.goto 4, 3) := by decide +kernel
theorem dX9_block_132 : decode cX9_block 132 = .ok (.aconst_null, 1) := by decide +kernel
theorem dX9_block_133 : decode cX9_block 133 = .ok (.areturn, 1) := by decide +kernel
theorem dX9_statement_0 : decode cX9_statement 0 = .ok (.aload_n 0, 1) := by decide +kernel
theorem dX9_statement_1 : decode cX9_statement 1 = .ok (.invokevirtual 74, 3) := by decide +kernel
theorem dX9_statement_4 : decode cX9_statement 4 = .ok (.istore_n 2, 1) := by decide +kernel
theorem dX9_statement_5 : decode cX9_statement 5 = .ok (.iload_n 2, 1) := by decide +kernel
theorem dX9_statement_6 : decode cX9_statement 6 = .ok (.invokestatic 279, 3) := by decide +kernel
theorem dX9_statement_9 : decode cX9_statement 9 = .ok (.istore_n 3, 1) := by decide +kernel
theorem dX9_statement_10 : decode cX9_statement 10 = .ok (.iload_n 3, 1) := by decide +kernel
theorem dX9_statement_11 : decode cX9_statement 11 = .ok (.ifCond .ne 59, 3) := by decide +kernel
theorem dX9_statement_14 : decode cX9_statement 14 = .ok (.iload_n 2, 1) := by decide +kernel
theorem dX9_statement_15 : decode cX9_statement 15 = .ok (.sipush 223, 3) := by decide +kernel
theorem dX9_statement_18 : decode cX9_statement 18 = .ok (.if_icmp .eq 52, 3) := by decide +kernel
theorem dX9_statement_21 : decode cX9_statement 21 = .ok (.iload_n 2, 1) := by decide +kernel
theorem dX9_statement_22 : decode cX9_statement 22 = .ok (.bipush 27, 2) := by decide +kernel
theorem dX9_statement_24 : decode cX9_statement 24 = .ok (.if_icmp .eq 46, 3) := by decide +kernel
theorem dX9_statement_27 : decode cX9_statement 27 = .ok (.iload_n 2, 1) := by decide +kernel
theorem dX9_statement_28 : decode cX9_statement 28 = .ok (.bipush 28, 2) := by decide +kernel
theorem dX9_statement_30 : decode cX9_statement 30 = .ok (.if_icmp .eq 40, 3) := by decide +kernel
theorem dX9_statement_33 : decode cX9_statement 33 = .ok (.iload_n 2, 1) := by decide +kernel
theorem dX9_statement_34 : decode cX9_statement 34 = .ok (.bipush 30, 2) := by decide +kernel
theorem dX9_statement_36 : decode cX9_statement 36 = .ok (.if_icmp .eq 34, 3) := by decide +kernel
theorem dX9_statement_39 : decode cX9_statement 39 = .ok (.iload_n 2, 1) := by decide +kernel
theorem dX9_statement_40 : decode cX9_statement 40 = .ok (.bipush 31, 2) := by decide +kernel
theorem dX9_statement_42 : decode cX9_statement 42 = .ok (.if_icmp .eq 28, 3) := by decide +kernel
theorem dX9_statement_45 : decode cX9_statement 45 = .ok (.iload_n 2, 1) := by decide +kernel
theorem dX9_statement_46 : decode cX9_statement 46 = .ok (.bipush 32, 2) := by decide +kernel
theorem dX9_statement_48 : decode cX9_statement 48 = .ok (.if_icmp .eq 22, 3) := by decide +kernel
theorem dX9_statement_51 : decode cX9_statement 51 = .ok (.iload_n 2, 1) := by decide +kernel
theorem dX9_statement_52 : decode cX9_statement 52 = .ok (.bipush 33, 2) := by decide +kernel
theorem dX9_statement_54 : decode cX9_statement 54 = .ok (.if_icmp .eq 16, 3) := by decide +kernel
theorem dX9_statement_57 : decode cX9_statement 57 = .ok (.iload_n 2, 1) := by decide +kernel
theorem dX9_statement_58 : decode cX9_statement 58 = .ok (.bipush 35, 2) := by decide +kernel
theorem dX9_statement_60 : decode cX9_statement 60 = .ok (.if_icmp .eq 10, 3) := by decide +kernel
theorem dX9_statement_63 : decode cX9_statement 63 = .ok (.aload_n 0, 1) := by decide +kernel
theorem dX9_statement_64 : decode cX9_statement 64 = .ok (.invokevirtual 151, 3) := by decide +kernel
theorem dX9_statement_67 : decode cX9_statement 67 = .ok (.pop, 1) := by decide +kernel
theorem dX9_statement_68 : decode cX9_statement 68 = .ok (.aconst_null, 1) := by decide +kernel
theorem dX9_statement_69 : decode cX9_statement 69 = .ok (.areturn, 1) := by decide +kernel
theorem dX9_statement_70 : decode cX9_statement 70 = .ok (.iload_n 1, 1) := by decide +kernel
theorem dX9_statement_71 : decode cX9_statement 71 = .ok (.bipush 12, 2) := by decide +kernel
theorem dX9_statement_73 : decode cX9_statement 73 = .ok (.if_icmp .lt 11, 3) := by decide +kernel
theorem dX9_statement_76 : decode cX9_statement 76 = .ok (.aload_n 0, 1) := by decide +kernel
theorem dX9_statement_77 : decode cX9_statement 77 = .ok (.iconst 3, 1) := by decide +kernel
theorem dX9_statement_78 : decode cX9_statement 78 = .ok (.invokevirtual 148, 3) := by decide +kernel
theorem dX9_statement_81 : decode cX9_statement 81 = .ok (.pop, 1) := by decide +kernel
theorem dX9_statement_82 : decode cX9_statement 82 = .ok (.aconst_null, 1) := by decide +kernel
theorem dX9_statement_83 : decode cX9_statement 83 = .ok (.areturn, 1) := by decide +kernel
theorem dX9_statement_84 : decode cX9_statement 84 = .ok (.iload_n 2, 1) := by decide +kernel
theorem dX9_statement_85 : decode cX9_statement 85 = .ok (.sipush 223, 3) := by decide +kernel
theorem dX9_statement_88 : decode cX9_statement 88 = .ok (.if_icmp .ne 9, 3) := by decide +kernel
theorem dX9_statement_91 : decode cX9_statement 91 = .ok (.aload_n 0, 1) := by decide +kernel
theorem dX9_statement_92 : decode cX9_statement 92 = .ok (.iload_n 1, 1) := by decide +kernel
theorem dX9_statement_93 : decode cX9_statement 93 = .ok (.invokevirtual 254, 3) := by decide +kernel
theorem dX9_statement_96 : decode cX9_statement 96 = .ok (.areturn, 1) := by decide +kernel
theorem dX9_statement_97 : decode cX9_statement 97 = .ok (.iload_n 2, 1) := by decide +kernel
theorem dX9_statement_98 : decode cX9_statement 98 = .ok (.bipush 38, 2) := by decide +kernel
theorem dX9_statement_100 : decode cX9_statement 100 = .ok (.if_icmp .ne 61, 3) := by decide +kernel
theorem dX9_statement_103 : decode cX9_statement 103 = .ok (.aload_n 0, 1) := by decide +kernel
theorem dX9_statement_104 : decode cX9_statement 104 = .ok (.invokevirtual 282, 3) := by decide +kernel
theorem dX9_statement_107 : decode cX9_statement 107 = .ok (.sipush 140, 3) := by decide +kernel
theorem dX9_statement_110 : decode cX9_statement 110 = .ok (.if_icmp .ne 51, 3) := by decide +kernel
theorem dX9_statement_113 : decode cX9_statement 113 = .ok (.aload_n 0, 1) := by decide +kernel
theorem dX9_statement_114 : decode cX9_statement 114 = .ok (.bipush 38, 2) := by decide +kernel
theorem dX9_statement_116 : decode cX9_statement 116 = .ok (.aload_n 0, 1) := by decide +kernel
theorem dX9_statement_117 : decode cX9_statement 117 = .ok (.getfield 114, 3) := by decide +kernel
theorem dX9_statement_120 : decode cX9_statement 120 = .ok (.invokevirtual 266, 3) := by decide +kernel
theorem dX9_statement_123 : decode cX9_statement 123 = .ok (.astore 4, 2) := by decide +kernel
theorem dX9_statement_125 : decode cX9_statement 125 = .ok (.aload_n 0, 1) := by decide +kernel
theorem dX9_statement_126 : decode cX9_statement 126 = .ok (.invokevirtual 158, 3) := by decide +kernel
theorem dX9_statement_129 : decode cX9_statement 129 = .ok (.ifCond .eq 30, 3) := by decide +kernel
theorem dX9_statement_132 : decode cX9_statement 132 = .ok (.aload_n 0, 1) := by decide +kernel
theorem dX9_statement_133 : decode cX9_statement 133 = .ok (.aload 4, 2) := by decide +kernel
theorem dX9_statement_135 : decode cX9_statement 135 = .ok (.iload_n 1, 1) := by decide +kernel
theorem dX9_statement_136 : decode cX9_statement 136 = .ok (.iconst 1, 1) := by decide +kernel
theorem dX9_statement_137 : decode cX9_statement 137 = .ok (.iadd, 1) := by decide +kernel
theorem dX9_statement_138 : decode cX9_statement 138 = .ok (.invokevirtual 285, 3) := by decide +kernel
theorem dX9_statement_141 : decode cX9_statement 141 = .ok (.ifCond .eq 18, 3) := by decide +kernel
theorem dX9_statement_144 : decode cX9_statement 144 = .ok (.aload_n 0, 1) := by decide +kernel
theorem dX9_statement_145 : decode cX9_statement 145 = .ok (.sipush 159, 3) := by decide +kernel
theorem dX9_statement_148 : decode cX9_statement 148 = .ok (.invokevirtual 101, 3) := by decide +kernel
theorem dX9_statement_151 : decode cX9_statement 151 = .ok (.ifCond .eq 8, 3) := by decide +kernel
theorem dX9_statement_154 : decode cX9_statement 154 = .ok (.aload 4, 2) := by decide +kernel
theorem dX9_statement_156 : decode cX9_statement 156 = .ok (.goto 4, 3) := by decide +kernel
theorem dX9_statement_159 : decode cX9_statement 159 = .ok (.aconst_null, 1) := by decide +kernel
theorem dX9_statement_160 : decode cX9_statement 160 = .ok (.areturn, 1) := by decide +kernel
theorem dX9_statement_161 : decode cX9_statement 161 = .ok (.iload_n 3, 1) := by decide +kernel
theorem dX9_statement_162 : decode cX9_statement 162 = .ok (.ifCond .eq 11, 3) := by decide +kernel
theorem dX9_statement_165 : decode cX9_statement 165 = .ok (.aload_n 0, 1) := by decide +kernel
theorem dX9_statement_166 : decode cX9_statement 166 = .ok (.iload_n 1, 1) := by decide +kernel
theorem dX9_statement_167 : decode cX9_statement 167 = .ok (.iconst 1, 1) := by decide +kernel
theorem dX9_statement_168 : decode cX9_statement 168 = .ok (.iadd, 1) := by decide +kernel
theorem dX9_statement_169 : decode cX9_statement 169 = .ok (.invokevirtual 289, 3) := by decide +kernel
theorem dX9_statement_172 : decode cX9_statement 172 = .ok (.areturn, 1) := by decide +kernel
theorem dX9_statement_173 : decode cX9_statement 173 = .ok (.aload_n 0, 1) := by decide +kernel
theorem dX9_statement_174 : decode cX9_statement 174 = .ok (.iload_n 2, 1) := by decide +kernel
theorem dX9_statement_175 : decode cX9_statement 175 = .ok (.iload_n 1, 1) := by decide +kernel
theorem dX9_statement_176 : decode cX9_statement 176 = .ok (.iconst 1, 1) := by decide +kernel
theorem dX9_statement_177 : decode cX9_statement 177 = .ok (.iadd, 1) := by decide +kernel
theorem dX9_statement_178 : decode cX9_statement 178 = .ok (.invokevirtual 292, 3) := by decide +kernel
theorem dX9_statement_181 : decode cX9_statement 181 = .ok (.areturn, 1) := by decide +kernel
theorem dX9_simple_0 : decode cX9_simple 0 = .ok (.aload_n 0, 1) := by decide +kernel
theorem dX9_simple_1 : decode cX9_simple 1 = .ok (.bipush 40, 2) := by decide +kernel
theorem dX9_simple_3 : decode cX9_simple 3 = .ok (.aload_n 0, 1) := by decide +kernel
theorem dX9_simple_4 : decode cX9_simple 4 = .ok (.getfield 114, 3) := by decide +kernel
theorem dX9_simple_7 : decode cX9_simple 7 = .ok (.invokevirtual 266, 3) := by decide +kernel
theorem dX9_simple_10 : decode cX9_simple 10 = .ok (.astore_n 2, 1) := by decide +kernel
theorem dX9_simple_11 : decode cX9_simple 11 = .ok (.aload_n 2, 1) := by decide +kernel
theorem dX9_simple_12 : decode cX9_simple 12 = .ok (.aload_n 0, 1) := by decide +kernel
theorem dX9_simple_13 : decode cX9_simple 13 = .ok (.iload_n 1, 1) := by decide +kernel
theorem dX9_simple_14 : decode cX9_simple 14 = .ok (.invokevirtual 257, 3) := by decide +kernel
theorem dX9_simple_17 : decode cX9_simple 17 = .ok (.putfield 273, 3) := by decide +kernel
theorem dX9_simple_20 : decode cX9_simple 20 = .ok (.aload_n 2, 1) := by decide +kernel
theorem dX9_simple_21 : decode cX9_simple 21 = .ok (.getfield 273, 3) := by decide +kernel
theorem dX9_simple_24 : decode cX9_simple 24 = .ok (.ifnull 35, 3) := by decide +kernel
theorem dX9_simple_27 : decode cX9_simple 27 = .ok (.aload_n 0, 1) := by decide +kernel
theorem dX9_simple_28 : decode cX9_simple 28 = .ok (.invokevirtual 74, 3) := by decide +kernel
theorem dX9_simple_31 : decode cX9_simple 31 = .ok (.sipush 161, 3) := by decide +kernel
theorem dX9_simple_34 : decode cX9_simple 34 = .ok (.if_icmp .ne 25, 3) := by decide +kernel
theorem dX9_simple_37 : decode cX9_simple 37 = .ok (.aload_n 0, 1) := by decide +kernel
theorem dX9_simple_38 : decode cX9_simple 38 = .ok (.invokevirtual 158, 3) := by decide +kernel
theorem dX9_simple_41 : decode cX9_simple 41 = .ok (.ifCond .eq 18, 3) := by decide +kernel
theorem dX9_simple_44 : decode cX9_simple 44 = .ok (.aload_n 2, 1) := by decide +kernel
theorem dX9_simple_45 : decode cX9_simple 45 = .ok (.bipush 39, 2) := by decide +kernel
theorem dX9_simple_47 : decode cX9_simple 47 = .ok (.putfield 295, 3) := by decide +kernel
theorem dX9_simple_50 : decode cX9_simple 50 = .ok (.aload_n 2, 1) := by decide +kernel
theorem dX9_simple_51 : decode cX9_simple 51 = .ok (.aload_n 0, 1) := by decide +kernel
theorem dX9_simple_52 : decode cX9_simple 52 = .ok (.iload_n 1, 1) := by decide +kernel
theorem dX9_simple_53 : decode cX9_simple 53 = .ok (.invokevirtual 257, 3) := by decide +kernel
theorem dX9_simple_56 : decode cX9_simple 56 = .ok (.putfield 296, 3) := by decide +kernel
theorem dX9_simple_59 : decode cX9_simple 59 = .ok (.aload_n 0, 1) := by decide +kernel
theorem dX9_simple_60 : decode cX9_simple 60 = .ok (.getfield 60, 3) := by decide +kernel
theorem dX9_simple_63 : decode cX9_simple 63 = .ok (.ifCond .ne 17, 3) := by decide +kernel
theorem dX9_simple_66 : decode cX9_simple 66 = .ok (.aload_n 0, 1) := by decide +kernel
theorem dX9_simple_67 : decode cX9_simple 67 = .ok (.sipush 159, 3) := by decide +kernel
theorem dX9_simple_70 : decode cX9_simple 70 = .ok (.invokevirtual 101, 3) := by decide +kernel
theorem dX9_simple_73 : decode cX9_simple 73 = .ok (.ifCond .eq 7, 3) := by decide +kernel
theorem dX9_simple_76 : decode cX9_simple 76 = .ok (.aload_n 2, 1) := by decide +kernel
theorem dX9_simple_77 : decode cX9_simple 77 = .ok (.goto 4, 3) := by decide +kernel
theorem dX9_simple_80 : decode cX9_simple 80 = .ok (.aconst_null, 1) := by decide +kernel
theorem dX9_simple_81 : decode cX9_simple 81 = .ok (.areturn, 1) := by decide +kernel
theorem dX9_worded_0 : decode cX9_worded 0 = .ok (.aload_n 0, 1) := by decide +kernel
theorem dX9_worded_1 : decode cX9_worded 1 = .ok (.bipush 37, 2) := by decide +kernel
theorem dX9_worded_3 : decode cX9_worded 3 = .ok (.aload_n 0, 1) := by decide +kernel
theorem dX9_worded_4 : decode cX9_worded 4 = .ok (.getfield 114, 3) := by decide +kernel
theorem dX9_worded_7 : decode cX9_worded 7 = .ok (.invokevirtual 266, 3) := by decide +kernel
theorem dX9_worded_10 : decode cX9_worded 10 = .ok (.astore_n 3, 1) := by decide +kernel
theorem dX9_worded_11 : decode cX9_worded 11 = .ok (.aload_n 0, 1) := by decide +kernel
theorem dX9_worded_12 : decode cX9_worded 12 = .ok (.invokevirtual 158, 3) := by decide +kernel
theorem dX9_worded_15 : decode cX9_worded 15 = .ok (.ifCond .ne 5, 3) := by decide +kernel
theorem dX9_worded_18 : decode cX9_worded 18 = .ok (.aconst_null, 1) := by decide +kernel
theorem dX9_worded_19 : decode cX9_worded 19 = .ok (.areturn, 1) := by decide +kernel
theorem dX9_worded_20 : decode cX9_worded 20 = .ok (.iload_n 1, 1) := by decide +kernel
theorem dX9_worded_21 : decode cX9_worded 21 = .ok (.bipush 28, 2) := by decide +kernel
theorem dX9_worded_23 : decode cX9_worded 23 = .ok (.if_icmp .eq 9, 3) := by decide +kernel
theorem dX9_worded_26 : decode cX9_worded 26 = .ok (.iload_n 1, 1) := by decide +kernel
theorem dX9_worded_27 : decode cX9_worded 27 = .ok (.bipush 30, 2) := by decide +kernel
theorem dX9_worded_29 : decode cX9_worded 29 = .ok (.if_icmp .ne 11, 3) := by decide +kernel
theorem dX9_worded_32 : decode cX9_worded 32 = .ok (.aload_n 0, 1) := by decide +kernel
theorem dX9_worded_33 : decode cX9_worded 33 = .ok (.aload_n 3, 1) := by decide +kernel
theorem dX9_worded_34 : decode cX9_worded 34 = .ok (.iload_n 1, 1) := by decide +kernel
theorem dX9_worded_35 : decode cX9_worded 35 = .ok (.iload_n 2, 1) := by decide +kernel
theorem dX9_worded_36 : decode cX9_worded 36 = .ok (.invokevirtual 299, 3) := by decide +kernel
theorem dX9_worded_39 : decode cX9_worded 39 = .ok (.areturn, 1) := by decide +kernel
theorem dX9_worded_40 : decode cX9_worded 40 = .ok (.iload_n 1, 1) := by decide +kernel
theorem dX9_worded_41 : decode cX9_worded 41 = .ok (.bipush 33, 2) := by decide +kernel
theorem dX9_worded_43 : decode cX9_worded 43 = .ok (.if_icmp .ne 10, 3) := by decide +kernel
theorem dX9_worded_46 : decode cX9_worded 46 = .ok (.aload_n 0, 1) := by decide +kernel
theorem dX9_worded_47 : decode cX9_worded 47 = .ok (.aload_n 3, 1) := by decide +kernel
theorem dX9_worded_48 : decode cX9_worded 48 = .ok (.iload_n 2, 1) := by decide +kernel
theorem dX9_worded_49 : decode cX9_worded 49 = .ok (.invokevirtual 303, 3) := by decide +kernel
theorem dX9_worded_52 : decode cX9_worded 52 = .ok (.areturn, 1) := by decide +kernel
theorem dX9_worded_53 : decode cX9_worded 53 = .ok (.iload_n 1, 1) := by decide +kernel
theorem dX9_worded_54 : decode cX9_worded 54 = .ok (.bipush 27, 2) := by decide +kernel
theorem dX9_worded_56 : decode cX9_worded 56 = .ok (.if_icmp .ne 88, 3) := by decide +kernel
theorem dX9_worded_59 : decode cX9_worded 59 = .ok (.aload_n 3, 1) := by decide +kernel
theorem dX9_worded_60 : decode cX9_worded 60 = .ok (.bipush 31, 2) := by decide +kernel
theorem dX9_worded_62 : decode cX9_worded 62 = .ok (.putfield 295, 3) := by decide +kernel
theorem dX9_worded_65 : decode cX9_worded 65 = .ok (.aload_n 0, 1) := by decide +kernel
theorem dX9_worded_66 : decode cX9_worded 66 = .ok (.invokevirtual 74, 3) := by decide +kernel
theorem dX9_worded_69 : decode cX9_worded 69 = .ok (.bipush 26, 2) := by decide +kernel
theorem dX9_worded_71 : decode cX9_worded 71 = .ok (.if_icmp .eq 18, 3) := by decide +kernel
theorem dX9_worded_74 : decode cX9_worded 74 = .ok (.aload_n 0, 1) := by decide +kernel
theorem dX9_worded_75 : decode cX9_worded 75 = .ok (.invokevirtual 74, 3) := by decide +kernel
theorem dX9_worded_78 : decode cX9_worded 78 = .ok (.iconst 2, 1) := by decide +kernel
theorem dX9_worded_79 : decode cX9_worded 79 = .ok (.if_icmp .eq 10, 3) := by decide +kernel
theorem dX9_worded_82 : decode cX9_worded 82 = .ok (.aload_n 0, 1) := by decide +kernel
theorem dX9_worded_83 : decode cX9_worded 83 = .ok (.invokevirtual 151, 3) := by decide +kernel
theorem dX9_worded_86 : decode cX9_worded 86 = .ok (.pop, 1) := by decide +kernel
theorem dX9_worded_87 : decode cX9_worded 87 = .ok (.aconst_null, 1) := by decide +kernel
theorem dX9_worded_88 : decode cX9_worded 88 = .ok (.areturn, 1) := by decide +kernel
theorem dX9_worded_89 : decode cX9_worded 89 = .ok (.aload_n 3, 1) := by decide +kernel
theorem dX9_worded_90 : decode cX9_worded 90 = .ok (.aload_n 0, 1) := by decide +kernel
theorem dX9_worded_91 : decode cX9_worded 91 = .ok (.invokevirtual 74, 3) := by decide +kernel
theorem dX9_worded_94 : decode cX9_worded 94 = .ok (.bipush 26, 2) := by decide +kernel
theorem dX9_worded_96 : decode cX9_worded 96 = .ok (.if_icmp .ne 9, 3) := by decide +kernel
theorem dX9_worded_99 : decode cX9_worded 99 = .ok (.ldc2_w 239, 3) := by decide +kernel
theorem dX9_worded_102 : decode cX9_worded 102 = .ok (.goto 12, 3) := by decide +kernel
theorem dX9_worded_105 : decode cX9_worded 105 = .ok (.aload_n 0, 1) := by decide +kernel
theorem dX9_worded_106 : decode cX9_worded 106 = .ok (.getfield 25, 3) := by decide +kernel
theorem dX9_worded_109 : decode cX9_worded 109 = .ok (.aload_n 0, 1) := by decide +kernel
theorem dX9_worded_110 : decode cX9_worded 110 = .ok (.getfield 114, 3) := by decide +kernel
theorem dX9_worded_113 : decode cX9_worded 113 = .ok (.laload, 1) := by decide +kernel
theorem dX9_worded_114 : decode cX9_worded 114 = .ok (.putfield 307, 3) := by decide +kernel
theorem dX9_worded_117 : decode cX9_worded 117 = .ok (.aload_n 0, 1) := by decide +kernel
theorem dX9_worded_118 : decode cX9_worded 118 = .ok (.invokevirtual 158, 3) := by decide +kernel
theorem dX9_worded_121 : decode cX9_worded 121 = .ok (.ifCond .eq 21, 3) := by decide +kernel
theorem dX9_worded_124 : decode cX9_worded 124 = .ok (.aload_n 0, 1) := by decide +kernel
theorem dX9_worded_125 : decode cX9_worded 125 = .ok (.iconst 3, 1) := by decide +kernel
theorem dX9_worded_126 : decode cX9_worded 126 = .ok (.invokevirtual 101, 3) := by decide +kernel
theorem dX9_worded_129 : decode cX9_worded 129 = .ok (.ifCond .eq 13, 3) := by decide +kernel
theorem dX9_worded_132 : decode cX9_worded 132 = .ok (.aload_n 0, 1) := by decide +kernel
theorem dX9_worded_133 : decode cX9_worded 133 = .ok (.sipush 161, 3) := by decide +kernel
theorem dX9_worded_136 : decode cX9_worded 136 = .ok (.invokevirtual 101, 3) := by decide +kernel
theorem dX9_worded_139 : decode cX9_worded 139 = .ok (.ifCond .ne 5, 3) := by decide +kernel
theorem dX9_worded_142 : decode cX9_worded 142 = .ok (.aconst_null, 1) := by decide +kernel
theorem dX9_worded_143 : decode cX9_worded 143 = .ok (.areturn, 1) := by decide +kernel
theorem dX9_worded_144 : decode cX9_worded 144 = .ok (.iload_n 1, 1) := by decide +kernel
theorem dX9_worded_145 : decode cX9_worded 145 = .ok (.bipush 31, 2) := by decide +kernel
theorem dX9_worded_147 : decode cX9_worded 147 = .ok (.if_icmp .ne 12, 3) := by decide +kernel
theorem dX9_worded_150 : decode cX9_worded 150 = .ok (.aload_n 3, 1) := by decide +kernel
theorem dX9_worded_151 : decode cX9_worded 151 = .ok (.bipush 34, 2) := by decide +kernel
theorem dX9_worded_153 : decode cX9_worded 153 = .ok (.putfield 295, 3) := by decide +kernel
theorem dX9_worded_156 : decode cX9_worded 156 = .ok (.goto 15, 3) := by decide +kernel
theorem dX9_worded_159 : decode cX9_worded 159 = .ok (.iload_n 1, 1) := by decide +kernel
theorem dX9_worded_160 : decode cX9_worded 160 = .ok (.bipush 32, 2) := by decide +kernel
theorem dX9_worded_162 : decode cX9_worded 162 = .ok (.if_icmp .ne 9, 3) := by decide +kernel
theorem dX9_worded_165 : decode cX9_worded 165 = .ok (.aload_n 3, 1) := by decide +kernel
theorem dX9_worded_166 : decode cX9_worded 166 = .ok (.bipush 35, 2) := by decide +kernel
theorem dX9_worded_168 : decode cX9_worded 168 = .ok (.putfield 295, 3) := by decide +kernel
theorem dX9_worded_171 : decode cX9_worded 171 = .ok (.iload_n 1, 1) := by decide +kernel
theorem dX9_worded_172 : decode cX9_worded 172 = .ok (.bipush 31, 2) := by decide +kernel
theorem dX9_worded_174 : decode cX9_worded 174 = .ok (.if_icmp .ne 13, 3) := by decide +kernel
theorem dX9_worded_177 : decode cX9_worded 177 = .ok (.aload_n 0, 1) := by decide +kernel
theorem dX9_worded_178 : decode cX9_worded 178 = .ok (.invokevirtual 74, 3) := by decide +kernel
theorem dX9_worded_181 : decode cX9_worded 181 = .ok (.sipush 159, 3) := by decide +kernel
theorem dX9_worded_184 : decode cX9_worded 184 = .ok (.if_icmp .eq 12, 3) := by decide +kernel
theorem dX9_worded_187 : decode cX9_worded 187 = .ok (.aload_n 3, 1) := by decide +kernel
theorem dX9_worded_188 : decode cX9_worded 188 = .ok (.aload_n 0, 1) := by decide +kernel
theorem dX9_worded_189 : decode cX9_worded 189 = .ok (.iload_n 2, 1) := by decide +kernel
theorem dX9_worded_190 : decode cX9_worded 190 = .ok (.invokevirtual 257, 3) := by decide +kernel
theorem dX9_worded_193 : decode cX9_worded 193 = .ok (.putfield 273, 3) := by decide +kernel
theorem dX9_worded_196 : decode cX9_worded 196 = .ok (.aload_n 0, 1) := by decide +kernel
theorem dX9_worded_197 : decode cX9_worded 197 = .ok (.getfield 60, 3) := by decide +kernel
theorem dX9_worded_200 : decode cX9_worded 200 = .ok (.ifCond .ne 17, 3) := by decide +kernel
theorem dX9_worded_203 : decode cX9_worded 203 = .ok (.aload_n 0, 1) := by decide +kernel
theorem dX9_worded_204 : decode cX9_worded 204 = .ok (.sipush 159, 3) := by decide +kernel
theorem dX9_worded_207 : decode cX9_worded 207 = .ok (.invokevirtual 101, 3) := by decide +kernel
theorem dX9_worded_210 : decode cX9_worded 210 = .ok (.ifCond .eq 7, 3) := by decide +kernel
theorem dX9_worded_213 : decode cX9_worded 213 = .ok (.aload_n 3, 1) := by decide +kernel
theorem dX9_worded_214 : decode cX9_worded 214 = .ok (.goto 4, 3) := by decide +kernel
theorem dX9_worded_217 : decode cX9_worded 217 = .ok (.aconst_null, 1) := by decide +kernel
theorem dX9_worded_218 : decode cX9_worded 218 = .ok (.areturn, 1) := by decide +kernel
theorem dX9_tested_0 : decode cX9_tested 0 = .ok (.aload_n 1, 1) := by decide +kernel
theorem dX9_tested_1 : decode cX9_tested 1 = .ok (.iload_n 2, 1) := by decide +kernel
theorem dX9_tested_2 : decode cX9_tested 2 = .ok (.bipush 28, 2) := by decide +kernel
theorem dX9_tested_4 : decode cX9_tested 4 = .ok (.if_icmp .ne 8, 3) := by decide +kernel
theorem dX9_tested_7 : decode cX9_tested 7 = .ok (.bipush 32, 2) := by decide +kernel
theorem dX9_tested_9 : decode cX9_tested 9 = .ok (.goto 5, 3) := by decide +kernel
theorem dX9_tested_12 : decode cX9_tested 12 = .ok (.bipush 33, 2) := by decide +kernel
theorem dX9_tested_14 : decode cX9_tested 14 = .ok (.putfield 295, 3) := by decide +kernel
theorem dX9_tested_17 : decode cX9_tested 17 = .ok (.aload_n 0, 1) := by decide +kernel
theorem dX9_tested_18 : decode cX9_tested 18 = .ok (.sipush 140, 3) := by decide +kernel
theorem dX9_tested_21 : decode cX9_tested 21 = .ok (.invokevirtual 101, 3) := by decide +kernel
theorem dX9_tested_24 : decode cX9_tested 24 = .ok (.ifCond .ne 5, 3) := by decide +kernel
theorem dX9_tested_27 : decode cX9_tested 27 = .ok (.aconst_null, 1) := by decide +kernel
theorem dX9_tested_28 : decode cX9_tested 28 = .ok (.areturn, 1) := by decide +kernel
theorem dX9_tested_29 : decode cX9_tested 29 = .ok (.aload_n 1, 1) := by decide +kernel
theorem dX9_tested_30 : decode cX9_tested 30 = .ok (.aload_n 0, 1) := by decide +kernel
theorem dX9_tested_31 : decode cX9_tested 31 = .ok (.iload_n 3, 1) := by decide +kernel
theorem dX9_tested_32 : decode cX9_tested 32 = .ok (.invokevirtual 257, 3) := by decide +kernel
theorem dX9_tested_35 : decode cX9_tested 35 = .ok (.putfield 273, 3) := by decide +kernel
theorem dX9_tested_38 : decode cX9_tested 38 = .ok (.aload_n 0, 1) := by decide +kernel
theorem dX9_tested_39 : decode cX9_tested 39 = .ok (.getfield 60, 3) := by decide +kernel
theorem dX9_tested_42 : decode cX9_tested 42 = .ok (.ifCond .ne 13, 3) := by decide +kernel
theorem dX9_tested_45 : decode cX9_tested 45 = .ok (.aload_n 0, 1) := by decide +kernel
theorem dX9_tested_46 : decode cX9_tested 46 = .ok (.sipush 141, 3) := by decide +kernel
theorem dX9_tested_49 : decode cX9_tested 49 = .ok (.invokevirtual 101, 3) := by decide +kernel
theorem dX9_tested_52 : decode cX9_tested 52 = .ok (.ifCond .ne 5, 3) := by decide +kernel
theorem dX9_tested_55 : decode cX9_tested 55 = .ok (.aconst_null, 1) := by decide +kernel
theorem dX9_tested_56 : decode cX9_tested 56 = .ok (.areturn, 1) := by decide +kernel
theorem dX9_tested_57 : decode cX9_tested 57 = .ok (.aload_n 1, 1) := by decide +kernel
theorem dX9_tested_58 : decode cX9_tested 58 = .ok (.aload_n 0, 1) := by decide +kernel
theorem dX9_tested_59 : decode cX9_tested 59 = .ok (.iload_n 3, 1) := by decide +kernel
theorem dX9_tested_60 : decode cX9_tested 60 = .ok (.invokevirtual 270, 3) := by decide +kernel
theorem dX9_tested_63 : decode cX9_tested 63 = .ok (.putfield 296, 3) := by decide +kernel
theorem dX9_tested_66 : decode cX9_tested 66 = .ok (.aload_n 0, 1) := by decide +kernel
theorem dX9_tested_67 : decode cX9_tested 67 = .ok (.getfield 60, 3) := by decide +kernel
theorem dX9_tested_70 : decode cX9_tested 70 = .ok (.ifCond .ne 34, 3) := by decide +kernel
theorem dX9_tested_73 : decode cX9_tested 73 = .ok (.iload_n 2, 1) := by decide +kernel
theorem dX9_tested_74 : decode cX9_tested 74 = .ok (.bipush 28, 2) := by decide +kernel
theorem dX9_tested_76 : decode cX9_tested 76 = .ok (.if_icmp .ne 28, 3) := by decide +kernel
theorem dX9_tested_79 : decode cX9_tested 79 = .ok (.aload_n 0, 1) := by decide +kernel
theorem dX9_tested_80 : decode cX9_tested 80 = .ok (.invokevirtual 74, 3) := by decide +kernel
theorem dX9_tested_83 : decode cX9_tested 83 = .ok (.bipush 29, 2) := by decide +kernel
theorem dX9_tested_85 : decode cX9_tested 85 = .ok (.if_icmp .ne 19, 3) := by decide +kernel
theorem dX9_tested_88 : decode cX9_tested 88 = .ok (.aload_n 0, 1) := by decide +kernel
theorem dX9_tested_89 : decode cX9_tested 89 = .ok (.invokevirtual 158, 3) := by decide +kernel
theorem dX9_tested_92 : decode cX9_tested 92 = .ok (.ifCond .eq 12, 3) := by decide +kernel
theorem dX9_tested_95 : decode cX9_tested 95 = .ok (.aload_n 1, 1) := by decide +kernel
theorem dX9_tested_96 : decode cX9_tested 96 = .ok (.aload_n 0, 1) := by decide +kernel
theorem dX9_tested_97 : decode cX9_tested 97 = .ok (.iload_n 3, 1) := by decide +kernel
theorem dX9_tested_98 : decode cX9_tested 98 = .ok (.invokevirtual 270, 3) := by decide +kernel
theorem dX9_tested_101 : decode cX9_tested 101 = .ok (.putfield 308, 3) := by decide +kernel
theorem dX9_tested_104 : decode cX9_tested 104 = .ok (.aload_n 0, 1) := by decide +kernel
theorem dX9_tested_105 : decode cX9_tested 105 = .ok (.getfield 60, 3) := by decide +kernel
theorem dX9_tested_108 : decode cX9_tested 108 = .ok (.ifCond .ne 7, 3) := by decide +kernel
theorem dX9_tested_111 : decode cX9_tested 111 = .ok (.aload_n 1, 1) := by decide +kernel
theorem dX9_tested_112 : decode cX9_tested 112 = .ok (.goto 4, 3) := by decide +kernel
theorem dX9_tested_115 : decode cX9_tested 115 = .ok (.aconst_null, 1) := by decide +kernel
theorem dX9_tested_116 : decode cX9_tested 116 = .ok (.areturn, 1) := by decide +kernel
theorem dX9_tried_0 : decode cX9_tried 0 = .ok (.aload_n 1, 1) := by decide +kernel
theorem dX9_tried_1 : decode cX9_tried 1 = .ok (.bipush 36, 2) := by decide +kernel
theorem dX9_tried_3 : decode cX9_tried 3 = .ok (.putfield 295, 3) := by decide +kernel
theorem dX9_tried_6 : decode cX9_tried 6 = .ok (.aload_n 1, 1) := by decide +kernel
theorem dX9_tried_7 : decode cX9_tried 7 = .ok (.aload_n 0, 1) := by decide +kernel
theorem dX9_tried_8 : decode cX9_tried 8 = .ok (.iload_n 2, 1) := by decide +kernel
theorem dX9_tried_9 : decode cX9_tried 9 = .ok (.invokevirtual 254, 3) := by decide +kernel
theorem dX9_tried_12 : decode cX9_tried 12 = .ok (.putfield 273, 3) := by decide +kernel
theorem dX9_tried_15 : decode cX9_tried 15 = .ok (.aload_n 0, 1) := by decide +kernel
theorem dX9_tried_16 : decode cX9_tried 16 = .ok (.getfield 60, 3) := by decide +kernel
theorem dX9_tried_19 : decode cX9_tried 19 = .ok (.ifCond .ne 22, 3) := by decide +kernel
theorem dX9_tried_22 : decode cX9_tried 22 = .ok (.aload_n 0, 1) := by decide +kernel
theorem dX9_tried_23 : decode cX9_tried 23 = .ok (.bipush 34, 2) := by decide +kernel
theorem dX9_tried_25 : decode cX9_tried 25 = .ok (.invokevirtual 101, 3) := by decide +kernel
theorem dX9_tried_28 : decode cX9_tried 28 = .ok (.ifCond .eq 13, 3) := by decide +kernel
theorem dX9_tried_31 : decode cX9_tried 31 = .ok (.aload_n 0, 1) := by decide +kernel
theorem dX9_tried_32 : decode cX9_tried 32 = .ok (.sipush 140, 3) := by decide +kernel
theorem dX9_tried_35 : decode cX9_tried 35 = .ok (.invokevirtual 101, 3) := by decide +kernel
theorem dX9_tried_38 : decode cX9_tried 38 = .ok (.ifCond .ne 5, 3) := by decide +kernel
theorem dX9_tried_41 : decode cX9_tried 41 = .ok (.aconst_null, 1) := by decide +kernel
theorem dX9_tried_42 : decode cX9_tried 42 = .ok (.areturn, 1) := by decide +kernel
theorem dX9_tried_43 : decode cX9_tried 43 = .ok (.aload_n 1, 1) := by decide +kernel
theorem dX9_tried_44 : decode cX9_tried 44 = .ok (.aload_n 0, 1) := by decide +kernel
theorem dX9_tried_45 : decode cX9_tried 45 = .ok (.getfield 114, 3) := by decide +kernel
theorem dX9_tried_48 : decode cX9_tried 48 = .ok (.putfield 311, 3) := by decide +kernel
theorem dX9_tried_51 : decode cX9_tried 51 = .ok (.aload_n 1, 1) := by decide +kernel
theorem dX9_tried_52 : decode cX9_tried 52 = .ok (.aload_n 0, 1) := by decide +kernel
theorem dX9_tried_53 : decode cX9_tried 53 = .ok (.getfield 25, 3) := by decide +kernel
theorem dX9_tried_56 : decode cX9_tried 56 = .ok (.aload_n 0, 1) := by decide +kernel
theorem dX9_tried_57 : decode cX9_tried 57 = .ok (.getfield 114, 3) := by decide +kernel
theorem dX9_tried_60 : decode cX9_tried 60 = .ok (.laload, 1) := by decide +kernel
theorem dX9_tried_61 : decode cX9_tried 61 = .ok (.putfield 312, 3) := by decide +kernel
theorem dX9_tried_64 : decode cX9_tried 64 = .ok (.aload_n 0, 1) := by decide +kernel
theorem dX9_tried_65 : decode cX9_tried 65 = .ok (.iconst 2, 1) := by decide +kernel
theorem dX9_tried_66 : decode cX9_tried 66 = .ok (.invokevirtual 101, 3) := by decide +kernel
theorem dX9_tried_69 : decode cX9_tried 69 = .ok (.ifCond .eq 21, 3) := by decide +kernel
theorem dX9_tried_72 : decode cX9_tried 72 = .ok (.aload_n 0, 1) := by decide +kernel
theorem dX9_tried_73 : decode cX9_tried 73 = .ok (.iconst 3, 1) := by decide +kernel
theorem dX9_tried_74 : decode cX9_tried 74 = .ok (.invokevirtual 101, 3) := by decide +kernel
theorem dX9_tried_77 : decode cX9_tried 77 = .ok (.ifCond .eq 13, 3) := by decide +kernel
theorem dX9_tried_80 : decode cX9_tried 80 = .ok (.aload_n 0, 1) := by decide +kernel
theorem dX9_tried_81 : decode cX9_tried 81 = .ok (.sipush 141, 3) := by decide +kernel
theorem dX9_tried_84 : decode cX9_tried 84 = .ok (.invokevirtual 101, 3) := by decide +kernel
theorem dX9_tried_87 : decode cX9_tried 87 = .ok (.ifCond .ne 5, 3) := by decide +kernel
theorem dX9_tried_90 : decode cX9_tried 90 = .ok (.aconst_null, 1) := by decide +kernel
theorem dX9_tried_91 : decode cX9_tried 91 = .ok (.areturn, 1) := by decide +kernel
theorem dX9_tried_92 : decode cX9_tried 92 = .ok (.aload_n 1, 1) := by decide +kernel
theorem dX9_tried_93 : decode cX9_tried 93 = .ok (.aload_n 0, 1) := by decide +kernel
theorem dX9_tried_94 : decode cX9_tried 94 = .ok (.iload_n 2, 1) := by decide +kernel
theorem dX9_tried_95 : decode cX9_tried 95 = .ok (.invokevirtual 254, 3) := by decide +kernel
theorem dX9_tried_98 : decode cX9_tried 98 = .ok (.putfield 296, 3) := by decide +kernel
theorem dX9_tried_101 : decode cX9_tried 101 = .ok (.aload_n 0, 1) := by decide +kernel
theorem dX9_tried_102 : decode cX9_tried 102 = .ok (.getfield 60, 3) := by decide +kernel
theorem dX9_tried_105 : decode cX9_tried 105 = .ok (.ifCond .ne 7, 3) := by decide +kernel
theorem dX9_tried_108 : decode cX9_tried 108 = .ok (.aload_n 1, 1) := by decide +kernel
theorem dX9_tried_109 : decode cX9_tried 109 = .ok (.goto 4, 3) := by decide +kernel
theorem dX9_tried_112 : decode cX9_tried 112 = .ok (.aconst_null, 1) := by decide +kernel
theorem dX9_tried_113 : decode cX9_tried 113 = .ok (.areturn, 1) := by decide +kernel
theorem dX9_beginsE_0 : decode cX9_beginsE 0 = .ok (.iload_n 0, 1) := by decide +kernel
theorem dX9_beginsE_1 : decode cX9_beginsE 1 = .ok (.iconst 4, 1) := by decide +kernel
theorem dX9_beginsE_2 : decode cX9_beginsE 2 = .ok (.if_icmp .eq 44, 3) := by decide +kernel
theorem dX9_beginsE_5 : decode cX9_beginsE 5 = .ok (.iload_n 0, 1) := by decide +kernel
theorem dX9_beginsE_6 : decode cX9_beginsE 6 = .ok (.iconst 3, 1) := by decide +kernel
theorem dX9_beginsE_7 : decode cX9_beginsE 7 = .ok (.if_icmp .eq 39, 3) := by decide +kernel
theorem dX9_beginsE_10 : decode cX9_beginsE 10 = .ok (.iload_n 0, 1) := by decide +kernel
theorem dX9_beginsE_11 : decode cX9_beginsE 11 = .ok (.iconst 2, 1) := by decide +kernel
theorem dX9_beginsE_12 : decode cX9_beginsE 12 = .ok (.if_icmp .eq 34, 3) := by decide +kernel
theorem dX9_beginsE_15 : decode cX9_beginsE 15 = .ok (.iload_n 0, 1) := by decide +kernel
theorem dX9_beginsE_16 : decode cX9_beginsE 16 = .ok (.bipush 36, 2) := by decide +kernel
theorem dX9_beginsE_18 : decode cX9_beginsE 18 = .ok (.if_icmp .eq 28, 3) := by decide +kernel
theorem dX9_beginsE_21 : decode cX9_beginsE 21 = .ok (.iload_n 0, 1) := by decide +kernel
theorem dX9_beginsE_22 : decode cX9_beginsE 22 = .ok (.bipush 37, 2) := by decide +kernel
theorem dX9_beginsE_24 : decode cX9_beginsE 24 = .ok (.if_icmp .eq 22, 3) := by decide +kernel
theorem dX9_beginsE_27 : decode cX9_beginsE 27 = .ok (.iload_n 0, 1) := by decide +kernel
theorem dX9_beginsE_28 : decode cX9_beginsE 28 = .ok (.bipush 38, 2) := by decide +kernel
theorem dX9_beginsE_30 : decode cX9_beginsE 30 = .ok (.if_icmp .eq 16, 3) := by decide +kernel
theorem dX9_beginsE_33 : decode cX9_beginsE 33 = .ok (.iload_n 0, 1) := by decide +kernel
theorem dX9_beginsE_34 : decode cX9_beginsE 34 = .ok (.bipush 25, 2) := by decide +kernel
theorem dX9_beginsE_36 : decode cX9_beginsE 36 = .ok (.if_icmp .eq 10, 3) := by decide +kernel
theorem dX9_beginsE_39 : decode cX9_beginsE 39 = .ok (.iload_n 0, 1) := by decide +kernel
theorem dX9_beginsE_40 : decode cX9_beginsE 40 = .ok (.sipush 140, 3) := by decide +kernel
theorem dX9_beginsE_43 : decode cX9_beginsE 43 = .ok (.if_icmp .ne 7, 3) := by decide +kernel
theorem dX9_beginsE_46 : decode cX9_beginsE 46 = .ok (.iconst 1, 1) := by decide +kernel
theorem dX9_beginsE_47 : decode cX9_beginsE 47 = .ok (.goto 4, 3) := by decide +kernel
theorem dX9_beginsE_50 : decode cX9_beginsE 50 = .ok (.iconst 0, 1) := by decide +kernel
theorem dX9_beginsE_51 : decode cX9_beginsE 51 = .ok (.ireturn, 1) := by decide +kernel
theorem dX9_expr_0 : decode cX9_expr 0 = .ok (.aload_n 0, 1) := by decide +kernel
theorem dX9_expr_1 : decode cX9_expr 1 = .ok (.invokevirtual 74, 3) := by decide +kernel
theorem dX9_expr_4 : decode cX9_expr 4 = .ok (.invokestatic 279, 3) := by decide +kernel
theorem dX9_expr_7 : decode cX9_expr 7 = .ok (.ifCond .ne 10, 3) := by decide +kernel
theorem dX9_expr_10 : decode cX9_expr 10 = .ok (.aload_n 0, 1) := by decide +kernel
theorem dX9_expr_11 : decode cX9_expr 11 = .ok (.invokevirtual 151, 3) := by decide +kernel
theorem dX9_expr_14 : decode cX9_expr 14 = .ok (.pop, 1) := by decide +kernel
theorem dX9_expr_15 : decode cX9_expr 15 = .ok (.aconst_null, 1) := by decide +kernel
theorem dX9_expr_16 : decode cX9_expr 16 = .ok (.areturn, 1) := by decide +kernel
theorem dX9_expr_17 : decode cX9_expr 17 = .ok (.iload_n 1, 1) := by decide +kernel
theorem dX9_expr_18 : decode cX9_expr 18 = .ok (.bipush 12, 2) := by decide +kernel
theorem dX9_expr_20 : decode cX9_expr 20 = .ok (.if_icmp .lt 11, 3) := by decide +kernel
theorem dX9_expr_23 : decode cX9_expr 23 = .ok (.aload_n 0, 1) := by decide +kernel
theorem dX9_expr_24 : decode cX9_expr 24 = .ok (.iconst 3, 1) := by decide +kernel
theorem dX9_expr_25 : decode cX9_expr 25 = .ok (.invokevirtual 148, 3) := by decide +kernel
theorem dX9_expr_28 : decode cX9_expr 28 = .ok (.pop, 1) := by decide +kernel
theorem dX9_expr_29 : decode cX9_expr 29 = .ok (.aconst_null, 1) := by decide +kernel
theorem dX9_expr_30 : decode cX9_expr 30 = .ok (.areturn, 1) := by decide +kernel
theorem dX9_expr_31 : decode cX9_expr 31 = .ok (.aload_n 0, 1) := by decide +kernel
theorem dX9_expr_32 : decode cX9_expr 32 = .ok (.iload_n 1, 1) := by decide +kernel
theorem dX9_expr_33 : decode cX9_expr 33 = .ok (.iconst 1, 1) := by decide +kernel
theorem dX9_expr_34 : decode cX9_expr 34 = .ok (.iadd, 1) := by decide +kernel
theorem dX9_expr_35 : decode cX9_expr 35 = .ok (.iconst 1, 1) := by decide +kernel
theorem dX9_expr_36 : decode cX9_expr 36 = .ok (.invokevirtual 315, 3) := by decide +kernel
theorem dX9_expr_39 : decode cX9_expr 39 = .ok (.astore_n 2, 1) := by decide +kernel
theorem dX9_expr_40 : decode cX9_expr 40 = .ok (.aload_n 2, 1) := by decide +kernel
theorem dX9_expr_41 : decode cX9_expr 41 = .ok (.ifnull 22, 3) := by decide +kernel
theorem dX9_expr_44 : decode cX9_expr 44 = .ok (.aload_n 0, 1) := by decide +kernel
theorem dX9_expr_45 : decode cX9_expr 45 = .ok (.invokevirtual 74, 3) := by decide +kernel
theorem dX9_expr_48 : decode cX9_expr 48 = .ok (.sipush 160, 3) := by decide +kernel
theorem dX9_expr_51 : decode cX9_expr 51 = .ok (.if_icmp .eq 14, 3) := by decide +kernel
theorem dX9_expr_54 : decode cX9_expr 54 = .ok (.aload_n 0, 1) := by decide +kernel
theorem dX9_expr_55 : decode cX9_expr 55 = .ok (.invokevirtual 74, 3) := by decide +kernel
theorem dX9_expr_58 : decode cX9_expr 58 = .ok (.bipush 99, 2) := by decide +kernel
theorem dX9_expr_60 : decode cX9_expr 60 = .ok (.if_icmp .eq 5, 3) := by decide +kernel
theorem dX9_expr_63 : decode cX9_expr 63 = .ok (.aload_n 2, 1) := by decide +kernel
theorem dX9_expr_64 : decode cX9_expr 64 = .ok (.areturn, 1) := by decide +kernel
theorem dX9_expr_65 : decode cX9_expr 65 = .ok (.aload_n 0, 1) := by decide +kernel
theorem dX9_expr_66 : decode cX9_expr 66 = .ok (.bipush 18, 2) := by decide +kernel
theorem dX9_expr_68 : decode cX9_expr 68 = .ok (.aload_n 2, 1) := by decide +kernel
theorem dX9_expr_69 : decode cX9_expr 69 = .ok (.getfield 319, 3) := by decide +kernel
theorem dX9_expr_72 : decode cX9_expr 72 = .ok (.invokevirtual 266, 3) := by decide +kernel
theorem dX9_expr_75 : decode cX9_expr 75 = .ok (.astore_n 3, 1) := by decide +kernel
theorem dX9_expr_76 : decode cX9_expr 76 = .ok (.aload_n 3, 1) := by decide +kernel
theorem dX9_expr_77 : decode cX9_expr 77 = .ok (.aload_n 0, 1) := by decide +kernel
theorem dX9_expr_78 : decode cX9_expr 78 = .ok (.invokevirtual 74, 3) := by decide +kernel
theorem dX9_expr_81 : decode cX9_expr 81 = .ok (.putfield 322, 3) := by decide +kernel
theorem dX9_expr_84 : decode cX9_expr 84 = .ok (.aload_n 3, 1) := by decide +kernel
theorem dX9_expr_85 : decode cX9_expr 85 = .ok (.aload_n 2, 1) := by decide +kernel
theorem dX9_expr_86 : decode cX9_expr 86 = .ok (.putfield 273, 3) := by decide +kernel
theorem dX9_expr_89 : decode cX9_expr 89 = .ok (.aload_n 3, 1) := by decide +kernel
theorem dX9_expr_90 : decode cX9_expr 90 = .ok (.aload_n 0, 1) := by decide +kernel
theorem dX9_expr_91 : decode cX9_expr 91 = .ok (.invokevirtual 158, 3) := by decide +kernel
theorem dX9_expr_94 : decode cX9_expr 94 = .ok (.ifCond .eq 14, 3) := by decide +kernel
theorem dX9_expr_97 : decode cX9_expr 97 = .ok (.aload_n 0, 1) := by decide +kernel
theorem dX9_expr_98 : decode cX9_expr 98 = .ok (.iload_n 1, 1) := by decide +kernel
theorem dX9_expr_99 : decode cX9_expr 99 = .ok (.iconst 1, 1) := by decide +kernel
theorem dX9_expr_100 : decode cX9_expr 100 = .ok (.iadd, 1) := by decide +kernel
theorem dX9_expr_101 : decode cX9_expr 101 = .ok (.iconst 1, 1) := by decide +kernel
theorem dX9_expr_102 : decode cX9_expr 102 = .ok (.invokevirtual 315, 3) := by decide +kernel
theorem dX9_expr_105 : decode cX9_expr 105 = .ok (.goto 4, 3) := by decide +kernel
theorem dX9_expr_108 : decode cX9_expr 108 = .ok (.aconst_null, 1) := by decide +kernel
theorem dX9_expr_109 : decode cX9_expr 109 = .ok (.putfield 296, 3) := by decide +kernel
theorem dX9_expr_112 : decode cX9_expr 112 = .ok (.aload_n 3, 1) := by decide +kernel
theorem dX9_expr_113 : decode cX9_expr 113 = .ok (.getfield 296, 3) := by decide +kernel
theorem dX9_expr_116 : decode cX9_expr 116 = .ok (.ifnonnull 7, 3) := by decide +kernel
theorem dX9_expr_119 : decode cX9_expr 119 = .ok (.aconst_null, 1) := by decide +kernel
theorem dX9_expr_120 : decode cX9_expr 120 = .ok (.goto 4, 3) := by decide +kernel
theorem dX9_expr_123 : decode cX9_expr 123 = .ok (.aload_n 3, 1) := by decide +kernel
theorem dX9_expr_124 : decode cX9_expr 124 = .ok (.areturn, 1) := by decide +kernel
theorem dX9_chain_0 : decode cX9_chain 0 = .ok (.iload_n 2, 1) := by decide +kernel
theorem dX9_chain_1 : decode cX9_chain 1 = .ok (.ifCond .eq 12, 3) := by decide +kernel
theorem dX9_chain_4 : decode cX9_chain 4 = .ok (.aload_n 0, 1) := by decide +kernel
theorem dX9_chain_5 : decode cX9_chain 5 = .ok (.iload_n 1, 1) := by decide +kernel
theorem dX9_chain_6 : decode cX9_chain 6 = .ok (.iconst 0, 1) := by decide +kernel
theorem dX9_chain_7 : decode cX9_chain 7 = .ok (.invokevirtual 315, 3) := by decide +kernel
theorem dX9_chain_10 : decode cX9_chain 10 = .ok (.goto 8, 3) := by decide +kernel
theorem dX9_chain_13 : decode cX9_chain 13 = .ok (.aload_n 0, 1) := by decide +kernel
theorem dX9_chain_14 : decode cX9_chain 14 = .ok (.iload_n 1, 1) := by decide +kernel
theorem dX9_chain_15 : decode cX9_chain 15 = .ok (.invokevirtual 325, 3) := by decide +kernel
theorem dX9_chain_18 : decode cX9_chain 18 = .ok (.astore_n 3, 1) := by decide +kernel
theorem dX9_chain_19 : decode cX9_chain 19 = .ok (.aload_n 3, 1) := by decide +kernel
theorem dX9_chain_20 : decode cX9_chain 20 = .ok (.astore 4, 2) := by decide +kernel
theorem dX9_chain_22 : decode cX9_chain 22 = .ok (.iconst 0, 1) := by decide +kernel
theorem dX9_chain_23 : decode cX9_chain 23 = .ok (.istore 5, 2) := by decide +kernel
theorem dX9_chain_25 : decode cX9_chain 25 = .ok (.iload 5, 2) := by decide +kernel
theorem dX9_chain_27 : decode cX9_chain 27 = .ok (.sipush 700, 3) := by decide +kernel
theorem dX9_chain_30 : decode cX9_chain 30 = .ok (.if_icmp .ge 106, 3) := by decide +kernel
theorem dX9_chain_33 : decode cX9_chain 33 = .ok (.aload_n 3, 1) := by decide +kernel
theorem dX9_chain_34 : decode cX9_chain 34 = .ok (.ifnull 102, 3) := by decide +kernel
theorem dX9_chain_37 : decode cX9_chain 37 = .ok (.aload_n 0, 1) := by decide +kernel
theorem dX9_chain_38 : decode cX9_chain 38 = .ok (.invokevirtual 74, 3) := by decide +kernel
theorem dX9_chain_41 : decode cX9_chain 41 = .ok (.iload_n 2, 1) := by decide +kernel
theorem dX9_chain_42 : decode cX9_chain 42 = .ok (.invokestatic 328, 3) := by decide +kernel
theorem dX9_chain_45 : decode cX9_chain 45 = .ok (.ifCond .eq 91, 3) := by decide +kernel
theorem dX9_chain_48 : decode cX9_chain 48 = .ok (.aload 4, 2) := by decide +kernel
theorem dX9_chain_50 : decode cX9_chain 50 = .ok (.aload_n 3, 1) := by decide +kernel
theorem dX9_chain_51 : decode cX9_chain 51 = .ok (.if_acmp .ne 21, 3) := by decide +kernel
theorem dX9_chain_54 : decode cX9_chain 54 = .ok (.aload_n 0, 1) := by decide +kernel
theorem dX9_chain_55 : decode cX9_chain 55 = .ok (.bipush 17, 2) := by decide +kernel
theorem dX9_chain_57 : decode cX9_chain 57 = .ok (.aload_n 3, 1) := by decide +kernel
theorem dX9_chain_58 : decode cX9_chain 58 = .ok (.getfield 319, 3) := by decide +kernel
theorem dX9_chain_61 : decode cX9_chain 61 = .ok (.invokevirtual 266, 3) := by decide +kernel
theorem dX9_chain_64 : decode cX9_chain 64 = .ok (.astore 4, 2) := by decide +kernel
theorem dX9_chain_66 : decode cX9_chain 66 = .ok (.aload 4, 2) := by decide +kernel
theorem dX9_chain_68 : decode cX9_chain 68 = .ok (.aload_n 3, 1) := by decide +kernel
theorem dX9_chain_69 : decode cX9_chain 69 = .ok (.putfield 273, 3) := by decide +kernel
theorem dX9_chain_72 : decode cX9_chain 72 = .ok (.aload_n 0, 1) := by decide +kernel
theorem dX9_chain_73 : decode cX9_chain 73 = .ok (.invokevirtual 74, 3) := by decide +kernel
theorem dX9_chain_76 : decode cX9_chain 76 = .ok (.istore 6, 2) := by decide +kernel
theorem dX9_chain_78 : decode cX9_chain 78 = .ok (.aload_n 0, 1) := by decide +kernel
theorem dX9_chain_79 : decode cX9_chain 79 = .ok (.invokevirtual 158, 3) := by decide +kernel
theorem dX9_chain_82 : decode cX9_chain 82 = .ok (.ifCond .ne 7, 3) := by decide +kernel
theorem dX9_chain_85 : decode cX9_chain 85 = .ok (.aconst_null, 1) := by decide +kernel
theorem dX9_chain_86 : decode cX9_chain 86 = .ok (.goto 21, 3) := by decide +kernel
theorem dX9_chain_89 : decode cX9_chain 89 = .ok (.iload_n 2, 1) := by decide +kernel
theorem dX9_chain_90 : decode cX9_chain 90 = .ok (.ifCond .eq 12, 3) := by decide +kernel
theorem dX9_chain_93 : decode cX9_chain 93 = .ok (.aload_n 0, 1) := by decide +kernel
theorem dX9_chain_94 : decode cX9_chain 94 = .ok (.iload_n 1, 1) := by decide +kernel
theorem dX9_chain_95 : decode cX9_chain 95 = .ok (.iconst 0, 1) := by decide +kernel
theorem dX9_chain_96 : decode cX9_chain 96 = .ok (.invokevirtual 315, 3) := by decide +kernel
theorem dX9_chain_99 : decode cX9_chain 99 = .ok (.goto 8, 3) := by decide +kernel
theorem dX9_chain_102 : decode cX9_chain 102 = .ok (.aload_n 0, 1) := by decide +kernel
theorem dX9_chain_103 : decode cX9_chain 103 = .ok (.iload_n 1, 1) := by decide +kernel
theorem dX9_chain_104 : decode cX9_chain 104 = .ok (.invokevirtual 325, 3) := by decide +kernel
theorem dX9_chain_107 : decode cX9_chain 107 = .ok (.astore 7, 2) := by decide +kernel
theorem dX9_chain_109 : decode cX9_chain 109 = .ok (.aload 7, 2) := by decide +kernel
theorem dX9_chain_111 : decode cX9_chain 111 = .ok (.ifnull 10, 3) := by decide +kernel
theorem dX9_chain_114 : decode cX9_chain 114 = .ok (.aload 7, 2) := by decide +kernel
theorem dX9_chain_116 : decode cX9_chain 116 = .ok (.iload 6, 2) := by decide +kernel
theorem dX9_chain_118 : decode cX9_chain 118 = .ok (.putfield 322, 3) := by decide +kernel
theorem dX9_chain_121 : decode cX9_chain 121 = .ok (.aload_n 3, 1) := by decide +kernel
theorem dX9_chain_122 : decode cX9_chain 122 = .ok (.aload 7, 2) := by decide +kernel
theorem dX9_chain_124 : decode cX9_chain 124 = .ok (.putfield 276, 3) := by decide +kernel
theorem dX9_chain_127 : decode cX9_chain 127 = .ok (.aload 7, 2) := by decide +kernel
theorem dX9_chain_129 : decode cX9_chain 129 = .ok (.astore_n 3, 1) := by decide +kernel
theorem dX9_chain_130 : decode cX9_chain 130 = .ok (.iinc 5 1, 3) := by decide +kernel
theorem dX9_chain_133 : decode cX9_chain 133 = .ok (.goto (-108), 3) := by decide +kernel
theorem dX9_chain_136 : decode cX9_chain 136 = .ok (.aload_n 3, 1) := by decide +kernel
theorem dX9_chain_137 : decode cX9_chain 137 = .ok (.ifnonnull 7, 3) := by decide +kernel
theorem dX9_chain_140 : decode cX9_chain 140 = .ok (.aconst_null, 1) := by decide +kernel
theorem dX9_chain_141 : decode cX9_chain 141 = .ok (.goto 5, 3) := by decide +kernel
theorem dX9_chain_144 : decode cX9_chain 144 = .ok (.aload 4, 2) := by decide +kernel
theorem dX9_chain_146 : decode cX9_chain 146 = .ok (.areturn, 1) := by decide +kernel
theorem dX9_isChained_0 : decode cX9_isChained 0 = .ok (.iload_n 1, 1) := by decide +kernel
theorem dX9_isChained_1 : decode cX9_isChained 1 = .ok (.ifCond .eq 25, 3) := by decide +kernel
theorem dX9_isChained_4 : decode cX9_isChained 4 = .ok (.iload_n 0, 1) := by decide +kernel
theorem dX9_isChained_5 : decode cX9_isChained 5 = .ok (.sipush 143, 3) := by decide +kernel
theorem dX9_isChained_8 : decode cX9_isChained 8 = .ok (.if_icmp .eq 10, 3) := by decide +kernel
theorem dX9_isChained_11 : decode cX9_isChained 11 = .ok (.iload_n 0, 1) := by decide +kernel
theorem dX9_isChained_12 : decode cX9_isChained 12 = .ok (.sipush 145, 3) := by decide +kernel
theorem dX9_isChained_15 : decode cX9_isChained 15 = .ok (.if_icmp .ne 7, 3) := by decide +kernel
theorem dX9_isChained_18 : decode cX9_isChained 18 = .ok (.iconst 1, 1) := by decide +kernel
theorem dX9_isChained_19 : decode cX9_isChained 19 = .ok (.goto 19, 3) := by decide +kernel
theorem dX9_isChained_22 : decode cX9_isChained 22 = .ok (.iconst 0, 1) := by decide +kernel
theorem dX9_isChained_23 : decode cX9_isChained 23 = .ok (.goto 15, 3) := by decide +kernel
theorem dX9_isChained_26 : decode cX9_isChained 26 = .ok (.iload_n 0, 1) := by decide +kernel
theorem dX9_isChained_27 : decode cX9_isChained 27 = .ok (.sipush 142, 3) := by decide +kernel
theorem dX9_isChained_30 : decode cX9_isChained 30 = .ok (.if_icmp .ne 7, 3) := by decide +kernel
theorem dX9_isChained_33 : decode cX9_isChained 33 = .ok (.iconst 1, 1) := by decide +kernel
theorem dX9_isChained_34 : decode cX9_isChained 34 = .ok (.goto 4, 3) := by decide +kernel
theorem dX9_isChained_37 : decode cX9_isChained 37 = .ok (.iconst 0, 1) := by decide +kernel
theorem dX9_isChained_38 : decode cX9_isChained 38 = .ok (.ireturn, 1) := by decide +kernel
theorem dX9_unit_0 : decode cX9_unit 0 = .ok (.aload_n 0, 1) := by decide +kernel
theorem dX9_unit_1 : decode cX9_unit 1 = .ok (.iload_n 1, 1) := by decide +kernel
theorem dX9_unit_2 : decode cX9_unit 2 = .ok (.invokevirtual 332, 3) := by decide +kernel
theorem dX9_unit_5 : decode cX9_unit 5 = .ok (.astore_n 2, 1) := by decide +kernel
theorem dX9_unit_6 : decode cX9_unit 6 = .ok (.aload_n 2, 1) := by decide +kernel
theorem dX9_unit_7 : decode cX9_unit 7 = .ok (.astore_n 3, 1) := by decide +kernel
theorem dX9_unit_8 : decode cX9_unit 8 = .ok (.aconst_null, 1) := by decide +kernel
theorem dX9_unit_9 : decode cX9_unit 9 = .ok (.astore 4, 2) := by decide +kernel
theorem dX9_unit_11 : decode cX9_unit 11 = .ok (.iconst 0, 1) := by decide +kernel
theorem dX9_unit_12 : decode cX9_unit 12 = .ok (.istore 5, 2) := by decide +kernel
theorem dX9_unit_14 : decode cX9_unit 14 = .ok (.iload 5, 2) := by decide +kernel
theorem dX9_unit_16 : decode cX9_unit 16 = .ok (.sipush 700, 3) := by decide +kernel
theorem dX9_unit_19 : decode cX9_unit 19 = .ok (.if_icmp .ge 94, 3) := by decide +kernel
theorem dX9_unit_22 : decode cX9_unit 22 = .ok (.aload_n 0, 1) := by decide +kernel
theorem dX9_unit_23 : decode cX9_unit 23 = .ok (.getfield 60, 3) := by decide +kernel
theorem dX9_unit_26 : decode cX9_unit 26 = .ok (.ifCond .ne 87, 3) := by decide +kernel
theorem dX9_unit_29 : decode cX9_unit 29 = .ok (.aload_n 0, 1) := by decide +kernel
theorem dX9_unit_30 : decode cX9_unit 30 = .ok (.invokevirtual 74, 3) := by decide +kernel
theorem dX9_unit_33 : decode cX9_unit 33 = .ok (.sipush 146, 3) := by decide +kernel
theorem dX9_unit_36 : decode cX9_unit 36 = .ok (.if_icmp .eq 12, 3) := by decide +kernel
theorem dX9_unit_39 : decode cX9_unit 39 = .ok (.aload_n 0, 1) := by decide +kernel
theorem dX9_unit_40 : decode cX9_unit 40 = .ok (.invokevirtual 74, 3) := by decide +kernel
theorem dX9_unit_43 : decode cX9_unit 43 = .ok (.bipush 39, 2) := by decide +kernel
theorem dX9_unit_45 : decode cX9_unit 45 = .ok (.if_icmp .ne 68, 3) := by decide +kernel
theorem dX9_unit_48 : decode cX9_unit 48 = .ok (.aload_n 0, 1) := by decide +kernel
theorem dX9_unit_49 : decode cX9_unit 49 = .ok (.iload_n 1, 1) := by decide +kernel
theorem dX9_unit_50 : decode cX9_unit 50 = .ok (.invokevirtual 335, 3) := by decide +kernel
theorem dX9_unit_53 : decode cX9_unit 53 = .ok (.astore 6, 2) := by decide +kernel
theorem dX9_unit_55 : decode cX9_unit 55 = .ok (.aload 4, 2) := by decide +kernel
theorem dX9_unit_57 : decode cX9_unit 57 = .ok (.ifnonnull 39, 3) := by decide +kernel
theorem dX9_unit_60 : decode cX9_unit 60 = .ok (.aload_n 0, 1) := by decide +kernel
theorem dX9_unit_61 : decode cX9_unit 61 = .ok (.bipush 13, 2) := by decide +kernel
theorem dX9_unit_63 : decode cX9_unit 63 = .ok (.aload_n 2, 1) := by decide +kernel
theorem dX9_unit_64 : decode cX9_unit 64 = .ok (.ifnonnull 10, 3) := by decide +kernel
theorem dX9_unit_67 : decode cX9_unit 67 = .ok (.aload_n 0, 1) := by decide +kernel
theorem dX9_unit_68 : decode cX9_unit 68 = .ok (.getfield 114, 3) := by decide +kernel
theorem dX9_unit_71 : decode cX9_unit 71 = .ok (.goto 7, 3) := by decide +kernel
theorem dX9_unit_74 : decode cX9_unit 74 = .ok (.aload_n 2, 1) := by decide +kernel
theorem dX9_unit_75 : decode cX9_unit 75 = .ok (.getfield 319, 3) := by decide +kernel
theorem dX9_unit_78 : decode cX9_unit 78 = .ok (.invokevirtual 266, 3) := by decide +kernel
theorem dX9_unit_81 : decode cX9_unit 81 = .ok (.astore_n 3, 1) := by decide +kernel
theorem dX9_unit_82 : decode cX9_unit 82 = .ok (.aload_n 3, 1) := by decide +kernel
theorem dX9_unit_83 : decode cX9_unit 83 = .ok (.aload_n 2, 1) := by decide +kernel
theorem dX9_unit_84 : decode cX9_unit 84 = .ok (.putfield 273, 3) := by decide +kernel
theorem dX9_unit_87 : decode cX9_unit 87 = .ok (.aload_n 3, 1) := by decide +kernel
theorem dX9_unit_88 : decode cX9_unit 88 = .ok (.aload 6, 2) := by decide +kernel
theorem dX9_unit_90 : decode cX9_unit 90 = .ok (.putfield 296, 3) := by decide +kernel
theorem dX9_unit_93 : decode cX9_unit 93 = .ok (.goto 10, 3) := by decide +kernel
theorem dX9_unit_96 : decode cX9_unit 96 = .ok (.aload 4, 2) := by decide +kernel
theorem dX9_unit_98 : decode cX9_unit 98 = .ok (.aload 6, 2) := by decide +kernel
theorem dX9_unit_100 : decode cX9_unit 100 = .ok (.putfield 276, 3) := by decide +kernel
theorem dX9_unit_103 : decode cX9_unit 103 = .ok (.aload 6, 2) := by decide +kernel
theorem dX9_unit_105 : decode cX9_unit 105 = .ok (.astore 4, 2) := by decide +kernel
theorem dX9_unit_107 : decode cX9_unit 107 = .ok (.iinc 5 1, 3) := by decide +kernel
theorem dX9_unit_110 : decode cX9_unit 110 = .ok (.goto (-96), 3) := by decide +kernel
theorem dX9_unit_113 : decode cX9_unit 113 = .ok (.aload_n 0, 1) := by decide +kernel
theorem dX9_unit_114 : decode cX9_unit 114 = .ok (.getfield 60, 3) := by decide +kernel
theorem dX9_unit_117 : decode cX9_unit 117 = .ok (.ifCond .ne 7, 3) := by decide +kernel
theorem dX9_unit_120 : decode cX9_unit 120 = .ok (.aload_n 3, 1) := by decide +kernel
theorem dX9_unit_121 : decode cX9_unit 121 = .ok (.goto 4, 3) := by decide +kernel
theorem dX9_unit_124 : decode cX9_unit 124 = .ok (.aconst_null, 1) := by decide +kernel
theorem dX9_unit_125 : decode cX9_unit 125 = .ok (.areturn, 1) := by decide +kernel
theorem dX9_behindUnit_0 : decode cX9_behindUnit 0 = .ok (.aload_n 0, 1) := by decide +kernel
theorem dX9_behindUnit_1 : decode cX9_behindUnit 1 = .ok (.invokevirtual 74, 3) := by decide +kernel
theorem dX9_behindUnit_4 : decode cX9_behindUnit 4 = .ok (.bipush 39, 2) := by decide +kernel
theorem dX9_behindUnit_6 : decode cX9_behindUnit 6 = .ok (.if_icmp .ne 7, 3) := by decide +kernel
theorem dX9_behindUnit_9 : decode cX9_behindUnit 9 = .ok (.iconst 1, 1) := by decide +kernel
theorem dX9_behindUnit_10 : decode cX9_behindUnit 10 = .ok (.goto 4, 3) := by decide +kernel
theorem dX9_behindUnit_13 : decode cX9_behindUnit 13 = .ok (.iconst 0, 1) := by decide +kernel
theorem dX9_behindUnit_14 : decode cX9_behindUnit 14 = .ok (.istore_n 2, 1) := by decide +kernel
theorem dX9_behindUnit_15 : decode cX9_behindUnit 15 = .ok (.aload_n 0, 1) := by decide +kernel
theorem dX9_behindUnit_16 : decode cX9_behindUnit 16 = .ok (.invokevirtual 158, 3) := by decide +kernel
theorem dX9_behindUnit_19 : decode cX9_behindUnit 19 = .ok (.ifCond .ne 5, 3) := by decide +kernel
theorem dX9_behindUnit_22 : decode cX9_behindUnit 22 = .ok (.aconst_null, 1) := by decide +kernel
theorem dX9_behindUnit_23 : decode cX9_behindUnit 23 = .ok (.areturn, 1) := by decide +kernel
theorem dX9_behindUnit_24 : decode cX9_behindUnit 24 = .ok (.aload_n 0, 1) := by decide +kernel
theorem dX9_behindUnit_25 : decode cX9_behindUnit 25 = .ok (.iload_n 2, 1) := by decide +kernel
theorem dX9_behindUnit_26 : decode cX9_behindUnit 26 = .ok (.ifCond .eq 8, 3) := by decide +kernel
theorem dX9_behindUnit_29 : decode cX9_behindUnit 29 = .ok (.bipush 16, 2) := by decide +kernel
theorem dX9_behindUnit_31 : decode cX9_behindUnit 31 = .ok (.goto 5, 3) := by decide +kernel
theorem dX9_behindUnit_34 : decode cX9_behindUnit 34 = .ok (.bipush 14, 2) := by decide +kernel
theorem dX9_behindUnit_36 : decode cX9_behindUnit 36 = .ok (.aload_n 0, 1) := by decide +kernel
theorem dX9_behindUnit_37 : decode cX9_behindUnit 37 = .ok (.getfield 114, 3) := by decide +kernel
theorem dX9_behindUnit_40 : decode cX9_behindUnit 40 = .ok (.invokevirtual 266, 3) := by decide +kernel
theorem dX9_behindUnit_43 : decode cX9_behindUnit 43 = .ok (.astore_n 3, 1) := by decide +kernel
theorem dX9_behindUnit_44 : decode cX9_behindUnit 44 = .ok (.aload_n 3, 1) := by decide +kernel
theorem dX9_behindUnit_45 : decode cX9_behindUnit 45 = .ok (.aload_n 0, 1) := by decide +kernel
theorem dX9_behindUnit_46 : decode cX9_behindUnit 46 = .ok (.getfield 25, 3) := by decide +kernel
theorem dX9_behindUnit_49 : decode cX9_behindUnit 49 = .ok (.aload_n 0, 1) := by decide +kernel
theorem dX9_behindUnit_50 : decode cX9_behindUnit 50 = .ok (.getfield 114, 3) := by decide +kernel
theorem dX9_behindUnit_53 : decode cX9_behindUnit 53 = .ok (.laload, 1) := by decide +kernel
theorem dX9_behindUnit_54 : decode cX9_behindUnit 54 = .ok (.putfield 312, 3) := by decide +kernel
theorem dX9_behindUnit_57 : decode cX9_behindUnit 57 = .ok (.aload_n 0, 1) := by decide +kernel
theorem dX9_behindUnit_58 : decode cX9_behindUnit 58 = .ok (.iload_n 2, 1) := by decide +kernel
theorem dX9_behindUnit_59 : decode cX9_behindUnit 59 = .ok (.ifCond .eq 7, 3) := by decide +kernel
theorem dX9_behindUnit_62 : decode cX9_behindUnit 62 = .ok (.iconst 2, 1) := by decide +kernel
theorem dX9_behindUnit_63 : decode cX9_behindUnit 63 = .ok (.goto 4, 3) := by decide +kernel
theorem dX9_behindUnit_66 : decode cX9_behindUnit 66 = .ok (.iconst 3, 1) := by decide +kernel
theorem dX9_behindUnit_67 : decode cX9_behindUnit 67 = .ok (.invokevirtual 101, 3) := by decide +kernel
theorem dX9_behindUnit_70 : decode cX9_behindUnit 70 = .ok (.ifCond .ne 5, 3) := by decide +kernel
theorem dX9_behindUnit_73 : decode cX9_behindUnit 73 = .ok (.aconst_null, 1) := by decide +kernel
theorem dX9_behindUnit_74 : decode cX9_behindUnit 74 = .ok (.areturn, 1) := by decide +kernel
theorem dX9_behindUnit_75 : decode cX9_behindUnit 75 = .ok (.iload_n 2, 1) := by decide +kernel
theorem dX9_behindUnit_76 : decode cX9_behindUnit 76 = .ok (.ifCond .ne 34, 3) := by decide +kernel
theorem dX9_behindUnit_79 : decode cX9_behindUnit 79 = .ok (.aload_n 0, 1) := by decide +kernel
theorem dX9_behindUnit_80 : decode cX9_behindUnit 80 = .ok (.invokevirtual 74, 3) := by decide +kernel
theorem dX9_behindUnit_83 : decode cX9_behindUnit 83 = .ok (.sipush 140, 3) := by decide +kernel
theorem dX9_behindUnit_86 : decode cX9_behindUnit 86 = .ok (.if_icmp .ne 24, 3) := by decide +kernel
theorem dX9_behindUnit_89 : decode cX9_behindUnit 89 = .ok (.aload_n 3, 1) := by decide +kernel
theorem dX9_behindUnit_90 : decode cX9_behindUnit 90 = .ok (.bipush 15, 2) := by decide +kernel
theorem dX9_behindUnit_92 : decode cX9_behindUnit 92 = .ok (.putfield 295, 3) := by decide +kernel
theorem dX9_behindUnit_95 : decode cX9_behindUnit 95 = .ok (.aload_n 0, 1) := by decide +kernel
theorem dX9_behindUnit_96 : decode cX9_behindUnit 96 = .ok (.aload_n 3, 1) := by decide +kernel
theorem dX9_behindUnit_97 : decode cX9_behindUnit 97 = .ok (.iload_n 1, 1) := by decide +kernel
theorem dX9_behindUnit_98 : decode cX9_behindUnit 98 = .ok (.invokevirtual 285, 3) := by decide +kernel
theorem dX9_behindUnit_101 : decode cX9_behindUnit 101 = .ok (.ifCond .eq 7, 3) := by decide +kernel
theorem dX9_behindUnit_104 : decode cX9_behindUnit 104 = .ok (.aload_n 3, 1) := by decide +kernel
theorem dX9_behindUnit_105 : decode cX9_behindUnit 105 = .ok (.goto 4, 3) := by decide +kernel
theorem dX9_behindUnit_108 : decode cX9_behindUnit 108 = .ok (.aconst_null, 1) := by decide +kernel
theorem dX9_behindUnit_109 : decode cX9_behindUnit 109 = .ok (.areturn, 1) := by decide +kernel
theorem dX9_behindUnit_110 : decode cX9_behindUnit 110 = .ok (.aload_n 3, 1) := by decide +kernel
theorem dX9_behindUnit_111 : decode cX9_behindUnit 111 = .ok (.areturn, 1) := by decide +kernel
theorem dX9_front_0 : decode cX9_front 0 = .ok (.aload_n 0, 1) := by decide +kernel
theorem dX9_front_1 : decode cX9_front 1 = .ok (.invokevirtual 74, 3) := by decide +kernel
theorem dX9_front_4 : decode cX9_front 4 = .ok (.istore_n 2, 1) := by decide +kernel
theorem dX9_front_5 : decode cX9_front 5 = .ok (.iload_n 2, 1) := by decide +kernel
theorem dX9_front_6 : decode cX9_front 6 = .ok (.invokestatic 279, 3) := by decide +kernel
theorem dX9_front_9 : decode cX9_front 9 = .ok (.ifCond .ne 10, 3) := by decide +kernel
theorem dX9_front_12 : decode cX9_front 12 = .ok (.aload_n 0, 1) := by decide +kernel
theorem dX9_front_13 : decode cX9_front 13 = .ok (.invokevirtual 151, 3) := by decide +kernel
theorem dX9_front_16 : decode cX9_front 16 = .ok (.pop, 1) := by decide +kernel
theorem dX9_front_17 : decode cX9_front 17 = .ok (.aconst_null, 1) := by decide +kernel
theorem dX9_front_18 : decode cX9_front 18 = .ok (.areturn, 1) := by decide +kernel
theorem dX9_front_19 : decode cX9_front 19 = .ok (.aload_n 0, 1) := by decide +kernel
theorem dX9_front_20 : decode cX9_front 20 = .ok (.iconst 1, 1) := by decide +kernel
theorem dX9_front_21 : decode cX9_front 21 = .ok (.aload_n 0, 1) := by decide +kernel
theorem dX9_front_22 : decode cX9_front 22 = .ok (.getfield 114, 3) := by decide +kernel
theorem dX9_front_25 : decode cX9_front 25 = .ok (.invokevirtual 266, 3) := by decide +kernel
theorem dX9_front_28 : decode cX9_front 28 = .ok (.astore_n 3, 1) := by decide +kernel
theorem dX9_front_29 : decode cX9_front 29 = .ok (.aload_n 3, 1) := by decide +kernel
theorem dX9_front_30 : decode cX9_front 30 = .ok (.aload_n 0, 1) := by decide +kernel
theorem dX9_front_31 : decode cX9_front 31 = .ok (.getfield 25, 3) := by decide +kernel
theorem dX9_front_34 : decode cX9_front 34 = .ok (.aload_n 0, 1) := by decide +kernel
theorem dX9_front_35 : decode cX9_front 35 = .ok (.getfield 114, 3) := by decide +kernel
theorem dX9_front_38 : decode cX9_front 38 = .ok (.laload, 1) := by decide +kernel
theorem dX9_front_39 : decode cX9_front 39 = .ok (.putfield 312, 3) := by decide +kernel
theorem dX9_front_42 : decode cX9_front 42 = .ok (.aload_n 0, 1) := by decide +kernel
theorem dX9_front_43 : decode cX9_front 43 = .ok (.invokevirtual 158, 3) := by decide +kernel
theorem dX9_front_46 : decode cX9_front 46 = .ok (.ifCond .ne 5, 3) := by decide +kernel
theorem dX9_front_49 : decode cX9_front 49 = .ok (.aconst_null, 1) := by decide +kernel
theorem dX9_front_50 : decode cX9_front 50 = .ok (.areturn, 1) := by decide +kernel
theorem dX9_front_51 : decode cX9_front 51 = .ok (.iload_n 2, 1) := by decide +kernel
theorem dX9_front_52 : decode cX9_front 52 = .ok (.lookupswitch 204 #[(2, 126), (3, 84), (4, 68), (25, 154), (36, 70), (37, 77), (38, 133)], 68) := by decide +kernel
theorem dX9_front_120 : decode cX9_front 120 = .ok (.aload_n 3, 1) := by decide +kernel
theorem dX9_front_121 : decode cX9_front 121 = .ok (.areturn, 1) := by decide +kernel
theorem dX9_front_122 : decode cX9_front 122 = .ok (.aload_n 3, 1) := by decide +kernel
theorem dX9_front_123 : decode cX9_front 123 = .ok (.iconst 2, 1) := by decide +kernel
theorem dX9_front_124 : decode cX9_front 124 = .ok (.putfield 295, 3) := by decide +kernel
theorem dX9_front_127 : decode cX9_front 127 = .ok (.aload_n 3, 1) := by decide +kernel
theorem dX9_front_128 : decode cX9_front 128 = .ok (.areturn, 1) := by decide +kernel
theorem dX9_front_129 : decode cX9_front 129 = .ok (.aload_n 3, 1) := by decide +kernel
theorem dX9_front_130 : decode cX9_front 130 = .ok (.iconst 3, 1) := by decide +kernel
theorem dX9_front_131 : decode cX9_front 131 = .ok (.putfield 295, 3) := by decide +kernel
theorem dX9_front_134 : decode cX9_front 134 = .ok (.aload_n 3, 1) := by decide +kernel
theorem dX9_front_135 : decode cX9_front 135 = .ok (.areturn, 1) := by decide +kernel
theorem dX9_front_136 : decode cX9_front 136 = .ok (.aload_n 3, 1) := by decide +kernel
theorem dX9_front_137 : decode cX9_front 137 = .ok (.aload_n 0, 1) := by decide +kernel
theorem dX9_front_138 : decode cX9_front 138 = .ok (.invokevirtual 74, 3) := by decide +kernel
theorem dX9_front_141 : decode cX9_front 141 = .ok (.sipush 140, 3) := by decide +kernel
theorem dX9_front_144 : decode cX9_front 144 = .ok (.if_icmp .ne 7, 3) := by decide +kernel
theorem dX9_front_147 : decode cX9_front 147 = .ok (.iconst 5, 1) := by decide +kernel
theorem dX9_front_148 : decode cX9_front 148 = .ok (.goto 4, 3) := by decide +kernel
theorem dX9_front_151 : decode cX9_front 151 = .ok (.iconst 4, 1) := by decide +kernel
theorem dX9_front_152 : decode cX9_front 152 = .ok (.putfield 295, 3) := by decide +kernel
theorem dX9_front_155 : decode cX9_front 155 = .ok (.aload_n 3, 1) := by decide +kernel
theorem dX9_front_156 : decode cX9_front 156 = .ok (.getfield 295, 3) := by decide +kernel
theorem dX9_front_159 : decode cX9_front 159 = .ok (.iconst 4, 1) := by decide +kernel
theorem dX9_front_160 : decode cX9_front 160 = .ok (.if_icmp .eq 12, 3) := by decide +kernel
theorem dX9_front_163 : decode cX9_front 163 = .ok (.aload_n 0, 1) := by decide +kernel
theorem dX9_front_164 : decode cX9_front 164 = .ok (.aload_n 3, 1) := by decide +kernel
theorem dX9_front_165 : decode cX9_front 165 = .ok (.iload_n 1, 1) := by decide +kernel
theorem dX9_front_166 : decode cX9_front 166 = .ok (.invokevirtual 285, 3) := by decide +kernel
theorem dX9_front_169 : decode cX9_front 169 = .ok (.ifCond .eq 7, 3) := by decide +kernel
theorem dX9_front_172 : decode cX9_front 172 = .ok (.aload_n 3, 1) := by decide +kernel
theorem dX9_front_173 : decode cX9_front 173 = .ok (.goto 4, 3) := by decide +kernel
theorem dX9_front_176 : decode cX9_front 176 = .ok (.aconst_null, 1) := by decide +kernel
theorem dX9_front_177 : decode cX9_front 177 = .ok (.areturn, 1) := by decide +kernel
theorem dX9_front_178 : decode cX9_front 178 = .ok (.aload_n 0, 1) := by decide +kernel
theorem dX9_front_179 : decode cX9_front 179 = .ok (.aload_n 3, 1) := by decide +kernel
theorem dX9_front_180 : decode cX9_front 180 = .ok (.iload_n 1, 1) := by decide +kernel
theorem dX9_front_181 : decode cX9_front 181 = .ok (.invokevirtual 338, 3) := by decide +kernel
theorem dX9_front_184 : decode cX9_front 184 = .ok (.areturn, 1) := by decide +kernel
theorem dX9_front_185 : decode cX9_front 185 = .ok (.aload_n 3, 1) := by decide +kernel
theorem dX9_front_186 : decode cX9_front 186 = .ok (.bipush 9, 2) := by decide +kernel
theorem dX9_front_188 : decode cX9_front 188 = .ok (.putfield 295, 3) := by decide +kernel
theorem dX9_front_191 : decode cX9_front 191 = .ok (.aload_n 0, 1) := by decide +kernel
theorem dX9_front_192 : decode cX9_front 192 = .ok (.aload_n 3, 1) := by decide +kernel
theorem dX9_front_193 : decode cX9_front 193 = .ok (.iload_n 1, 1) := by decide +kernel
theorem dX9_front_194 : decode cX9_front 194 = .ok (.invokevirtual 341, 3) := by decide +kernel
theorem dX9_front_197 : decode cX9_front 197 = .ok (.ifCond .eq 7, 3) := by decide +kernel
theorem dX9_front_200 : decode cX9_front 200 = .ok (.aload_n 3, 1) := by decide +kernel
theorem dX9_front_201 : decode cX9_front 201 = .ok (.goto 4, 3) := by decide +kernel
theorem dX9_front_204 : decode cX9_front 204 = .ok (.aconst_null, 1) := by decide +kernel
theorem dX9_front_205 : decode cX9_front 205 = .ok (.areturn, 1) := by decide +kernel
theorem dX9_front_206 : decode cX9_front 206 = .ok (.aload_n 3, 1) := by decide +kernel
theorem dX9_front_207 : decode cX9_front 207 = .ok (.bipush 10, 2) := by decide +kernel
theorem dX9_front_209 : decode cX9_front 209 = .ok (.putfield 295, 3) := by decide +kernel
theorem dX9_front_212 : decode cX9_front 212 = .ok (.aload_n 3, 1) := by decide +kernel
theorem dX9_front_213 : decode cX9_front 213 = .ok (.aload_n 0, 1) := by decide +kernel
theorem dX9_front_214 : decode cX9_front 214 = .ok (.getfield 114, 3) := by decide +kernel
theorem dX9_front_217 : decode cX9_front 217 = .ok (.putfield 311, 3) := by decide +kernel
theorem dX9_front_220 : decode cX9_front 220 = .ok (.aload_n 3, 1) := by decide +kernel
theorem dX9_front_221 : decode cX9_front 221 = .ok (.aload_n 0, 1) := by decide +kernel
theorem dX9_front_222 : decode cX9_front 222 = .ok (.getfield 25, 3) := by decide +kernel
theorem dX9_front_225 : decode cX9_front 225 = .ok (.aload_n 0, 1) := by decide +kernel
theorem dX9_front_226 : decode cX9_front 226 = .ok (.getfield 114, 3) := by decide +kernel
theorem dX9_front_229 : decode cX9_front 229 = .ok (.laload, 1) := by decide +kernel
theorem dX9_front_230 : decode cX9_front 230 = .ok (.putfield 312, 3) := by decide +kernel
theorem dX9_front_233 : decode cX9_front 233 = .ok (.aload_n 0, 1) := by decide +kernel
theorem dX9_front_234 : decode cX9_front 234 = .ok (.iconst 2, 1) := by decide +kernel
theorem dX9_front_235 : decode cX9_front 235 = .ok (.invokevirtual 101, 3) := by decide +kernel
theorem dX9_front_238 : decode cX9_front 238 = .ok (.ifCond .eq 16, 3) := by decide +kernel
theorem dX9_front_241 : decode cX9_front 241 = .ok (.aload_n 0, 1) := by decide +kernel
theorem dX9_front_242 : decode cX9_front 242 = .ok (.aload_n 3, 1) := by decide +kernel
theorem dX9_front_243 : decode cX9_front 243 = .ok (.iload_n 1, 1) := by decide +kernel
theorem dX9_front_244 : decode cX9_front 244 = .ok (.invokevirtual 285, 3) := by decide +kernel
theorem dX9_front_247 : decode cX9_front 247 = .ok (.ifCond .eq 7, 3) := by decide +kernel
theorem dX9_front_250 : decode cX9_front 250 = .ok (.aload_n 3, 1) := by decide +kernel
theorem dX9_front_251 : decode cX9_front 251 = .ok (.goto 4, 3) := by decide +kernel
theorem dX9_front_254 : decode cX9_front 254 = .ok (.aconst_null, 1) := by decide +kernel
theorem dX9_front_255 : decode cX9_front 255 = .ok (.areturn, 1) := by decide +kernel
theorem dX9_front_256 : decode cX9_front 256 = .ok (.aload_n 0, 1) := by decide +kernel
theorem dX9_front_257 : decode cX9_front 257 = .ok (.aload_n 3, 1) := by decide +kernel
theorem dX9_front_258 : decode cX9_front 258 = .ok (.iload_n 1, 1) := by decide +kernel
theorem dX9_front_259 : decode cX9_front 259 = .ok (.invokevirtual 344, 3) := by decide +kernel
theorem dX9_front_262 : decode cX9_front 262 = .ok (.areturn, 1) := by decide +kernel
theorem dX9_ofClass_0 : decode cX9_ofClass 0 = .ok (.aload_n 1, 1) := by decide +kernel
theorem dX9_ofClass_1 : decode cX9_ofClass 1 = .ok (.bipush 6, 2) := by decide +kernel
theorem dX9_ofClass_3 : decode cX9_ofClass 3 = .ok (.putfield 295, 3) := by decide +kernel
theorem dX9_ofClass_6 : decode cX9_ofClass 6 = .ok (.aload_n 0, 1) := by decide +kernel
theorem dX9_ofClass_7 : decode cX9_ofClass 7 = .ok (.sipush 146, 3) := by decide +kernel
theorem dX9_ofClass_10 : decode cX9_ofClass 10 = .ok (.invokevirtual 101, 3) := by decide +kernel
theorem dX9_ofClass_13 : decode cX9_ofClass 13 = .ok (.ifCond .ne 5, 3) := by decide +kernel
theorem dX9_ofClass_16 : decode cX9_ofClass 16 = .ok (.aconst_null, 1) := by decide +kernel
theorem dX9_ofClass_17 : decode cX9_ofClass 17 = .ok (.areturn, 1) := by decide +kernel
theorem dX9_ofClass_18 : decode cX9_ofClass 18 = .ok (.aload_n 0, 1) := by decide +kernel
theorem dX9_ofClass_19 : decode cX9_ofClass 19 = .ok (.invokevirtual 74, 3) := by decide +kernel
theorem dX9_ofClass_22 : decode cX9_ofClass 22 = .ok (.bipush 38, 2) := by decide +kernel
theorem dX9_ofClass_24 : decode cX9_ofClass 24 = .ok (.if_icmp .ne 31, 3) := by decide +kernel
theorem dX9_ofClass_27 : decode cX9_ofClass 27 = .ok (.aload_n 1, 1) := by decide +kernel
theorem dX9_ofClass_28 : decode cX9_ofClass 28 = .ok (.bipush 8, 2) := by decide +kernel
theorem dX9_ofClass_30 : decode cX9_ofClass 30 = .ok (.putfield 295, 3) := by decide +kernel
theorem dX9_ofClass_33 : decode cX9_ofClass 33 = .ok (.aload_n 0, 1) := by decide +kernel
theorem dX9_ofClass_34 : decode cX9_ofClass 34 = .ok (.invokevirtual 158, 3) := by decide +kernel
theorem dX9_ofClass_37 : decode cX9_ofClass 37 = .ok (.ifCond .eq 16, 3) := by decide +kernel
theorem dX9_ofClass_40 : decode cX9_ofClass 40 = .ok (.aload_n 0, 1) := by decide +kernel
theorem dX9_ofClass_41 : decode cX9_ofClass 41 = .ok (.aload_n 1, 1) := by decide +kernel
theorem dX9_ofClass_42 : decode cX9_ofClass 42 = .ok (.iload_n 2, 1) := by decide +kernel
theorem dX9_ofClass_43 : decode cX9_ofClass 43 = .ok (.invokevirtual 341, 3) := by decide +kernel
theorem dX9_ofClass_46 : decode cX9_ofClass 46 = .ok (.ifCond .eq 7, 3) := by decide +kernel
theorem dX9_ofClass_49 : decode cX9_ofClass 49 = .ok (.aload_n 1, 1) := by decide +kernel
theorem dX9_ofClass_50 : decode cX9_ofClass 50 = .ok (.goto 4, 3) := by decide +kernel
theorem dX9_ofClass_53 : decode cX9_ofClass 53 = .ok (.aconst_null, 1) := by decide +kernel
theorem dX9_ofClass_54 : decode cX9_ofClass 54 = .ok (.areturn, 1) := by decide +kernel
theorem dX9_ofClass_55 : decode cX9_ofClass 55 = .ok (.aload_n 1, 1) := by decide +kernel
theorem dX9_ofClass_56 : decode cX9_ofClass 56 = .ok (.aload_n 0, 1) := by decide +kernel
theorem dX9_ofClass_57 : decode cX9_ofClass 57 = .ok (.getfield 114, 3) := by decide +kernel
theorem dX9_ofClass_60 : decode cX9_ofClass 60 = .ok (.putfield 311, 3) := by decide +kernel
theorem dX9_ofClass_63 : decode cX9_ofClass 63 = .ok (.aload_n 0, 1) := by decide +kernel
theorem dX9_ofClass_64 : decode cX9_ofClass 64 = .ok (.iconst 3, 1) := by decide +kernel
theorem dX9_ofClass_65 : decode cX9_ofClass 65 = .ok (.invokevirtual 101, 3) := by decide +kernel
theorem dX9_ofClass_68 : decode cX9_ofClass 68 = .ok (.ifCond .ne 5, 3) := by decide +kernel
theorem dX9_ofClass_71 : decode cX9_ofClass 71 = .ok (.aconst_null, 1) := by decide +kernel
theorem dX9_ofClass_72 : decode cX9_ofClass 72 = .ok (.areturn, 1) := by decide +kernel
theorem dX9_ofClass_73 : decode cX9_ofClass 73 = .ok (.aload_n 0, 1) := by decide +kernel
theorem dX9_ofClass_74 : decode cX9_ofClass 74 = .ok (.invokevirtual 74, 3) := by decide +kernel
theorem dX9_ofClass_77 : decode cX9_ofClass 77 = .ok (.sipush 140, 3) := by decide +kernel
theorem dX9_ofClass_80 : decode cX9_ofClass 80 = .ok (.if_icmp .ne 24, 3) := by decide +kernel
theorem dX9_ofClass_83 : decode cX9_ofClass 83 = .ok (.aload_n 1, 1) := by decide +kernel
theorem dX9_ofClass_84 : decode cX9_ofClass 84 = .ok (.bipush 7, 2) := by decide +kernel
theorem dX9_ofClass_86 : decode cX9_ofClass 86 = .ok (.putfield 295, 3) := by decide +kernel
theorem dX9_ofClass_89 : decode cX9_ofClass 89 = .ok (.aload_n 0, 1) := by decide +kernel
theorem dX9_ofClass_90 : decode cX9_ofClass 90 = .ok (.aload_n 1, 1) := by decide +kernel
theorem dX9_ofClass_91 : decode cX9_ofClass 91 = .ok (.iload_n 2, 1) := by decide +kernel
theorem dX9_ofClass_92 : decode cX9_ofClass 92 = .ok (.invokevirtual 285, 3) := by decide +kernel
theorem dX9_ofClass_95 : decode cX9_ofClass 95 = .ok (.ifCond .eq 7, 3) := by decide +kernel
theorem dX9_ofClass_98 : decode cX9_ofClass 98 = .ok (.aload_n 1, 1) := by decide +kernel
theorem dX9_ofClass_99 : decode cX9_ofClass 99 = .ok (.goto 4, 3) := by decide +kernel
theorem dX9_ofClass_102 : decode cX9_ofClass 102 = .ok (.aconst_null, 1) := by decide +kernel
theorem dX9_ofClass_103 : decode cX9_ofClass 103 = .ok (.areturn, 1) := by decide +kernel
theorem dX9_ofClass_104 : decode cX9_ofClass 104 = .ok (.aload_n 1, 1) := by decide +kernel
theorem dX9_ofClass_105 : decode cX9_ofClass 105 = .ok (.areturn, 1) := by decide +kernel
theorem dX9_superCall_0 : decode cX9_superCall 0 = .ok (.aload_n 0, 1) := by decide +kernel
theorem dX9_superCall_1 : decode cX9_superCall 1 = .ok (.sipush 146, 3) := by decide +kernel
theorem dX9_superCall_4 : decode cX9_superCall 4 = .ok (.invokevirtual 101, 3) := by decide +kernel
theorem dX9_superCall_7 : decode cX9_superCall 7 = .ok (.ifCond .ne 5, 3) := by decide +kernel
theorem dX9_superCall_10 : decode cX9_superCall 10 = .ok (.iconst 0, 1) := by decide +kernel
theorem dX9_superCall_11 : decode cX9_superCall 11 = .ok (.ireturn, 1) := by decide +kernel
theorem dX9_superCall_12 : decode cX9_superCall 12 = .ok (.aload_n 1, 1) := by decide +kernel
theorem dX9_superCall_13 : decode cX9_superCall 13 = .ok (.aload_n 0, 1) := by decide +kernel
theorem dX9_superCall_14 : decode cX9_superCall 14 = .ok (.getfield 114, 3) := by decide +kernel
theorem dX9_superCall_17 : decode cX9_superCall 17 = .ok (.putfield 311, 3) := by decide +kernel
theorem dX9_superCall_20 : decode cX9_superCall 20 = .ok (.aload_n 0, 1) := by decide +kernel
theorem dX9_superCall_21 : decode cX9_superCall 21 = .ok (.iconst 3, 1) := by decide +kernel
theorem dX9_superCall_22 : decode cX9_superCall 22 = .ok (.invokevirtual 101, 3) := by decide +kernel
theorem dX9_superCall_25 : decode cX9_superCall 25 = .ok (.ifCond .eq 16, 3) := by decide +kernel
theorem dX9_superCall_28 : decode cX9_superCall 28 = .ok (.aload_n 0, 1) := by decide +kernel
theorem dX9_superCall_29 : decode cX9_superCall 29 = .ok (.aload_n 1, 1) := by decide +kernel
theorem dX9_superCall_30 : decode cX9_superCall 30 = .ok (.iload_n 2, 1) := by decide +kernel
theorem dX9_superCall_31 : decode cX9_superCall 31 = .ok (.invokevirtual 285, 3) := by decide +kernel
theorem dX9_superCall_34 : decode cX9_superCall 34 = .ok (.ifCond .eq 7, 3) := by decide +kernel
theorem dX9_superCall_37 : decode cX9_superCall 37 = .ok (.iconst 1, 1) := by decide +kernel
theorem dX9_superCall_38 : decode cX9_superCall 38 = .ok (.goto 4, 3) := by decide +kernel
theorem dX9_superCall_41 : decode cX9_superCall 41 = .ok (.iconst 0, 1) := by decide +kernel
theorem dX9_superCall_42 : decode cX9_superCall 42 = .ok (.ireturn, 1) := by decide +kernel
theorem dX9_round_0 : decode cX9_round 0 = .ok (.aload_n 0, 1) := by decide +kernel
theorem dX9_round_1 : decode cX9_round 1 = .ok (.invokevirtual 74, 3) := by decide +kernel
theorem dX9_round_4 : decode cX9_round 4 = .ok (.iconst 2, 1) := by decide +kernel
theorem dX9_round_5 : decode cX9_round 5 = .ok (.if_icmp .ne 111, 3) := by decide +kernel
theorem dX9_round_8 : decode cX9_round 8 = .ok (.aload_n 0, 1) := by decide +kernel
theorem dX9_round_9 : decode cX9_round 9 = .ok (.invokevirtual 282, 3) := by decide +kernel
theorem dX9_round_12 : decode cX9_round 12 = .ok (.sipush 141, 3) := by decide +kernel
theorem dX9_round_15 : decode cX9_round 15 = .ok (.if_icmp .ne 101, 3) := by decide +kernel
theorem dX9_round_18 : decode cX9_round 18 = .ok (.aload_n 1, 1) := by decide +kernel
theorem dX9_round_19 : decode cX9_round 19 = .ok (.bipush 11, 2) := by decide +kernel
theorem dX9_round_21 : decode cX9_round 21 = .ok (.putfield 295, 3) := by decide +kernel
theorem dX9_round_24 : decode cX9_round 24 = .ok (.aload_n 1, 1) := by decide +kernel
theorem dX9_round_25 : decode cX9_round 25 = .ok (.aload_n 0, 1) := by decide +kernel
theorem dX9_round_26 : decode cX9_round 26 = .ok (.getfield 114, 3) := by decide +kernel
theorem dX9_round_29 : decode cX9_round 29 = .ok (.putfield 311, 3) := by decide +kernel
theorem dX9_round_32 : decode cX9_round 32 = .ok (.aload_n 1, 1) := by decide +kernel
theorem dX9_round_33 : decode cX9_round 33 = .ok (.aload_n 0, 1) := by decide +kernel
theorem dX9_round_34 : decode cX9_round 34 = .ok (.getfield 25, 3) := by decide +kernel
theorem dX9_round_37 : decode cX9_round 37 = .ok (.aload_n 0, 1) := by decide +kernel
theorem dX9_round_38 : decode cX9_round 38 = .ok (.getfield 114, 3) := by decide +kernel
theorem dX9_round_41 : decode cX9_round 41 = .ok (.laload, 1) := by decide +kernel
theorem dX9_round_42 : decode cX9_round 42 = .ok (.putfield 312, 3) := by decide +kernel
theorem dX9_round_45 : decode cX9_round 45 = .ok (.aload_n 0, 1) := by decide +kernel
theorem dX9_round_46 : decode cX9_round 46 = .ok (.invokevirtual 158, 3) := by decide +kernel
theorem dX9_round_49 : decode cX9_round 49 = .ok (.ifCond .eq 10, 3) := by decide +kernel
theorem dX9_round_52 : decode cX9_round 52 = .ok (.aload_n 0, 1) := by decide +kernel
theorem dX9_round_53 : decode cX9_round 53 = .ok (.invokevirtual 158, 3) := by decide +kernel
theorem dX9_round_56 : decode cX9_round 56 = .ok (.ifCond .ne 5, 3) := by decide +kernel
theorem dX9_round_59 : decode cX9_round 59 = .ok (.aconst_null, 1) := by decide +kernel
theorem dX9_round_60 : decode cX9_round 60 = .ok (.areturn, 1) := by decide +kernel
theorem dX9_round_61 : decode cX9_round 61 = .ok (.aload_n 0, 1) := by decide +kernel
theorem dX9_round_62 : decode cX9_round 62 = .ok (.invokevirtual 74, 3) := by decide +kernel
theorem dX9_round_65 : decode cX9_round 65 = .ok (.invokestatic 279, 3) := by decide +kernel
theorem dX9_round_68 : decode cX9_round 68 = .ok (.ifCond .ne 10, 3) := by decide +kernel
theorem dX9_round_71 : decode cX9_round 71 = .ok (.aload_n 0, 1) := by decide +kernel
theorem dX9_round_72 : decode cX9_round 72 = .ok (.invokevirtual 151, 3) := by decide +kernel
theorem dX9_round_75 : decode cX9_round 75 = .ok (.pop, 1) := by decide +kernel
theorem dX9_round_76 : decode cX9_round 76 = .ok (.aconst_null, 1) := by decide +kernel
theorem dX9_round_77 : decode cX9_round 77 = .ok (.areturn, 1) := by decide +kernel
theorem dX9_round_78 : decode cX9_round 78 = .ok (.iload_n 2, 1) := by decide +kernel
theorem dX9_round_79 : decode cX9_round 79 = .ok (.bipush 12, 2) := by decide +kernel
theorem dX9_round_81 : decode cX9_round 81 = .ok (.if_icmp .lt 11, 3) := by decide +kernel
theorem dX9_round_84 : decode cX9_round 84 = .ok (.aload_n 0, 1) := by decide +kernel
theorem dX9_round_85 : decode cX9_round 85 = .ok (.iconst 3, 1) := by decide +kernel
theorem dX9_round_86 : decode cX9_round 86 = .ok (.invokevirtual 148, 3) := by decide +kernel
theorem dX9_round_89 : decode cX9_round 89 = .ok (.pop, 1) := by decide +kernel
theorem dX9_round_90 : decode cX9_round 90 = .ok (.aconst_null, 1) := by decide +kernel
theorem dX9_round_91 : decode cX9_round 91 = .ok (.areturn, 1) := by decide +kernel
theorem dX9_round_92 : decode cX9_round 92 = .ok (.aload_n 1, 1) := by decide +kernel
theorem dX9_round_93 : decode cX9_round 93 = .ok (.aload_n 0, 1) := by decide +kernel
theorem dX9_round_94 : decode cX9_round 94 = .ok (.iload_n 2, 1) := by decide +kernel
theorem dX9_round_95 : decode cX9_round 95 = .ok (.iconst 1, 1) := by decide +kernel
theorem dX9_round_96 : decode cX9_round 96 = .ok (.iadd, 1) := by decide +kernel
theorem dX9_round_97 : decode cX9_round 97 = .ok (.invokevirtual 325, 3) := by decide +kernel
theorem dX9_round_100 : decode cX9_round 100 = .ok (.putfield 273, 3) := by decide +kernel
theorem dX9_round_103 : decode cX9_round 103 = .ok (.aload_n 1, 1) := by decide +kernel
theorem dX9_round_104 : decode cX9_round 104 = .ok (.getfield 273, 3) := by decide +kernel
theorem dX9_round_107 : decode cX9_round 107 = .ok (.ifnonnull 7, 3) := by decide +kernel
theorem dX9_round_110 : decode cX9_round 110 = .ok (.aconst_null, 1) := by decide +kernel
theorem dX9_round_111 : decode cX9_round 111 = .ok (.goto 4, 3) := by decide +kernel
theorem dX9_round_114 : decode cX9_round 114 = .ok (.aload_n 1, 1) := by decide +kernel
theorem dX9_round_115 : decode cX9_round 115 = .ok (.areturn, 1) := by decide +kernel
theorem dX9_round_116 : decode cX9_round 116 = .ok (.aload_n 1, 1) := by decide +kernel

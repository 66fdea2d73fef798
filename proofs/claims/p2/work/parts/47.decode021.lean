theorem dX13_field_23 : decode cX13_field 23 = .ok (.istore 6, 2) := by decide +kernel
theorem dX13_field_25 : decode cX13_field 25 = .ok (.iload 6, 2) := by decide +kernel
theorem dX13_field_27 : decode cX13_field 27 = .ok (.bipush (-2), 2) := by decide +kernel
theorem dX13_field_29 : decode cX13_field 29 = .ok (.if_icmp .eq 17, 3) := by decide +kernel
theorem dX13_field_32 : decode cX13_field 32 = .ok (.aload_n 0, 1) := by decide +kernel
theorem dX13_field_33 : decode cX13_field 33 = .ok (.iload 6, 2) := by decide +kernel
theorem dX13_field_35 : decode cX13_field 35 = .ok (.iload_n 2, 1) := by decide +kernel
theorem dX13_field_36 : decode cX13_field 36 = .ok (.aload_n 0, 1) := by decide +kernel
theorem dX13_field_37 : decode cX13_field 37 = .ok (.getfield 745, 3) := by decide +kernel
theorem dX13_field_40 : decode cX13_field 40 = .ok (.invokevirtual 739, 3) := by decide +kernel
theorem dX13_field_43 : decode cX13_field 43 = .ok (.ifCond .ne 19, 3) := by decide +kernel
theorem dX13_field_46 : decode cX13_field 46 = .ok (.aload_n 0, 1) := by decide +kernel
theorem dX13_field_47 : decode cX13_field 47 = .ok (.bipush 11, 2) := by decide +kernel
theorem dX13_field_49 : decode cX13_field 49 = .ok (.aload_n 0, 1) := by decide +kernel
theorem dX13_field_50 : decode cX13_field 50 = .ok (.getfield 179, 3) := by decide +kernel
theorem dX13_field_53 : decode cX13_field 53 = .ok (.iload_n 1, 1) := by decide +kernel
theorem dX13_field_54 : decode cX13_field 54 = .ok (.iaload, 1) := by decide +kernel
theorem dX13_field_55 : decode cX13_field 55 = .ok (.invokevirtual 152, 3) := by decide +kernel
theorem dX13_field_58 : decode cX13_field 58 = .ok (.ldc2_w 43, 3) := by decide +kernel
theorem dX13_field_61 : decode cX13_field 61 = .ok (.lreturn, 1) := by decide +kernel
theorem dX13_field_62 : decode cX13_field 62 = .ok (.aload_n 0, 1) := by decide +kernel
theorem dX13_field_63 : decode cX13_field 63 = .ok (.getfield 173, 3) := by decide +kernel
theorem dX13_field_66 : decode cX13_field 66 = .ok (.iload_n 1, 1) := by decide +kernel
theorem dX13_field_67 : decode cX13_field 67 = .ok (.iaload, 1) := by decide +kernel
theorem dX13_field_68 : decode cX13_field 68 = .ok (.iconst 3, 1) := by decide +kernel
theorem dX13_field_69 : decode cX13_field 69 = .ok (.if_icmp .ne 7, 3) := by decide +kernel
theorem dX13_field_72 : decode cX13_field 72 = .ok (.iconst 1, 1) := by decide +kernel
theorem dX13_field_73 : decode cX13_field 73 = .ok (.goto 4, 3) := by decide +kernel
theorem dX13_field_76 : decode cX13_field 76 = .ok (.iconst 0, 1) := by decide +kernel
theorem dX13_field_77 : decode cX13_field 77 = .ok (.istore 7, 2) := by decide +kernel
theorem dX13_field_79 : decode cX13_field 79 = .ok (.iload 7, 2) := by decide +kernel
theorem dX13_field_81 : decode cX13_field 81 = .ok (.ifCond .eq 23, 3) := by decide +kernel
theorem dX13_field_84 : decode cX13_field 84 = .ok (.aload_n 0, 1) := by decide +kernel
theorem dX13_field_85 : decode cX13_field 85 = .ok (.getfield 751, 3) := by decide +kernel
theorem dX13_field_88 : decode cX13_field 88 = .ok (.ifCond .eq 40, 3) := by decide +kernel
theorem dX13_field_91 : decode cX13_field 91 = .ok (.aload_n 0, 1) := by decide +kernel
theorem dX13_field_92 : decode cX13_field 92 = .ok (.getfield 341, 3) := by decide +kernel
theorem dX13_field_95 : decode cX13_field 95 = .ok (.iload 6, 2) := by decide +kernel
theorem dX13_field_97 : decode cX13_field 97 = .ok (.baload, 1) := by decide +kernel
theorem dX13_field_98 : decode cX13_field 98 = .ok (.ifCond .ne 30, 3) := by decide +kernel
theorem dX13_field_101 : decode cX13_field 101 = .ok (.goto 15, 3) := by decide +kernel
theorem dX13_field_104 : decode cX13_field 104 = .ok (.aload_n 0, 1) := by decide +kernel
theorem dX13_field_105 : decode cX13_field 105 = .ok (.getfield 341, 3) := by decide +kernel
theorem dX13_field_108 : decode cX13_field 108 = .ok (.iload 6, 2) := by decide +kernel
theorem dX13_field_110 : decode cX13_field 110 = .ok (.baload, 1) := by decide +kernel
theorem dX13_field_111 : decode cX13_field 111 = .ok (.iload 5, 2) := by decide +kernel
theorem dX13_field_113 : decode cX13_field 113 = .ok (.if_icmp .eq 15, 3) := by decide +kernel
theorem dX13_field_116 : decode cX13_field 116 = .ok (.aload_n 0, 1) := by decide +kernel
theorem dX13_field_117 : decode cX13_field 117 = .ok (.bipush 14, 2) := by decide +kernel
theorem dX13_field_119 : decode cX13_field 119 = .ok (.aload_n 0, 1) := by decide +kernel
theorem dX13_field_120 : decode cX13_field 120 = .ok (.getfield 179, 3) := by decide +kernel
theorem dX13_field_123 : decode cX13_field 123 = .ok (.iload_n 1, 1) := by decide +kernel
theorem dX13_field_124 : decode cX13_field 124 = .ok (.iaload, 1) := by decide +kernel
theorem dX13_field_125 : decode cX13_field 125 = .ok (.invokevirtual 152, 3) := by decide +kernel
theorem dX13_field_128 : decode cX13_field 128 = .ok (.aload_n 0, 1) := by decide +kernel
theorem dX13_field_129 : decode cX13_field 129 = .ok (.getfield 209, 3) := by decide +kernel
theorem dX13_field_132 : decode cX13_field 132 = .ok (.iload_n 1, 1) := by decide +kernel
theorem dX13_field_133 : decode cX13_field 133 = .ok (.aload_n 0, 1) := by decide +kernel
theorem dX13_field_134 : decode cX13_field 134 = .ok (.getfield 377, 3) := by decide +kernel
theorem dX13_field_137 : decode cX13_field 137 = .ok (.iload 6, 2) := by decide +kernel
theorem dX13_field_139 : decode cX13_field 139 = .ok (.baload, 1) := by decide +kernel
theorem dX13_field_140 : decode cX13_field 140 = .ok (.ifCond .eq 8, 3) := by decide +kernel
theorem dX13_field_143 : decode cX13_field 143 = .ok (.bipush (-10), 2) := by decide +kernel
theorem dX13_field_145 : decode cX13_field 145 = .ok (.goto 20, 3) := by decide +kernel
theorem dX13_field_148 : decode cX13_field 148 = .ok (.aload_n 0, 1) := by decide +kernel
theorem dX13_field_149 : decode cX13_field 149 = .ok (.getfield 341, 3) := by decide +kernel
theorem dX13_field_152 : decode cX13_field 152 = .ok (.iload 6, 2) := by decide +kernel
theorem dX13_field_154 : decode cX13_field 154 = .ok (.baload, 1) := by decide +kernel
theorem dX13_field_155 : decode cX13_field 155 = .ok (.ifCond .eq 8, 3) := by decide +kernel
theorem dX13_field_158 : decode cX13_field 158 = .ok (.bipush (-11), 2) := by decide +kernel
theorem dX13_field_160 : decode cX13_field 160 = .ok (.goto 5, 3) := by decide +kernel
theorem dX13_field_163 : decode cX13_field 163 = .ok (.bipush (-12), 2) := by decide +kernel
theorem dX13_field_165 : decode cX13_field 165 = .ok (.iastore, 1) := by decide +kernel
theorem dX13_field_166 : decode cX13_field 166 = .ok (.aload_n 0, 1) := by decide +kernel
theorem dX13_field_167 : decode cX13_field 167 = .ok (.getfield 206, 3) := by decide +kernel
theorem dX13_field_170 : decode cX13_field 170 = .ok (.iload_n 1, 1) := by decide +kernel
theorem dX13_field_171 : decode cX13_field 171 = .ok (.aload_n 0, 1) := by decide +kernel
theorem dX13_field_172 : decode cX13_field 172 = .ok (.getfield 380, 3) := by decide +kernel
theorem dX13_field_175 : decode cX13_field 175 = .ok (.iload 6, 2) := by decide +kernel
theorem dX13_field_177 : decode cX13_field 177 = .ok (.iaload, 1) := by decide +kernel
theorem dX13_field_178 : decode cX13_field 178 = .ok (.iastore, 1) := by decide +kernel
theorem dX13_field_179 : decode cX13_field 179 = .ok (.aload_n 0, 1) := by decide +kernel
theorem dX13_field_180 : decode cX13_field 180 = .ok (.getfield 212, 3) := by decide +kernel
theorem dX13_field_183 : decode cX13_field 183 = .ok (.iload_n 1, 1) := by decide +kernel
theorem dX13_field_184 : decode cX13_field 184 = .ok (.lload_n 3, 1) := by decide +kernel
theorem dX13_field_185 : decode cX13_field 185 = .ok (.lastore, 1) := by decide +kernel
theorem dX13_field_186 : decode cX13_field 186 = .ok (.aload_n 0, 1) := by decide +kernel
theorem dX13_field_187 : decode cX13_field 187 = .ok (.getfield 215, 3) := by decide +kernel
theorem dX13_field_190 : decode cX13_field 190 = .ok (.iload_n 1, 1) := by decide +kernel
theorem dX13_field_191 : decode cX13_field 191 = .ok (.aload_n 0, 1) := by decide +kernel
theorem dX13_field_192 : decode cX13_field 192 = .ok (.getfield 359, 3) := by decide +kernel
theorem dX13_field_195 : decode cX13_field 195 = .ok (.iload 6, 2) := by decide +kernel
theorem dX13_field_197 : decode cX13_field 197 = .ok (.laload, 1) := by decide +kernel
theorem dX13_field_198 : decode cX13_field 198 = .ok (.lastore, 1) := by decide +kernel
theorem dX13_field_199 : decode cX13_field 199 = .ok (.aload_n 0, 1) := by decide +kernel
theorem dX13_field_200 : decode cX13_field 200 = .ok (.getfield 200, 3) := by decide +kernel
theorem dX13_field_203 : decode cX13_field 203 = .ok (.iload_n 1, 1) := by decide +kernel
theorem dX13_field_204 : decode cX13_field 204 = .ok (.iload 6, 2) := by decide +kernel
theorem dX13_field_206 : decode cX13_field 206 = .ok (.iastore, 1) := by decide +kernel
theorem dX13_field_207 : decode cX13_field 207 = .ok (.aload_n 0, 1) := by decide +kernel
theorem dX13_field_208 : decode cX13_field 208 = .ok (.getfield 359, 3) := by decide +kernel
theorem dX13_field_211 : decode cX13_field 211 = .ok (.iload 6, 2) := by decide +kernel
theorem dX13_field_213 : decode cX13_field 213 = .ok (.laload, 1) := by decide +kernel
theorem dX13_field_214 : decode cX13_field 214 = .ok (.lreturn, 1) := by decide +kernel
theorem dX13_args_0 : decode cX13_args 0 = .ok (.iload_n 1, 1) := by decide +kernel
theorem dX13_args_1 : decode cX13_args 1 = .ok (.istore_n 2, 1) := by decide +kernel
theorem dX13_args_2 : decode cX13_args 2 = .ok (.iload_n 2, 1) := by decide +kernel
theorem dX13_args_3 : decode cX13_args 3 = .ok (.bipush (-2), 2) := by decide +kernel
theorem dX13_args_5 : decode cX13_args 5 = .ok (.if_icmp .eq 26, 3) := by decide +kernel
theorem dX13_args_8 : decode cX13_args 8 = .ok (.aload_n 0, 1) := by decide +kernel
theorem dX13_args_9 : decode cX13_args 9 = .ok (.getfield 129, 3) := by decide +kernel
theorem dX13_args_12 : decode cX13_args 12 = .ok (.ifCond .ne 19, 3) := by decide +kernel
theorem dX13_args_15 : decode cX13_args 15 = .ok (.aload_n 0, 1) := by decide +kernel
theorem dX13_args_16 : decode cX13_args 16 = .ok (.iload_n 2, 1) := by decide +kernel
theorem dX13_args_17 : decode cX13_args 17 = .ok (.invokevirtual 757, 3) := by decide +kernel
theorem dX13_args_20 : decode cX13_args 20 = .ok (.pop2, 1) := by decide +kernel
theorem dX13_args_21 : decode cX13_args 21 = .ok (.aload_n 0, 1) := by decide +kernel
theorem dX13_args_22 : decode cX13_args 22 = .ok (.getfield 203, 3) := by decide +kernel
theorem dX13_args_25 : decode cX13_args 25 = .ok (.iload_n 2, 1) := by decide +kernel
theorem dX13_args_26 : decode cX13_args 26 = .ok (.iaload, 1) := by decide +kernel
theorem dX13_args_27 : decode cX13_args 27 = .ok (.istore_n 2, 1) := by decide +kernel
theorem dX13_args_28 : decode cX13_args 28 = .ok (.goto (-26), 3) := by decide +kernel
theorem dX13_args_31 : decode cX13_args 31 = .ok (.return_, 1) := by decide +kernel
theorem dX13_leaf_0 : decode cX13_leaf 0 = .ok (.aload_n 0, 1) := by decide +kernel
theorem dX13_leaf_1 : decode cX13_leaf 1 = .ok (.getfield 173, 3) := by decide +kernel
theorem dX13_leaf_4 : decode cX13_leaf 4 = .ok (.iload_n 1, 1) := by decide +kernel
theorem dX13_leaf_5 : decode cX13_leaf 5 = .ok (.iaload, 1) := by decide +kernel
theorem dX13_leaf_6 : decode cX13_leaf 6 = .ok (.tableswitch 250 0 6 #[42, 46, 50, 79, 141, 85, 184], 42) := by decide +kernel
theorem dX13_leaf_48 : decode cX13_leaf 48 = .ok (.ldc2_w 43, 3) := by decide +kernel
theorem dX13_leaf_51 : decode cX13_leaf 51 = .ok (.lreturn, 1) := by decide +kernel
theorem dX13_leaf_52 : decode cX13_leaf 52 = .ok (.ldc2_w 579, 3) := by decide +kernel
theorem dX13_leaf_55 : decode cX13_leaf 55 = .ok (.lreturn, 1) := by decide +kernel
theorem dX13_leaf_56 : decode cX13_leaf 56 = .ok (.aload_n 0, 1) := by decide +kernel
theorem dX13_leaf_57 : decode cX13_leaf 57 = .ok (.getfield 751, 3) := by decide +kernel
theorem dX13_leaf_60 : decode cX13_leaf 60 = .ok (.ifCond .eq 15, 3) := by decide +kernel
theorem dX13_leaf_63 : decode cX13_leaf 63 = .ok (.aload_n 0, 1) := by decide +kernel
theorem dX13_leaf_64 : decode cX13_leaf 64 = .ok (.bipush 14, 2) := by decide +kernel
theorem dX13_leaf_66 : decode cX13_leaf 66 = .ok (.aload_n 0, 1) := by decide +kernel
theorem dX13_leaf_67 : decode cX13_leaf 67 = .ok (.getfield 176, 3) := by decide +kernel
theorem dX13_leaf_70 : decode cX13_leaf 70 = .ok (.iload_n 1, 1) := by decide +kernel
theorem dX13_leaf_71 : decode cX13_leaf 71 = .ok (.iaload, 1) := by decide +kernel
theorem dX13_leaf_72 : decode cX13_leaf 72 = .ok (.invokevirtual 152, 3) := by decide +kernel
theorem dX13_leaf_75 : decode cX13_leaf 75 = .ok (.aload_n 0, 1) := by decide +kernel
theorem dX13_leaf_76 : decode cX13_leaf 76 = .ok (.getfield 256, 3) := by decide +kernel
theorem dX13_leaf_79 : decode cX13_leaf 79 = .ok (.aload_n 0, 1) := by decide +kernel
theorem dX13_leaf_80 : decode cX13_leaf 80 = .ok (.getfield 745, 3) := by decide +kernel
theorem dX13_leaf_83 : decode cX13_leaf 83 = .ok (.laload, 1) := by decide +kernel
theorem dX13_leaf_84 : decode cX13_leaf 84 = .ok (.lreturn, 1) := by decide +kernel
theorem dX13_leaf_85 : decode cX13_leaf 85 = .ok (.aload_n 0, 1) := by decide +kernel
theorem dX13_leaf_86 : decode cX13_leaf 86 = .ok (.iload_n 1, 1) := by decide +kernel
theorem dX13_leaf_87 : decode cX13_leaf 87 = .ok (.invokevirtual 812, 3) := by decide +kernel
theorem dX13_leaf_90 : decode cX13_leaf 90 = .ok (.lreturn, 1) := by decide +kernel
theorem dX13_leaf_91 : decode cX13_leaf 91 = .ok (.aload_n 0, 1) := by decide +kernel
theorem dX13_leaf_92 : decode cX13_leaf 92 = .ok (.aload_n 0, 1) := by decide +kernel
theorem dX13_leaf_93 : decode cX13_leaf 93 = .ok (.getfield 188, 3) := by decide +kernel
theorem dX13_leaf_96 : decode cX13_leaf 96 = .ok (.iload_n 1, 1) := by decide +kernel
theorem dX13_leaf_97 : decode cX13_leaf 97 = .ok (.laload, 1) := by decide +kernel
theorem dX13_leaf_98 : decode cX13_leaf 98 = .ok (.aload_n 0, 1) := by decide +kernel
theorem dX13_leaf_99 : decode cX13_leaf 99 = .ok (.getfield 182, 3) := by decide +kernel
theorem dX13_leaf_102 : decode cX13_leaf 102 = .ok (.iload_n 1, 1) := by decide +kernel
theorem dX13_leaf_103 : decode cX13_leaf 103 = .ok (.iaload, 1) := by decide +kernel
theorem dX13_leaf_104 : decode cX13_leaf 104 = .ok (.aload_n 0, 1) := by decide +kernel
theorem dX13_leaf_105 : decode cX13_leaf 105 = .ok (.getfield 745, 3) := by decide +kernel
theorem dX13_leaf_108 : decode cX13_leaf 108 = .ok (.invokevirtual 664, 3) := by decide +kernel
theorem dX13_leaf_111 : decode cX13_leaf 111 = .ok (.aload_n 0, 1) := by decide +kernel
theorem dX13_leaf_112 : decode cX13_leaf 112 = .ok (.getfield 129, 3) := by decide +kernel
theorem dX13_leaf_115 : decode cX13_leaf 115 = .ok (.ifCond .ne 28, 3) := by decide +kernel
theorem dX13_leaf_118 : decode cX13_leaf 118 = .ok (.aload_n 0, 1) := by decide +kernel
theorem dX13_leaf_119 : decode cX13_leaf 119 = .ok (.iload_n 1, 1) := by decide +kernel
theorem dX13_leaf_120 : decode cX13_leaf 120 = .ok (.aload_n 0, 1) := by decide +kernel
theorem dX13_leaf_121 : decode cX13_leaf 121 = .ok (.aload_n 0, 1) := by decide +kernel
theorem dX13_leaf_122 : decode cX13_leaf 122 = .ok (.getfield 188, 3) := by decide +kernel
theorem dX13_leaf_125 : decode cX13_leaf 125 = .ok (.iload_n 1, 1) := by decide +kernel
theorem dX13_leaf_126 : decode cX13_leaf 126 = .ok (.laload, 1) := by decide +kernel
theorem dX13_leaf_127 : decode cX13_leaf 127 = .ok (.invokevirtual 551, 3) := by decide +kernel
theorem dX13_leaf_130 : decode cX13_leaf 130 = .ok (.aload_n 0, 1) := by decide +kernel
theorem dX13_leaf_131 : decode cX13_leaf 131 = .ok (.getfield 188, 3) := by decide +kernel
theorem dX13_leaf_134 : decode cX13_leaf 134 = .ok (.iload_n 1, 1) := by decide +kernel
theorem dX13_leaf_135 : decode cX13_leaf 135 = .ok (.laload, 1) := by decide +kernel
theorem dX13_leaf_136 : decode cX13_leaf 136 = .ok (.iconst 1, 1) := by decide +kernel
theorem dX13_leaf_137 : decode cX13_leaf 137 = .ok (.invokevirtual 809, 3) := by decide +kernel
theorem dX13_leaf_140 : decode cX13_leaf 140 = .ok (.goto 6, 3) := by decide +kernel
theorem dX13_leaf_143 : decode cX13_leaf 143 = .ok (.ldc2_w 43, 3) := by decide +kernel
theorem dX13_leaf_146 : decode cX13_leaf 146 = .ok (.lreturn, 1) := by decide +kernel
theorem dX13_leaf_147 : decode cX13_leaf 147 = .ok (.aload_n 0, 1) := by decide +kernel
theorem dX13_leaf_148 : decode cX13_leaf 148 = .ok (.aload_n 0, 1) := by decide +kernel
theorem dX13_leaf_149 : decode cX13_leaf 149 = .ok (.getfield 197, 3) := by decide +kernel
theorem dX13_leaf_152 : decode cX13_leaf 152 = .ok (.iload_n 1, 1) := by decide +kernel
theorem dX13_leaf_153 : decode cX13_leaf 153 = .ok (.iaload, 1) := by decide +kernel
theorem dX13_leaf_154 : decode cX13_leaf 154 = .ok (.invokevirtual 796, 3) := by decide +kernel
theorem dX13_leaf_157 : decode cX13_leaf 157 = .ok (.aload_n 0, 1) := by decide +kernel
theorem dX13_leaf_158 : decode cX13_leaf 158 = .ok (.getfield 129, 3) := by decide +kernel
theorem dX13_leaf_161 : decode cX13_leaf 161 = .ok (.ifCond .ne 25, 3) := by decide +kernel
theorem dX13_leaf_164 : decode cX13_leaf 164 = .ok (.aload_n 0, 1) := by decide +kernel
theorem dX13_leaf_165 : decode cX13_leaf 165 = .ok (.iload_n 1, 1) := by decide +kernel
theorem dX13_leaf_166 : decode cX13_leaf 166 = .ok (.aload_n 0, 1) := by decide +kernel
theorem dX13_leaf_167 : decode cX13_leaf 167 = .ok (.getfield 745, 3) := by decide +kernel
theorem dX13_leaf_170 : decode cX13_leaf 170 = .ok (.aload_n 0, 1) := by decide +kernel
theorem dX13_leaf_171 : decode cX13_leaf 171 = .ok (.getfield 256, 3) := by decide +kernel
theorem dX13_leaf_174 : decode cX13_leaf 174 = .ok (.aload_n 0, 1) := by decide +kernel
theorem dX13_leaf_175 : decode cX13_leaf 175 = .ok (.getfield 745, 3) := by decide +kernel
theorem dX13_leaf_178 : decode cX13_leaf 178 = .ok (.laload, 1) := by decide +kernel
theorem dX13_leaf_179 : decode cX13_leaf 179 = .ok (.iconst 0, 1) := by decide +kernel
theorem dX13_leaf_180 : decode cX13_leaf 180 = .ok (.invokevirtual 799, 3) := by decide +kernel
theorem dX13_leaf_183 : decode cX13_leaf 183 = .ok (.goto 6, 3) := by decide +kernel
theorem dX13_leaf_186 : decode cX13_leaf 186 = .ok (.ldc2_w 43, 3) := by decide +kernel
theorem dX13_leaf_189 : decode cX13_leaf 189 = .ok (.lreturn, 1) := by decide +kernel
theorem dX13_leaf_190 : decode cX13_leaf 190 = .ok (.aload_n 0, 1) := by decide +kernel
theorem dX13_leaf_191 : decode cX13_leaf 191 = .ok (.aload_n 0, 1) := by decide +kernel
theorem dX13_leaf_192 : decode cX13_leaf 192 = .ok (.getfield 188, 3) := by decide +kernel
theorem dX13_leaf_195 : decode cX13_leaf 195 = .ok (.iload_n 1, 1) := by decide +kernel
theorem dX13_leaf_196 : decode cX13_leaf 196 = .ok (.laload, 1) := by decide +kernel
theorem dX13_leaf_197 : decode cX13_leaf 197 = .ok (.aload_n 0, 1) := by decide +kernel
theorem dX13_leaf_198 : decode cX13_leaf 198 = .ok (.getfield 182, 3) := by decide +kernel
theorem dX13_leaf_201 : decode cX13_leaf 201 = .ok (.iload_n 1, 1) := by decide +kernel
theorem dX13_leaf_202 : decode cX13_leaf 202 = .ok (.iaload, 1) := by decide +kernel
theorem dX13_leaf_203 : decode cX13_leaf 203 = .ok (.aload_n 0, 1) := by decide +kernel
theorem dX13_leaf_204 : decode cX13_leaf 204 = .ok (.getfield 745, 3) := by decide +kernel
theorem dX13_leaf_207 : decode cX13_leaf 207 = .ok (.invokevirtual 664, 3) := by decide +kernel
theorem dX13_leaf_210 : decode cX13_leaf 210 = .ok (.aload_n 0, 1) := by decide +kernel
theorem dX13_leaf_211 : decode cX13_leaf 211 = .ok (.aload_n 0, 1) := by decide +kernel
theorem dX13_leaf_212 : decode cX13_leaf 212 = .ok (.getfield 197, 3) := by decide +kernel
theorem dX13_leaf_215 : decode cX13_leaf 215 = .ok (.iload_n 1, 1) := by decide +kernel
theorem dX13_leaf_216 : decode cX13_leaf 216 = .ok (.iaload, 1) := by decide +kernel
theorem dX13_leaf_217 : decode cX13_leaf 217 = .ok (.invokevirtual 796, 3) := by decide +kernel
theorem dX13_leaf_220 : decode cX13_leaf 220 = .ok (.aload_n 0, 1) := by decide +kernel
theorem dX13_leaf_221 : decode cX13_leaf 221 = .ok (.getfield 129, 3) := by decide +kernel
theorem dX13_leaf_224 : decode cX13_leaf 224 = .ok (.ifCond .ne 28, 3) := by decide +kernel
theorem dX13_leaf_227 : decode cX13_leaf 227 = .ok (.aload_n 0, 1) := by decide +kernel
theorem dX13_leaf_228 : decode cX13_leaf 228 = .ok (.iload_n 1, 1) := by decide +kernel
theorem dX13_leaf_229 : decode cX13_leaf 229 = .ok (.aload_n 0, 1) := by decide +kernel
theorem dX13_leaf_230 : decode cX13_leaf 230 = .ok (.aload_n 0, 1) := by decide +kernel
theorem dX13_leaf_231 : decode cX13_leaf 231 = .ok (.getfield 188, 3) := by decide +kernel
theorem dX13_leaf_234 : decode cX13_leaf 234 = .ok (.iload_n 1, 1) := by decide +kernel
theorem dX13_leaf_235 : decode cX13_leaf 235 = .ok (.laload, 1) := by decide +kernel
theorem dX13_leaf_236 : decode cX13_leaf 236 = .ok (.invokevirtual 551, 3) := by decide +kernel
theorem dX13_leaf_239 : decode cX13_leaf 239 = .ok (.aload_n 0, 1) := by decide +kernel
theorem dX13_leaf_240 : decode cX13_leaf 240 = .ok (.getfield 188, 3) := by decide +kernel
theorem dX13_leaf_243 : decode cX13_leaf 243 = .ok (.iload_n 1, 1) := by decide +kernel
theorem dX13_leaf_244 : decode cX13_leaf 244 = .ok (.laload, 1) := by decide +kernel
theorem dX13_leaf_245 : decode cX13_leaf 245 = .ok (.iconst 1, 1) := by decide +kernel
theorem dX13_leaf_246 : decode cX13_leaf 246 = .ok (.invokevirtual 799, 3) := by decide +kernel
theorem dX13_leaf_249 : decode cX13_leaf 249 = .ok (.goto 6, 3) := by decide +kernel
theorem dX13_leaf_252 : decode cX13_leaf 252 = .ok (.ldc2_w 43, 3) := by decide +kernel
theorem dX13_leaf_255 : decode cX13_leaf 255 = .ok (.lreturn, 1) := by decide +kernel
theorem dX13_leaf_256 : decode cX13_leaf 256 = .ok (.aload_n 0, 1) := by decide +kernel
theorem dX13_leaf_257 : decode cX13_leaf 257 = .ok (.iload_n 1, 1) := by decide +kernel
theorem dX13_leaf_258 : decode cX13_leaf 258 = .ok (.invokevirtual 815, 3) := by decide +kernel
theorem dX13_leaf_261 : decode cX13_leaf 261 = .ok (.lreturn, 1) := by decide +kernel
theorem dX13_leafOfMore_0 : decode cX13_leafOfMore 0 = .ok (.aload_n 0, 1) := by decide +kernel
theorem dX13_leafOfMore_1 : decode cX13_leafOfMore 1 = .ok (.getfield 173, 3) := by decide +kernel
theorem dX13_leafOfMore_4 : decode cX13_leafOfMore 4 = .ok (.iload_n 1, 1) := by decide +kernel
theorem dX13_leafOfMore_5 : decode cX13_leafOfMore 5 = .ok (.iaload, 1) := by decide +kernel
theorem dX13_leafOfMore_6 : decode cX13_leafOfMore 6 = .ok (.bipush 8, 2) := by decide +kernel
theorem dX13_leafOfMore_8 : decode cX13_leafOfMore 8 = .ok (.if_icmp .ne 62, 3) := by decide +kernel
theorem dX13_leafOfMore_11 : decode cX13_leafOfMore 11 = .ok (.aload_n 0, 1) := by decide +kernel
theorem dX13_leafOfMore_12 : decode cX13_leafOfMore 12 = .ok (.aload_n 0, 1) := by decide +kernel
theorem dX13_leafOfMore_13 : decode cX13_leafOfMore 13 = .ok (.getfield 197, 3) := by decide +kernel
theorem dX13_leafOfMore_16 : decode cX13_leafOfMore 16 = .ok (.iload_n 1, 1) := by decide +kernel
theorem dX13_leafOfMore_17 : decode cX13_leafOfMore 17 = .ok (.iaload, 1) := by decide +kernel
theorem dX13_leafOfMore_18 : decode cX13_leafOfMore 18 = .ok (.invokevirtual 796, 3) := by decide +kernel
theorem dX13_leafOfMore_21 : decode cX13_leafOfMore 21 = .ok (.aload_n 0, 1) := by decide +kernel
theorem dX13_leafOfMore_22 : decode cX13_leafOfMore 22 = .ok (.getfield 129, 3) := by decide +kernel
theorem dX13_leafOfMore_25 : decode cX13_leafOfMore 25 = .ok (.ifCond .ne 41, 3) := by decide +kernel
theorem dX13_leafOfMore_28 : decode cX13_leafOfMore 28 = .ok (.aload_n 0, 1) := by decide +kernel
theorem dX13_leafOfMore_29 : decode cX13_leafOfMore 29 = .ok (.iload_n 1, 1) := by decide +kernel
theorem dX13_leafOfMore_30 : decode cX13_leafOfMore 30 = .ok (.aload_n 0, 1) := by decide +kernel
theorem dX13_leafOfMore_31 : decode cX13_leafOfMore 31 = .ok (.aload_n 0, 1) := by decide +kernel
theorem dX13_leafOfMore_32 : decode cX13_leafOfMore 32 = .ok (.getfield 745, 3) := by decide +kernel
theorem dX13_leafOfMore_35 : decode cX13_leafOfMore 35 = .ok (.invokevirtual 548, 3) := by decide +kernel
theorem dX13_leafOfMore_38 : decode cX13_leafOfMore 38 = .ok (.ifCond .eq 8, 3) := by decide +kernel
theorem dX13_leafOfMore_41 : decode cX13_leafOfMore 41 = .ok (.bipush (-2), 2) := by decide +kernel
theorem dX13_leafOfMore_43 : decode cX13_leafOfMore 43 = .ok (.goto 11, 3) := by decide +kernel
theorem dX13_leafOfMore_46 : decode cX13_leafOfMore 46 = .ok (.aload_n 0, 1) := by decide +kernel
theorem dX13_leafOfMore_47 : decode cX13_leafOfMore 47 = .ok (.aload_n 0, 1) := by decide +kernel
theorem dX13_leafOfMore_48 : decode cX13_leafOfMore 48 = .ok (.getfield 745, 3) := by decide +kernel
theorem dX13_leafOfMore_51 : decode cX13_leafOfMore 51 = .ok (.invokevirtual 558, 3) := by decide +kernel
theorem dX13_leafOfMore_54 : decode cX13_leafOfMore 54 = .ok (.aload_n 0, 1) := by decide +kernel
theorem dX13_leafOfMore_55 : decode cX13_leafOfMore 55 = .ok (.getfield 176, 3) := by decide +kernel
theorem dX13_leafOfMore_58 : decode cX13_leafOfMore 58 = .ok (.iload_n 1, 1) := by decide +kernel
theorem dX13_leafOfMore_59 : decode cX13_leafOfMore 59 = .ok (.iaload, 1) := by decide +kernel
theorem dX13_leafOfMore_60 : decode cX13_leafOfMore 60 = .ok (.invokevirtual 818, 3) := by decide +kernel
theorem dX13_leafOfMore_63 : decode cX13_leafOfMore 63 = .ok (.goto 6, 3) := by decide +kernel
theorem dX13_leafOfMore_66 : decode cX13_leafOfMore 66 = .ok (.ldc2_w 43, 3) := by decide +kernel
theorem dX13_leafOfMore_69 : decode cX13_leafOfMore 69 = .ok (.lreturn, 1) := by decide +kernel
theorem dX13_leafOfMore_70 : decode cX13_leafOfMore 70 = .ok (.aload_n 0, 1) := by decide +kernel
theorem dX13_leafOfMore_71 : decode cX13_leafOfMore 71 = .ok (.aload_n 0, 1) := by decide +kernel
theorem dX13_leafOfMore_72 : decode cX13_leafOfMore 72 = .ok (.getfield 188, 3) := by decide +kernel
theorem dX13_leafOfMore_75 : decode cX13_leafOfMore 75 = .ok (.iload_n 1, 1) := by decide +kernel
theorem dX13_leafOfMore_76 : decode cX13_leafOfMore 76 = .ok (.laload, 1) := by decide +kernel
theorem dX13_leafOfMore_77 : decode cX13_leafOfMore 77 = .ok (.aload_n 0, 1) := by decide +kernel
theorem dX13_leafOfMore_78 : decode cX13_leafOfMore 78 = .ok (.getfield 182, 3) := by decide +kernel
theorem dX13_leafOfMore_81 : decode cX13_leafOfMore 81 = .ok (.iload_n 1, 1) := by decide +kernel
theorem dX13_leafOfMore_82 : decode cX13_leafOfMore 82 = .ok (.iaload, 1) := by decide +kernel
theorem dX13_leafOfMore_83 : decode cX13_leafOfMore 83 = .ok (.aload_n 0, 1) := by decide +kernel
theorem dX13_leafOfMore_84 : decode cX13_leafOfMore 84 = .ok (.getfield 745, 3) := by decide +kernel
theorem dX13_leafOfMore_87 : decode cX13_leafOfMore 87 = .ok (.invokevirtual 664, 3) := by decide +kernel
theorem dX13_leafOfMore_90 : decode cX13_leafOfMore 90 = .ok (.aload_n 0, 1) := by decide +kernel
theorem dX13_leafOfMore_91 : decode cX13_leafOfMore 91 = .ok (.getfield 173, 3) := by decide +kernel
theorem dX13_leafOfMore_94 : decode cX13_leafOfMore 94 = .ok (.iload_n 1, 1) := by decide +kernel
theorem dX13_leafOfMore_95 : decode cX13_leafOfMore 95 = .ok (.iaload, 1) := by decide +kernel
theorem dX13_leafOfMore_96 : decode cX13_leafOfMore 96 = .ok (.bipush 7, 2) := by decide +kernel
theorem dX13_leafOfMore_98 : decode cX13_leafOfMore 98 = .ok (.if_icmp .ne 88, 3) := by decide +kernel
theorem dX13_leafOfMore_101 : decode cX13_leafOfMore 101 = .ok (.aload_n 0, 1) := by decide +kernel
theorem dX13_leafOfMore_102 : decode cX13_leafOfMore 102 = .ok (.getfield 200, 3) := by decide +kernel
theorem dX13_leafOfMore_105 : decode cX13_leafOfMore 105 = .ok (.iload_n 1, 1) := by decide +kernel
theorem dX13_leafOfMore_106 : decode cX13_leafOfMore 106 = .ok (.iaload, 1) := by decide +kernel
theorem dX13_leafOfMore_107 : decode cX13_leafOfMore 107 = .ok (.istore_n 2, 1) := by decide +kernel
theorem dX13_leafOfMore_108 : decode cX13_leafOfMore 108 = .ok (.aload_n 0, 1) := by decide +kernel
theorem dX13_leafOfMore_109 : decode cX13_leafOfMore 109 = .ok (.aload_n 0, 1) := by decide +kernel
theorem dX13_leafOfMore_110 : decode cX13_leafOfMore 110 = .ok (.getfield 197, 3) := by decide +kernel
theorem dX13_leafOfMore_113 : decode cX13_leafOfMore 113 = .ok (.iload_n 1, 1) := by decide +kernel
theorem dX13_leafOfMore_114 : decode cX13_leafOfMore 114 = .ok (.iaload, 1) := by decide +kernel
theorem dX13_leafOfMore_115 : decode cX13_leafOfMore 115 = .ok (.invokevirtual 796, 3) := by decide +kernel
theorem dX13_leafOfMore_118 : decode cX13_leafOfMore 118 = .ok (.aload_n 0, 1) := by decide +kernel
theorem dX13_leafOfMore_119 : decode cX13_leafOfMore 119 = .ok (.getfield 288, 3) := by decide +kernel
theorem dX13_leafOfMore_122 : decode cX13_leafOfMore 122 = .ok (.iconst 4, 1) := by decide +kernel
theorem dX13_leafOfMore_123 : decode cX13_leafOfMore 123 = .ok (.aload_n 0, 1) := by decide +kernel
theorem dX13_leafOfMore_124 : decode cX13_leafOfMore 124 = .ok (.getfield 745, 3) := by decide +kernel
theorem dX13_leafOfMore_127 : decode cX13_leafOfMore 127 = .ok (.imul, 1) := by decide +kernel
theorem dX13_leafOfMore_128 : decode cX13_leafOfMore 128 = .ok (.aload_n 0, 1) := by decide +kernel
theorem dX13_leafOfMore_129 : decode cX13_leafOfMore 129 = .ok (.getfield 283, 3) := by decide +kernel
theorem dX13_leafOfMore_132 : decode cX13_leafOfMore 132 = .ok (.aload_n 0, 1) := by decide +kernel
theorem dX13_leafOfMore_133 : decode cX13_leafOfMore 133 = .ok (.getfield 745, 3) := by decide +kernel
theorem dX13_leafOfMore_136 : decode cX13_leafOfMore 136 = .ok (.iaload, 1) := by decide +kernel
theorem dX13_leafOfMore_137 : decode cX13_leafOfMore 137 = .ok (.aload_n 0, 1) := by decide +kernel
theorem dX13_leafOfMore_138 : decode cX13_leafOfMore 138 = .ok (.getfield 188, 3) := by decide +kernel
theorem dX13_leafOfMore_141 : decode cX13_leafOfMore 141 = .ok (.iload_n 1, 1) := by decide +kernel
theorem dX13_leafOfMore_142 : decode cX13_leafOfMore 142 = .ok (.laload, 1) := by decide +kernel
theorem dX13_leafOfMore_143 : decode cX13_leafOfMore 143 = .ok (.invokestatic 595, 3) := by decide +kernel
theorem dX13_leafOfMore_146 : decode cX13_leafOfMore 146 = .ok (.istore_n 3, 1) := by decide +kernel
theorem dX13_leafOfMore_147 : decode cX13_leafOfMore 147 = .ok (.aload_n 0, 1) := by decide +kernel
theorem dX13_leafOfMore_148 : decode cX13_leafOfMore 148 = .ok (.getfield 129, 3) := by decide +kernel
theorem dX13_leafOfMore_151 : decode cX13_leafOfMore 151 = .ok (.ifCond .ne 31, 3) := by decide +kernel
theorem dX13_leafOfMore_154 : decode cX13_leafOfMore 154 = .ok (.aload_n 0, 1) := by decide +kernel
theorem dX13_leafOfMore_155 : decode cX13_leafOfMore 155 = .ok (.iload_n 1, 1) := by decide +kernel
theorem dX13_leafOfMore_156 : decode cX13_leafOfMore 156 = .ok (.iload_n 3, 1) := by decide +kernel
theorem dX13_leafOfMore_157 : decode cX13_leafOfMore 157 = .ok (.ifCond .eq 16, 3) := by decide +kernel
theorem dX13_leafOfMore_160 : decode cX13_leafOfMore 160 = .ok (.aload_n 0, 1) := by decide +kernel
theorem dX13_leafOfMore_161 : decode cX13_leafOfMore 161 = .ok (.aload_n 0, 1) := by decide +kernel
theorem dX13_leafOfMore_162 : decode cX13_leafOfMore 162 = .ok (.getfield 188, 3) := by decide +kernel
theorem dX13_leafOfMore_165 : decode cX13_leafOfMore 165 = .ok (.iload_n 1, 1) := by decide +kernel
theorem dX13_leafOfMore_166 : decode cX13_leafOfMore 166 = .ok (.laload, 1) := by decide +kernel
theorem dX13_leafOfMore_167 : decode cX13_leafOfMore 167 = .ok (.invokevirtual 551, 3) := by decide +kernel
theorem dX13_leafOfMore_170 : decode cX13_leafOfMore 170 = .ok (.goto 5, 3) := by decide +kernel
theorem dX13_leafOfMore_173 : decode cX13_leafOfMore 173 = .ok (.bipush (-2), 2) := by decide +kernel
theorem dX13_leafOfMore_175 : decode cX13_leafOfMore 175 = .ok (.iload_n 2, 1) := by decide +kernel
theorem dX13_leafOfMore_176 : decode cX13_leafOfMore 176 = .ok (.invokevirtual 818, 3) := by decide +kernel
theorem dX13_leafOfMore_179 : decode cX13_leafOfMore 179 = .ok (.goto 6, 3) := by decide +kernel
theorem dX13_leafOfMore_182 : decode cX13_leafOfMore 182 = .ok (.ldc2_w 43, 3) := by decide +kernel
theorem dX13_leafOfMore_185 : decode cX13_leafOfMore 185 = .ok (.lreturn, 1) := by decide +kernel
theorem dX13_leafOfMore_186 : decode cX13_leafOfMore 186 = .ok (.aload_n 0, 1) := by decide +kernel
theorem dX13_leafOfMore_187 : decode cX13_leafOfMore 187 = .ok (.getfield 173, 3) := by decide +kernel
theorem dX13_leafOfMore_190 : decode cX13_leafOfMore 190 = .ok (.iload_n 1, 1) := by decide +kernel
theorem dX13_leafOfMore_191 : decode cX13_leafOfMore 191 = .ok (.iaload, 1) := by decide +kernel
theorem dX13_leafOfMore_192 : decode cX13_leafOfMore 192 = .ok (.bipush 9, 2) := by decide +kernel
theorem dX13_leafOfMore_194 : decode cX13_leafOfMore 194 = .ok (.if_icmp .ne 100, 3) := by decide +kernel
theorem dX13_leafOfMore_197 : decode cX13_leafOfMore 197 = .ok (.aload_n 0, 1) := by decide +kernel
theorem dX13_leafOfMore_198 : decode cX13_leafOfMore 198 = .ok (.aload_n 0, 1) := by decide +kernel
theorem dX13_leafOfMore_199 : decode cX13_leafOfMore 199 = .ok (.getfield 197, 3) := by decide +kernel
theorem dX13_leafOfMore_202 : decode cX13_leafOfMore 202 = .ok (.iload_n 1, 1) := by decide +kernel
theorem dX13_leafOfMore_203 : decode cX13_leafOfMore 203 = .ok (.iaload, 1) := by decide +kernel
theorem dX13_leafOfMore_204 : decode cX13_leafOfMore 204 = .ok (.invokevirtual 796, 3) := by decide +kernel
theorem dX13_leafOfMore_207 : decode cX13_leafOfMore 207 = .ok (.aload_n 0, 1) := by decide +kernel
theorem dX13_leafOfMore_208 : decode cX13_leafOfMore 208 = .ok (.getfield 129, 3) := by decide +kernel
theorem dX13_leafOfMore_211 : decode cX13_leafOfMore 211 = .ok (.ifCond .ne 76, 3) := by decide +kernel
theorem dX13_leafOfMore_214 : decode cX13_leafOfMore 214 = .ok (.aload_n 0, 1) := by decide +kernel
theorem dX13_leafOfMore_215 : decode cX13_leafOfMore 215 = .ok (.aload_n 0, 1) := by decide +kernel
theorem dX13_leafOfMore_216 : decode cX13_leafOfMore 216 = .ok (.getfield 188, 3) := by decide +kernel
theorem dX13_leafOfMore_219 : decode cX13_leafOfMore 219 = .ok (.iload_n 1, 1) := by decide +kernel
theorem dX13_leafOfMore_220 : decode cX13_leafOfMore 220 = .ok (.laload, 1) := by decide +kernel
theorem dX13_leafOfMore_221 : decode cX13_leafOfMore 221 = .ok (.invokevirtual 551, 3) := by decide +kernel
theorem dX13_leafOfMore_224 : decode cX13_leafOfMore 224 = .ok (.istore_n 2, 1) := by decide +kernel
theorem dX13_leafOfMore_225 : decode cX13_leafOfMore 225 = .ok (.aload_n 0, 1) := by decide +kernel
theorem dX13_leafOfMore_226 : decode cX13_leafOfMore 226 = .ok (.iload_n 2, 1) := by decide +kernel
theorem dX13_leafOfMore_227 : decode cX13_leafOfMore 227 = .ok (.invokevirtual 548, 3) := by decide +kernel
theorem dX13_leafOfMore_230 : decode cX13_leafOfMore 230 = .ok (.ifCond .ne 13, 3) := by decide +kernel
theorem dX13_leafOfMore_233 : decode cX13_leafOfMore 233 = .ok (.aload_n 0, 1) := by decide +kernel
theorem dX13_leafOfMore_234 : decode cX13_leafOfMore 234 = .ok (.getfield 266, 3) := by decide +kernel
theorem dX13_leafOfMore_237 : decode cX13_leafOfMore 237 = .ok (.iload_n 2, 1) := by decide +kernel
theorem dX13_leafOfMore_238 : decode cX13_leafOfMore 238 = .ok (.iaload, 1) := by decide +kernel
theorem dX13_leafOfMore_239 : decode cX13_leafOfMore 239 = .ok (.iconst 2, 1) := by decide +kernel
theorem dX13_leafOfMore_240 : decode cX13_leafOfMore 240 = .ok (.if_icmp .ne 8, 3) := by decide +kernel
theorem dX13_leafOfMore_243 : decode cX13_leafOfMore 243 = .ok (.bipush (-2), 2) := by decide +kernel
theorem dX13_leafOfMore_245 : decode cX13_leafOfMore 245 = .ok (.goto 14, 3) := by decide +kernel
theorem dX13_leafOfMore_248 : decode cX13_leafOfMore 248 = .ok (.aload_n 0, 1) := by decide +kernel
theorem dX13_leafOfMore_249 : decode cX13_leafOfMore 249 = .ok (.iload_n 2, 1) := by decide +kernel
theorem dX13_leafOfMore_250 : decode cX13_leafOfMore 250 = .ok (.aload_n 0, 1) := by decide +kernel
theorem dX13_leafOfMore_251 : decode cX13_leafOfMore 251 = .ok (.getfield 197, 3) := by decide +kernel
theorem dX13_leafOfMore_254 : decode cX13_leafOfMore 254 = .ok (.iload_n 1, 1) := by decide +kernel
theorem dX13_leafOfMore_255 : decode cX13_leafOfMore 255 = .ok (.iaload, 1) := by decide +kernel
theorem dX13_leafOfMore_256 : decode cX13_leafOfMore 256 = .ok (.invokevirtual 771, 3) := by decide +kernel
theorem dX13_leafOfMore_259 : decode cX13_leafOfMore 259 = .ok (.istore_n 3, 1) := by decide +kernel
theorem dX13_leafOfMore_260 : decode cX13_leafOfMore 260 = .ok (.iload_n 3, 1) := by decide +kernel
theorem dX13_leafOfMore_261 : decode cX13_leafOfMore 261 = .ok (.bipush (-2), 2) := by decide +kernel
theorem dX13_leafOfMore_263 : decode cX13_leafOfMore 263 = .ok (.if_icmp .ne 18, 3) := by decide +kernel
theorem dX13_leafOfMore_266 : decode cX13_leafOfMore 266 = .ok (.aload_n 0, 1) := by decide +kernel
theorem dX13_leafOfMore_267 : decode cX13_leafOfMore 267 = .ok (.bipush 18, 2) := by decide +kernel
theorem dX13_leafOfMore_269 : decode cX13_leafOfMore 269 = .ok (.aload_n 0, 1) := by decide +kernel
theorem dX13_leafOfMore_270 : decode cX13_leafOfMore 270 = .ok (.getfield 182, 3) := by decide +kernel
theorem dX13_leafOfMore_273 : decode cX13_leafOfMore 273 = .ok (.iload_n 1, 1) := by decide +kernel
theorem dX13_leafOfMore_274 : decode cX13_leafOfMore 274 = .ok (.iaload, 1) := by decide +kernel
theorem dX13_leafOfMore_275 : decode cX13_leafOfMore 275 = .ok (.invokevirtual 152, 3) := by decide +kernel
theorem dX13_leafOfMore_278 : decode cX13_leafOfMore 278 = .ok (.goto 9, 3) := by decide +kernel
theorem dX13_leafOfMore_281 : decode cX13_leafOfMore 281 = .ok (.aload_n 0, 1) := by decide +kernel
theorem dX13_leafOfMore_282 : decode cX13_leafOfMore 282 = .ok (.iload_n 1, 1) := by decide +kernel
theorem dX13_leafOfMore_283 : decode cX13_leafOfMore 283 = .ok (.iload_n 3, 1) := by decide +kernel
theorem dX13_leafOfMore_284 : decode cX13_leafOfMore 284 = .ok (.invokevirtual 822, 3) := by decide +kernel
theorem dX13_leafOfMore_287 : decode cX13_leafOfMore 287 = .ok (.aload_n 0, 1) := by decide +kernel
theorem dX13_leafOfMore_288 : decode cX13_leafOfMore 288 = .ok (.getfield 188, 3) := by decide +kernel
theorem dX13_leafOfMore_291 : decode cX13_leafOfMore 291 = .ok (.iload_n 1, 1) := by decide +kernel
theorem dX13_leafOfMore_292 : decode cX13_leafOfMore 292 = .ok (.laload, 1) := by decide +kernel
theorem dX13_leafOfMore_293 : decode cX13_leafOfMore 293 = .ok (.lreturn, 1) := by decide +kernel
theorem dX13_leafOfMore_294 : decode cX13_leafOfMore 294 = .ok (.aload_n 0, 1) := by decide +kernel
theorem dX13_leafOfMore_295 : decode cX13_leafOfMore 295 = .ok (.getfield 714, 3) := by decide +kernel
theorem dX13_leafOfMore_298 : decode cX13_leafOfMore 298 = .ok (.istore_n 2, 1) := by decide +kernel
theorem dX13_leafOfMore_299 : decode cX13_leafOfMore 299 = .ok (.aload_n 0, 1) := by decide +kernel
theorem dX13_leafOfMore_300 : decode cX13_leafOfMore 300 = .ok (.getfield 129, 3) := by decide +kernel
theorem dX13_leafOfMore_303 : decode cX13_leafOfMore 303 = .ok (.ifCond .ne 16, 3) := by decide +kernel
theorem dX13_leafOfMore_306 : decode cX13_leafOfMore 306 = .ok (.aload_n 0, 1) := by decide +kernel
theorem dX13_leafOfMore_307 : decode cX13_leafOfMore 307 = .ok (.aload_n 0, 1) := by decide +kernel
theorem dX13_leafOfMore_308 : decode cX13_leafOfMore 308 = .ok (.getfield 194, 3) := by decide +kernel
theorem dX13_leafOfMore_311 : decode cX13_leafOfMore 311 = .ok (.iload_n 1, 1) := by decide +kernel
theorem dX13_leafOfMore_312 : decode cX13_leafOfMore 312 = .ok (.iaload, 1) := by decide +kernel
theorem dX13_leafOfMore_313 : decode cX13_leafOfMore 313 = .ok (.invokevirtual 757, 3) := by decide +kernel
theorem dX13_leafOfMore_316 : decode cX13_leafOfMore 316 = .ok (.goto 6, 3) := by decide +kernel
theorem dX13_leafOfMore_319 : decode cX13_leafOfMore 319 = .ok (.ldc2_w 43, 3) := by decide +kernel
theorem dX13_leafOfMore_322 : decode cX13_leafOfMore 322 = .ok (.lstore_n 3, 1) := by decide +kernel
theorem dX13_leafOfMore_323 : decode cX13_leafOfMore 323 = .ok (.aload_n 0, 1) := by decide +kernel
theorem dX13_leafOfMore_324 : decode cX13_leafOfMore 324 = .ok (.iload_n 2, 1) := by decide +kernel
theorem dX13_leafOfMore_325 : decode cX13_leafOfMore 325 = .ok (.putfield 714, 3) := by decide +kernel
theorem dX13_leafOfMore_328 : decode cX13_leafOfMore 328 = .ok (.aload_n 0, 1) := by decide +kernel
theorem dX13_leafOfMore_329 : decode cX13_leafOfMore 329 = .ok (.getfield 129, 3) := by decide +kernel
theorem dX13_leafOfMore_332 : decode cX13_leafOfMore 332 = .ok (.ifCond .ne 27, 3) := by decide +kernel
theorem dX13_leafOfMore_335 : decode cX13_leafOfMore 335 = .ok (.lload_n 3, 1) := by decide +kernel
theorem dX13_leafOfMore_336 : decode cX13_leafOfMore 336 = .ok (.invokestatic 803, 3) := by decide +kernel
theorem dX13_leafOfMore_339 : decode cX13_leafOfMore 339 = .ok (.ifCond .ne 20, 3) := by decide +kernel
theorem dX13_leafOfMore_342 : decode cX13_leafOfMore 342 = .ok (.aload_n 0, 1) := by decide +kernel
theorem dX13_leafOfMore_343 : decode cX13_leafOfMore 343 = .ok (.bipush 13, 2) := by decide +kernel
theorem dX13_leafOfMore_345 : decode cX13_leafOfMore 345 = .ok (.aload_n 0, 1) := by decide +kernel
theorem dX13_leafOfMore_346 : decode cX13_leafOfMore 346 = .ok (.getfield 176, 3) := by decide +kernel
theorem dX13_leafOfMore_349 : decode cX13_leafOfMore 349 = .ok (.aload_n 0, 1) := by decide +kernel
theorem dX13_leafOfMore_350 : decode cX13_leafOfMore 350 = .ok (.getfield 194, 3) := by decide +kernel
theorem dX13_leafOfMore_353 : decode cX13_leafOfMore 353 = .ok (.iload_n 1, 1) := by decide +kernel
theorem dX13_leafOfMore_354 : decode cX13_leafOfMore 354 = .ok (.iaload, 1) := by decide +kernel
theorem dX13_leafOfMore_355 : decode cX13_leafOfMore 355 = .ok (.iaload, 1) := by decide +kernel
theorem dX13_leafOfMore_356 : decode cX13_leafOfMore 356 = .ok (.invokevirtual 152, 3) := by decide +kernel
theorem dX13_leafOfMore_359 : decode cX13_leafOfMore 359 = .ok (.aload_n 0, 1) := by decide +kernel
theorem dX13_leafOfMore_360 : decode cX13_leafOfMore 360 = .ok (.getfield 188, 3) := by decide +kernel
theorem dX13_leafOfMore_363 : decode cX13_leafOfMore 363 = .ok (.iload_n 1, 1) := by decide +kernel
theorem dX13_leafOfMore_364 : decode cX13_leafOfMore 364 = .ok (.laload, 1) := by decide +kernel
theorem dX13_leafOfMore_365 : decode cX13_leafOfMore 365 = .ok (.lreturn, 1) := by decide +kernel
theorem dX13_nameAlone_0 : decode cX13_nameAlone 0 = .ok (.iconst 0, 1) := by decide +kernel
theorem dX13_nameAlone_1 : decode cX13_nameAlone 1 = .ok (.istore_n 2, 1) := by decide +kernel
theorem dX13_nameAlone_2 : decode cX13_nameAlone 2 = .ok (.iload_n 2, 1) := by decide +kernel
theorem dX13_nameAlone_3 : decode cX13_nameAlone 3 = .ok (.aload_n 0, 1) := by decide +kernel
theorem dX13_nameAlone_4 : decode cX13_nameAlone 4 = .ok (.getfield 754, 3) := by decide +kernel
theorem dX13_nameAlone_7 : decode cX13_nameAlone 7 = .ok (.if_icmp .ge 51, 3) := by decide +kernel
theorem dX13_nameAlone_10 : decode cX13_nameAlone 10 = .ok (.aload_n 0, 1) := by decide +kernel
theorem dX13_nameAlone_11 : decode cX13_nameAlone 11 = .ok (.getfield 780, 3) := by decide +kernel
theorem dX13_nameAlone_14 : decode cX13_nameAlone 14 = .ok (.iload_n 2, 1) := by decide +kernel
theorem dX13_nameAlone_15 : decode cX13_nameAlone 15 = .ok (.laload, 1) := by decide +kernel
theorem dX13_nameAlone_16 : decode cX13_nameAlone 16 = .ok (.aload_n 0, 1) := by decide +kernel
theorem dX13_nameAlone_17 : decode cX13_nameAlone 17 = .ok (.getfield 185, 3) := by decide +kernel
theorem dX13_nameAlone_20 : decode cX13_nameAlone 20 = .ok (.iload_n 1, 1) := by decide +kernel
theorem dX13_nameAlone_21 : decode cX13_nameAlone 21 = .ok (.laload, 1) := by decide +kernel
theorem dX13_nameAlone_22 : decode cX13_nameAlone 22 = .ok (.lcmp, 1) := by decide +kernel
theorem dX13_nameAlone_23 : decode cX13_nameAlone 23 = .ok (.ifCond .ne 29, 3) := by decide +kernel
theorem dX13_nameAlone_26 : decode cX13_nameAlone 26 = .ok (.aload_n 0, 1) := by decide +kernel
theorem dX13_nameAlone_27 : decode cX13_nameAlone 27 = .ok (.getfield 209, 3) := by decide +kernel
theorem dX13_nameAlone_30 : decode cX13_nameAlone 30 = .ok (.iload_n 1, 1) := by decide +kernel
theorem dX13_nameAlone_31 : decode cX13_nameAlone 31 = .ok (.iload_n 2, 1) := by decide +kernel
theorem dX13_nameAlone_32 : decode cX13_nameAlone 32 = .ok (.iastore, 1) := by decide +kernel
theorem dX13_nameAlone_33 : decode cX13_nameAlone 33 = .ok (.aload_n 0, 1) := by decide +kernel
theorem dX13_nameAlone_34 : decode cX13_nameAlone 34 = .ok (.getfield 215, 3) := by decide +kernel
theorem dX13_nameAlone_37 : decode cX13_nameAlone 37 = .ok (.iload_n 1, 1) := by decide +kernel
theorem dX13_nameAlone_38 : decode cX13_nameAlone 38 = .ok (.aload_n 0, 1) := by decide +kernel
theorem dX13_nameAlone_39 : decode cX13_nameAlone 39 = .ok (.getfield 783, 3) := by decide +kernel
theorem dX13_nameAlone_42 : decode cX13_nameAlone 42 = .ok (.iload_n 2, 1) := by decide +kernel
theorem dX13_nameAlone_43 : decode cX13_nameAlone 43 = .ok (.laload, 1) := by decide +kernel
theorem dX13_nameAlone_44 : decode cX13_nameAlone 44 = .ok (.lastore, 1) := by decide +kernel
theorem dX13_nameAlone_45 : decode cX13_nameAlone 45 = .ok (.aload_n 0, 1) := by decide +kernel
theorem dX13_nameAlone_46 : decode cX13_nameAlone 46 = .ok (.getfield 783, 3) := by decide +kernel
theorem dX13_nameAlone_49 : decode cX13_nameAlone 49 = .ok (.iload_n 2, 1) := by decide +kernel
theorem dX13_nameAlone_50 : decode cX13_nameAlone 50 = .ok (.laload, 1) := by decide +kernel
theorem dX13_nameAlone_51 : decode cX13_nameAlone 51 = .ok (.lreturn, 1) := by decide +kernel
theorem dX13_nameAlone_52 : decode cX13_nameAlone 52 = .ok (.iinc 2 1, 3) := by decide +kernel
theorem dX13_nameAlone_55 : decode cX13_nameAlone 55 = .ok (.goto (-53), 3) := by decide +kernel
theorem dX13_nameAlone_58 : decode cX13_nameAlone 58 = .ok (.aload_n 0, 1) := by decide +kernel
theorem dX13_nameAlone_59 : decode cX13_nameAlone 59 = .ok (.iload_n 1, 1) := by decide +kernel
theorem dX13_nameAlone_60 : decode cX13_nameAlone 60 = .ok (.aload_n 0, 1) := by decide +kernel
theorem dX13_nameAlone_61 : decode cX13_nameAlone 61 = .ok (.getfield 745, 3) := by decide +kernel
theorem dX13_nameAlone_64 : decode cX13_nameAlone 64 = .ok (.aload_n 0, 1) := by decide +kernel
theorem dX13_nameAlone_65 : decode cX13_nameAlone 65 = .ok (.getfield 256, 3) := by decide +kernel
theorem dX13_nameAlone_68 : decode cX13_nameAlone 68 = .ok (.aload_n 0, 1) := by decide +kernel
theorem dX13_nameAlone_69 : decode cX13_nameAlone 69 = .ok (.getfield 745, 3) := by decide +kernel
theorem dX13_nameAlone_72 : decode cX13_nameAlone 72 = .ok (.laload, 1) := by decide +kernel
theorem dX13_nameAlone_73 : decode cX13_nameAlone 73 = .ok (.iconst 0, 1) := by decide +kernel
theorem dX13_nameAlone_74 : decode cX13_nameAlone 74 = .ok (.invokevirtual 809, 3) := by decide +kernel
theorem dX13_nameAlone_77 : decode cX13_nameAlone 77 = .ok (.lreturn, 1) := by decide +kernel
theorem dX13_keepParams_0 : decode cX13_keepParams 0 = .ok (.aload_n 0, 1) := by decide +kernel
theorem dX13_keepParams_1 : decode cX13_keepParams 1 = .ok (.getfield 218, 3) := by decide +kernel
theorem dX13_keepParams_4 : decode cX13_keepParams 4 = .ok (.iload_n 1, 1) := by decide +kernel
theorem dX13_keepParams_5 : decode cX13_keepParams 5 = .ok (.aload_n 0, 1) := by decide +kernel
theorem dX13_keepParams_6 : decode cX13_keepParams 6 = .ok (.getfield 362, 3) := by decide +kernel
theorem dX13_keepParams_9 : decode cX13_keepParams 9 = .ok (.iload_n 2, 1) := by decide +kernel
theorem dX13_keepParams_10 : decode cX13_keepParams 10 = .ok (.iaload, 1) := by decide +kernel
theorem dX13_keepParams_11 : decode cX13_keepParams 11 = .ok (.iastore, 1) := by decide +kernel
theorem dX13_keepParams_12 : decode cX13_keepParams 12 = .ok (.iconst 0, 1) := by decide +kernel
theorem dX13_keepParams_13 : decode cX13_keepParams 13 = .ok (.istore_n 3, 1) := by decide +kernel
theorem dX13_keepParams_14 : decode cX13_keepParams 14 = .ok (.iload_n 3, 1) := by decide +kernel
theorem dX13_keepParams_15 : decode cX13_keepParams 15 = .ok (.aload_n 0, 1) := by decide +kernel
theorem dX13_keepParams_16 : decode cX13_keepParams 16 = .ok (.getfield 362, 3) := by decide +kernel
theorem dX13_keepParams_19 : decode cX13_keepParams 19 = .ok (.iload_n 2, 1) := by decide +kernel
theorem dX13_keepParams_20 : decode cX13_keepParams 20 = .ok (.iaload, 1) := by decide +kernel
theorem dX13_keepParams_21 : decode cX13_keepParams 21 = .ok (.if_icmp .ge 29, 3) := by decide +kernel
theorem dX13_keepParams_24 : decode cX13_keepParams 24 = .ok (.aload_n 0, 1) := by decide +kernel
theorem dX13_keepParams_25 : decode cX13_keepParams 25 = .ok (.getfield 825, 3) := by decide +kernel
theorem dX13_keepParams_28 : decode cX13_keepParams 28 = .ok (.iconst 4, 1) := by decide +kernel
theorem dX13_keepParams_29 : decode cX13_keepParams 29 = .ok (.iload_n 1, 1) := by decide +kernel
theorem dX13_keepParams_30 : decode cX13_keepParams 30 = .ok (.imul, 1) := by decide +kernel
theorem dX13_keepParams_31 : decode cX13_keepParams 31 = .ok (.iload_n 3, 1) := by decide +kernel
theorem dX13_keepParams_32 : decode cX13_keepParams 32 = .ok (.iadd, 1) := by decide +kernel
theorem dX13_keepParams_33 : decode cX13_keepParams 33 = .ok (.aload_n 0, 1) := by decide +kernel
theorem dX13_keepParams_34 : decode cX13_keepParams 34 = .ok (.getfield 442, 3) := by decide +kernel
theorem dX13_keepParams_37 : decode cX13_keepParams 37 = .ok (.iconst 4, 1) := by decide +kernel
theorem dX13_keepParams_38 : decode cX13_keepParams 38 = .ok (.iload_n 2, 1) := by decide +kernel
theorem dX13_keepParams_39 : decode cX13_keepParams 39 = .ok (.imul, 1) := by decide +kernel
theorem dX13_keepParams_40 : decode cX13_keepParams 40 = .ok (.iload_n 3, 1) := by decide +kernel
theorem dX13_keepParams_41 : decode cX13_keepParams 41 = .ok (.iadd, 1) := by decide +kernel
theorem dX13_keepParams_42 : decode cX13_keepParams 42 = .ok (.laload, 1) := by decide +kernel
theorem dX13_keepParams_43 : decode cX13_keepParams 43 = .ok (.lastore, 1) := by decide +kernel
theorem dX13_keepParams_44 : decode cX13_keepParams 44 = .ok (.iinc 3 1, 3) := by decide +kernel
theorem dX13_keepParams_47 : decode cX13_keepParams 47 = .ok (.goto (-33), 3) := by decide +kernel
theorem dX13_keepParams_50 : decode cX13_keepParams 50 = .ok (.return_, 1) := by decide +kernel
theorem dX13_call_0 : decode cX13_call 0 = .ok (.iload_n 2, 1) := by decide +kernel
theorem dX13_call_1 : decode cX13_call 1 = .ok (.bipush (-2), 2) := by decide +kernel
theorem dX13_call_3 : decode cX13_call 3 = .ok (.if_icmp .ne 8, 3) := by decide +kernel
theorem dX13_call_6 : decode cX13_call 6 = .ok (.bipush (-2), 2) := by decide +kernel
theorem dX13_call_8 : decode cX13_call 8 = .ok (.goto 20, 3) := by decide +kernel
theorem dX13_call_11 : decode cX13_call 11 = .ok (.aload_n 0, 1) := by decide +kernel
theorem dX13_call_12 : decode cX13_call 12 = .ok (.iload_n 2, 1) := by decide +kernel
theorem dX13_call_13 : decode cX13_call 13 = .ok (.aload_n 0, 1) := by decide +kernel
theorem dX13_call_14 : decode cX13_call 14 = .ok (.getfield 185, 3) := by decide +kernel
theorem dX13_call_17 : decode cX13_call 17 = .ok (.iload_n 1, 1) := by decide +kernel
theorem dX13_call_18 : decode cX13_call 18 = .ok (.laload, 1) := by decide +kernel
theorem dX13_call_19 : decode cX13_call 19 = .ok (.aload_n 0, 1) := by decide +kernel
theorem dX13_call_20 : decode cX13_call 20 = .ok (.getfield 197, 3) := by decide +kernel
theorem dX13_call_23 : decode cX13_call 23 = .ok (.iload_n 1, 1) := by decide +kernel
theorem dX13_call_24 : decode cX13_call 24 = .ok (.iaload, 1) := by decide +kernel
theorem dX13_call_25 : decode cX13_call 25 = .ok (.invokevirtual 828, 3) := by decide +kernel
theorem dX13_call_28 : decode cX13_call 28 = .ok (.istore 6, 2) := by decide +kernel
theorem dX13_call_30 : decode cX13_call 30 = .ok (.iload 6, 2) := by decide +kernel
theorem dX13_call_32 : decode cX13_call 32 = .ok (.bipush (-2), 2) := by decide +kernel
theorem dX13_call_34 : decode cX13_call 34 = .ok (.if_icmp .ne 19, 3) := by decide +kernel
theorem dX13_call_37 : decode cX13_call 37 = .ok (.aload_n 0, 1) := by decide +kernel
theorem dX13_call_38 : decode cX13_call 38 = .ok (.bipush 12, 2) := by decide +kernel
theorem dX13_call_40 : decode cX13_call 40 = .ok (.aload_n 0, 1) := by decide +kernel
theorem dX13_call_41 : decode cX13_call 41 = .ok (.getfield 179, 3) := by decide +kernel
theorem dX13_call_44 : decode cX13_call 44 = .ok (.iload_n 1, 1) := by decide +kernel
theorem dX13_call_45 : decode cX13_call 45 = .ok (.iaload, 1) := by decide +kernel
theorem dX13_call_46 : decode cX13_call 46 = .ok (.invokevirtual 152, 3) := by decide +kernel
theorem dX13_call_49 : decode cX13_call 49 = .ok (.ldc2_w 43, 3) := by decide +kernel
theorem dX13_call_52 : decode cX13_call 52 = .ok (.lreturn, 1) := by decide +kernel
theorem dX13_call_53 : decode cX13_call 53 = .ok (.aload_n 0, 1) := by decide +kernel
theorem dX13_call_54 : decode cX13_call 54 = .ok (.getfield 173, 3) := by decide +kernel
theorem dX13_call_57 : decode cX13_call 57 = .ok (.iload_n 1, 1) := by decide +kernel
theorem dX13_call_58 : decode cX13_call 58 = .ok (.iaload, 1) := by decide +kernel
theorem dX13_call_59 : decode cX13_call 59 = .ok (.iconst 4, 1) := by decide +kernel
theorem dX13_call_60 : decode cX13_call 60 = .ok (.if_icmp .ne 23, 3) := by decide +kernel
theorem dX13_call_63 : decode cX13_call 63 = .ok (.aload_n 0, 1) := by decide +kernel
theorem dX13_call_64 : decode cX13_call 64 = .ok (.getfield 751, 3) := by decide +kernel
theorem dX13_call_67 : decode cX13_call 67 = .ok (.ifCond .eq 40, 3) := by decide +kernel
theorem dX13_call_70 : decode cX13_call 70 = .ok (.aload_n 0, 1) := by decide +kernel
theorem dX13_call_71 : decode cX13_call 71 = .ok (.getfield 341, 3) := by decide +kernel
theorem dX13_call_74 : decode cX13_call 74 = .ok (.iload 6, 2) := by decide +kernel
theorem dX13_call_76 : decode cX13_call 76 = .ok (.baload, 1) := by decide +kernel
theorem dX13_call_77 : decode cX13_call 77 = .ok (.ifCond .ne 30, 3) := by decide +kernel
theorem dX13_call_80 : decode cX13_call 80 = .ok (.goto 15, 3) := by decide +kernel
theorem dX13_call_83 : decode cX13_call 83 = .ok (.aload_n 0, 1) := by decide +kernel
theorem dX13_call_84 : decode cX13_call 84 = .ok (.getfield 341, 3) := by decide +kernel
theorem dX13_call_87 : decode cX13_call 87 = .ok (.iload 6, 2) := by decide +kernel
theorem dX13_call_89 : decode cX13_call 89 = .ok (.baload, 1) := by decide +kernel
theorem dX13_call_90 : decode cX13_call 90 = .ok (.iload 5, 2) := by decide +kernel
theorem dX13_call_92 : decode cX13_call 92 = .ok (.if_icmp .eq 15, 3) := by decide +kernel
theorem dX13_call_95 : decode cX13_call 95 = .ok (.aload_n 0, 1) := by decide +kernel
theorem dX13_call_96 : decode cX13_call 96 = .ok (.bipush 14, 2) := by decide +kernel
theorem dX13_call_98 : decode cX13_call 98 = .ok (.aload_n 0, 1) := by decide +kernel
theorem dX13_call_99 : decode cX13_call 99 = .ok (.getfield 179, 3) := by decide +kernel
theorem dX13_call_102 : decode cX13_call 102 = .ok (.iload_n 1, 1) := by decide +kernel
theorem dX13_call_103 : decode cX13_call 103 = .ok (.iaload, 1) := by decide +kernel
theorem dX13_call_104 : decode cX13_call 104 = .ok (.invokevirtual 152, 3) := by decide +kernel
theorem dX13_call_107 : decode cX13_call 107 = .ok (.aload_n 0, 1) := by decide +kernel
theorem dX13_call_108 : decode cX13_call 108 = .ok (.iload_n 1, 1) := by decide +kernel
theorem dX13_call_109 : decode cX13_call 109 = .ok (.iload 6, 2) := by decide +kernel
theorem dX13_call_111 : decode cX13_call 111 = .ok (.lload_n 3, 1) := by decide +kernel
theorem dX13_call_112 : decode cX13_call 112 = .ok (.invokevirtual 832, 3) := by decide +kernel
theorem dX13_call_115 : decode cX13_call 115 = .ok (.lreturn, 1) := by decide +kernel
theorem dX13_means_0 : decode cX13_means 0 = .ok (.aload_n 0, 1) := by decide +kernel
theorem dX13_means_1 : decode cX13_means 1 = .ok (.getfield 209, 3) := by decide +kernel
theorem dX13_means_4 : decode cX13_means 4 = .ok (.iload_n 1, 1) := by decide +kernel
theorem dX13_means_5 : decode cX13_means 5 = .ok (.aload_n 0, 1) := by decide +kernel
theorem dX13_means_6 : decode cX13_means 6 = .ok (.getfield 341, 3) := by decide +kernel
theorem dX13_means_9 : decode cX13_means 9 = .ok (.iload_n 2, 1) := by decide +kernel
theorem dX13_means_10 : decode cX13_means 10 = .ok (.baload, 1) := by decide +kernel
theorem dX13_means_11 : decode cX13_means 11 = .ok (.ifCond .eq 7, 3) := by decide +kernel
theorem dX13_means_14 : decode cX13_means 14 = .ok (.iconst 1, 1) := by decide +kernel
theorem dX13_means_15 : decode cX13_means 15 = .ok (.goto 4, 3) := by decide +kernel
theorem dX13_means_18 : decode cX13_means 18 = .ok (.iconst 0, 1) := by decide +kernel
theorem dX13_means_19 : decode cX13_means 19 = .ok (.iastore, 1) := by decide +kernel
theorem dX13_means_20 : decode cX13_means 20 = .ok (.aload_n 0, 1) := by decide +kernel
theorem dX13_means_21 : decode cX13_means 21 = .ok (.getfield 212, 3) := by decide +kernel
theorem dX13_means_24 : decode cX13_means 24 = .ok (.iload_n 1, 1) := by decide +kernel
theorem dX13_means_25 : decode cX13_means 25 = .ok (.lload_n 3, 1) := by decide +kernel
theorem dX13_means_26 : decode cX13_means 26 = .ok (.lastore, 1) := by decide +kernel
theorem dX13_means_27 : decode cX13_means 27 = .ok (.aload_n 0, 1) := by decide +kernel
theorem dX13_means_28 : decode cX13_means 28 = .ok (.getfield 215, 3) := by decide +kernel
theorem dX13_means_31 : decode cX13_means 31 = .ok (.iload_n 1, 1) := by decide +kernel
theorem dX13_means_32 : decode cX13_means 32 = .ok (.aload_n 0, 1) := by decide +kernel
theorem dX13_means_33 : decode cX13_means 33 = .ok (.getfield 359, 3) := by decide +kernel
theorem dX13_means_36 : decode cX13_means 36 = .ok (.iload_n 2, 1) := by decide +kernel
theorem dX13_means_37 : decode cX13_means 37 = .ok (.laload, 1) := by decide +kernel
theorem dX13_means_38 : decode cX13_means 38 = .ok (.lastore, 1) := by decide +kernel
theorem dX13_means_39 : decode cX13_means 39 = .ok (.aload_n 0, 1) := by decide +kernel
theorem dX13_means_40 : decode cX13_means 40 = .ok (.iload_n 1, 1) := by decide +kernel
theorem dX13_means_41 : decode cX13_means 41 = .ok (.iload_n 2, 1) := by decide +kernel
theorem dX13_means_42 : decode cX13_means 42 = .ok (.invokevirtual 822, 3) := by decide +kernel
theorem dX13_means_45 : decode cX13_means 45 = .ok (.aload_n 0, 1) := by decide +kernel
theorem dX13_means_46 : decode cX13_means 46 = .ok (.getfield 359, 3) := by decide +kernel
theorem dX13_means_49 : decode cX13_means 49 = .ok (.iload_n 2, 1) := by decide +kernel
theorem dX13_means_50 : decode cX13_means 50 = .ok (.laload, 1) := by decide +kernel
theorem dX13_means_51 : decode cX13_means 51 = .ok (.lreturn, 1) := by decide +kernel
theorem dX13_superCall_0 : decode cX13_superCall 0 = .ok (.iload_n 2, 1) := by decide +kernel
theorem dX13_superCall_1 : decode cX13_superCall 1 = .ok (.bipush (-2), 2) := by decide +kernel
theorem dX13_superCall_3 : decode cX13_superCall 3 = .ok (.if_icmp .ne 8, 3) := by decide +kernel
theorem dX13_superCall_6 : decode cX13_superCall 6 = .ok (.bipush (-2), 2) := by decide +kernel
theorem dX13_superCall_8 : decode cX13_superCall 8 = .ok (.goto 20, 3) := by decide +kernel
theorem dX13_superCall_11 : decode cX13_superCall 11 = .ok (.aload_n 0, 1) := by decide +kernel
theorem dX13_superCall_12 : decode cX13_superCall 12 = .ok (.iload_n 2, 1) := by decide +kernel
theorem dX13_superCall_13 : decode cX13_superCall 13 = .ok (.aload_n 0, 1) := by decide +kernel
theorem dX13_superCall_14 : decode cX13_superCall 14 = .ok (.getfield 185, 3) := by decide +kernel
theorem dX13_superCall_17 : decode cX13_superCall 17 = .ok (.iload_n 1, 1) := by decide +kernel
theorem dX13_superCall_18 : decode cX13_superCall 18 = .ok (.laload, 1) := by decide +kernel
theorem dX13_superCall_19 : decode cX13_superCall 19 = .ok (.aload_n 0, 1) := by decide +kernel
theorem dX13_superCall_20 : decode cX13_superCall 20 = .ok (.getfield 197, 3) := by decide +kernel
theorem dX13_superCall_23 : decode cX13_superCall 23 = .ok (.iload_n 1, 1) := by decide +kernel
theorem dX13_superCall_24 : decode cX13_superCall 24 = .ok (.iaload, 1) := by decide +kernel
theorem dX13_superCall_25 : decode cX13_superCall 25 = .ok (.invokevirtual 828, 3) := by decide +kernel
theorem dX13_superCall_28 : decode cX13_superCall 28 = .ok (.istore 4, 2) := by decide +kernel
theorem dX13_superCall_30 : decode cX13_superCall 30 = .ok (.iload 4, 2) := by decide +kernel
theorem dX13_superCall_32 : decode cX13_superCall 32 = .ok (.bipush (-2), 2) := by decide +kernel
theorem dX13_superCall_34 : decode cX13_superCall 34 = .ok (.if_icmp .eq 13, 3) := by decide +kernel
theorem dX13_superCall_37 : decode cX13_superCall 37 = .ok (.aload_n 0, 1) := by decide +kernel
theorem dX13_superCall_38 : decode cX13_superCall 38 = .ok (.getfield 436, 3) := by decide +kernel
theorem dX13_superCall_41 : decode cX13_superCall 41 = .ok (.iload 4, 2) := by decide +kernel
theorem dX13_superCall_43 : decode cX13_superCall 43 = .ok (.baload, 1) := by decide +kernel
theorem dX13_superCall_44 : decode cX13_superCall 44 = .ok (.ifCond .eq 19, 3) := by decide +kernel
theorem dX13_superCall_47 : decode cX13_superCall 47 = .ok (.aload_n 0, 1) := by decide +kernel
theorem dX13_superCall_48 : decode cX13_superCall 48 = .ok (.bipush 12, 2) := by decide +kernel
theorem dX13_superCall_50 : decode cX13_superCall 50 = .ok (.aload_n 0, 1) := by decide +kernel
theorem dX13_superCall_51 : decode cX13_superCall 51 = .ok (.getfield 179, 3) := by decide +kernel
theorem dX13_superCall_54 : decode cX13_superCall 54 = .ok (.iload_n 1, 1) := by decide +kernel
theorem dX13_superCall_55 : decode cX13_superCall 55 = .ok (.iaload, 1) := by decide +kernel
theorem dX13_superCall_56 : decode cX13_superCall 56 = .ok (.invokevirtual 152, 3) := by decide +kernel
theorem dX13_superCall_59 : decode cX13_superCall 59 = .ok (.ldc2_w 43, 3) := by decide +kernel
theorem dX13_superCall_62 : decode cX13_superCall 62 = .ok (.lreturn, 1) := by decide +kernel
theorem dX13_superCall_63 : decode cX13_superCall 63 = .ok (.aload_n 0, 1) := by decide +kernel
theorem dX13_superCall_64 : decode cX13_superCall 64 = .ok (.getfield 751, 3) := by decide +kernel
theorem dX13_superCall_67 : decode cX13_superCall 67 = .ok (.ifCond .eq 13, 3) := by decide +kernel
theorem dX13_superCall_70 : decode cX13_superCall 70 = .ok (.aload_n 0, 1) := by decide +kernel
theorem dX13_superCall_71 : decode cX13_superCall 71 = .ok (.bipush 14, 2) := by decide +kernel
theorem dX13_superCall_73 : decode cX13_superCall 73 = .ok (.iload_n 3, 1) := by decide +kernel
theorem dX13_superCall_74 : decode cX13_superCall 74 = .ok (.invokevirtual 152, 3) := by decide +kernel
theorem dX13_superCall_77 : decode cX13_superCall 77 = .ok (.goto 25, 3) := by decide +kernel
theorem dX13_superCall_80 : decode cX13_superCall 80 = .ok (.aload_n 0, 1) := by decide +kernel
theorem dX13_superCall_81 : decode cX13_superCall 81 = .ok (.getfield 341, 3) := by decide +kernel
theorem dX13_superCall_84 : decode cX13_superCall 84 = .ok (.iload 4, 2) := by decide +kernel
theorem dX13_superCall_86 : decode cX13_superCall 86 = .ok (.baload, 1) := by decide +kernel
theorem dX13_superCall_87 : decode cX13_superCall 87 = .ok (.ifCond .eq 15, 3) := by decide +kernel
theorem dX13_superCall_90 : decode cX13_superCall 90 = .ok (.aload_n 0, 1) := by decide +kernel
theorem dX13_superCall_91 : decode cX13_superCall 91 = .ok (.bipush 14, 2) := by decide +kernel
theorem dX13_superCall_93 : decode cX13_superCall 93 = .ok (.aload_n 0, 1) := by decide +kernel
theorem dX13_superCall_94 : decode cX13_superCall 94 = .ok (.getfield 179, 3) := by decide +kernel
theorem dX13_superCall_97 : decode cX13_superCall 97 = .ok (.iload_n 1, 1) := by decide +kernel
theorem dX13_superCall_98 : decode cX13_superCall 98 = .ok (.iaload, 1) := by decide +kernel
theorem dX13_superCall_99 : decode cX13_superCall 99 = .ok (.invokevirtual 152, 3) := by decide +kernel
theorem dX13_superCall_102 : decode cX13_superCall 102 = .ok (.aload_n 0, 1) := by decide +kernel
theorem dX13_superCall_103 : decode cX13_superCall 103 = .ok (.iload_n 1, 1) := by decide +kernel
theorem dX13_superCall_104 : decode cX13_superCall 104 = .ok (.iload 4, 2) := by decide +kernel
theorem dX13_superCall_106 : decode cX13_superCall 106 = .ok (.aload_n 0, 1) := by decide +kernel
theorem dX13_superCall_107 : decode cX13_superCall 107 = .ok (.getfield 256, 3) := by decide +kernel
theorem dX13_superCall_110 : decode cX13_superCall 110 = .ok (.iload_n 2, 1) := by decide +kernel
theorem dX13_superCall_111 : decode cX13_superCall 111 = .ok (.laload, 1) := by decide +kernel
theorem dX13_superCall_112 : decode cX13_superCall 112 = .ok (.invokevirtual 832, 3) := by decide +kernel
theorem dX13_superCall_115 : decode cX13_superCall 115 = .ok (.lreturn, 1) := by decide +kernel
theorem dX13_takesArgs_0 : decode cX13_takesArgs 0 = .ok (.iconst 0, 1) := by decide +kernel
theorem dX13_takesArgs_1 : decode cX13_takesArgs 1 = .ok (.istore_n 3, 1) := by decide +kernel
theorem dX13_takesArgs_2 : decode cX13_takesArgs 2 = .ok (.iconst 1, 1) := by decide +kernel
theorem dX13_takesArgs_3 : decode cX13_takesArgs 3 = .ok (.istore 4, 2) := by decide +kernel
theorem dX13_takesArgs_5 : decode cX13_takesArgs 5 = .ok (.iload_n 2, 1) := by decide +kernel
theorem dX13_takesArgs_6 : decode cX13_takesArgs 6 = .ok (.istore 5, 2) := by decide +kernel
theorem dX13_takesArgs_8 : decode cX13_takesArgs 8 = .ok (.iload 5, 2) := by decide +kernel
theorem dX13_takesArgs_10 : decode cX13_takesArgs 10 = .ok (.bipush (-2), 2) := by decide +kernel
theorem dX13_takesArgs_12 : decode cX13_takesArgs 12 = .ok (.if_icmp .eq 73, 3) := by decide +kernel
theorem dX13_takesArgs_15 : decode cX13_takesArgs 15 = .ok (.iload 4, 2) := by decide +kernel
theorem dX13_takesArgs_17 : decode cX13_takesArgs 17 = .ok (.ifCond .eq 50, 3) := by decide +kernel
theorem dX13_takesArgs_20 : decode cX13_takesArgs 20 = .ok (.iload_n 3, 1) := by decide +kernel
theorem dX13_takesArgs_21 : decode cX13_takesArgs 21 = .ok (.aload_n 0, 1) := by decide +kernel
theorem dX13_takesArgs_22 : decode cX13_takesArgs 22 = .ok (.getfield 362, 3) := by decide +kernel
theorem dX13_takesArgs_25 : decode cX13_takesArgs 25 = .ok (.iload_n 1, 1) := by decide +kernel
theorem dX13_takesArgs_26 : decode cX13_takesArgs 26 = .ok (.iaload, 1) := by decide +kernel
theorem dX13_takesArgs_27 : decode cX13_takesArgs 27 = .ok (.if_icmp .ge 40, 3) := by decide +kernel
theorem dX13_takesArgs_30 : decode cX13_takesArgs 30 = .ok (.aload_n 0, 1) := by decide +kernel
theorem dX13_takesArgs_31 : decode cX13_takesArgs 31 = .ok (.aload_n 0, 1) := by decide +kernel
theorem dX13_takesArgs_32 : decode cX13_takesArgs 32 = .ok (.getfield 191, 3) := by decide +kernel
theorem dX13_takesArgs_35 : decode cX13_takesArgs 35 = .ok (.iload 5, 2) := by decide +kernel
theorem dX13_takesArgs_37 : decode cX13_takesArgs 37 = .ok (.laload, 1) := by decide +kernel
theorem dX13_takesArgs_38 : decode cX13_takesArgs 38 = .ok (.aload_n 0, 1) := by decide +kernel
theorem dX13_takesArgs_39 : decode cX13_takesArgs 39 = .ok (.getfield 442, 3) := by decide +kernel
theorem dX13_takesArgs_42 : decode cX13_takesArgs 42 = .ok (.iconst 4, 1) := by decide +kernel
theorem dX13_takesArgs_43 : decode cX13_takesArgs 43 = .ok (.iload_n 1, 1) := by decide +kernel
theorem dX13_takesArgs_44 : decode cX13_takesArgs 44 = .ok (.imul, 1) := by decide +kernel
theorem dX13_takesArgs_45 : decode cX13_takesArgs 45 = .ok (.iload_n 3, 1) := by decide +kernel
theorem dX13_takesArgs_46 : decode cX13_takesArgs 46 = .ok (.iconst 4, 1) := by decide +kernel
theorem dX13_takesArgs_47 : decode cX13_takesArgs 47 = .ok (.if_icmp .ge 7, 3) := by decide +kernel
theorem dX13_takesArgs_50 : decode cX13_takesArgs 50 = .ok (.iload_n 3, 1) := by decide +kernel
theorem dX13_takesArgs_51 : decode cX13_takesArgs 51 = .ok (.goto 4, 3) := by decide +kernel
theorem dX13_takesArgs_54 : decode cX13_takesArgs 54 = .ok (.iconst 3, 1) := by decide +kernel
theorem dX13_takesArgs_55 : decode cX13_takesArgs 55 = .ok (.iadd, 1) := by decide +kernel
theorem dX13_takesArgs_56 : decode cX13_takesArgs 56 = .ok (.laload, 1) := by decide +kernel
theorem dX13_takesArgs_57 : decode cX13_takesArgs 57 = .ok (.invokevirtual 690, 3) := by decide +kernel
theorem dX13_takesArgs_60 : decode cX13_takesArgs 60 = .ok (.ifCond .eq 7, 3) := by decide +kernel
theorem dX13_takesArgs_63 : decode cX13_takesArgs 63 = .ok (.iconst 1, 1) := by decide +kernel
theorem dX13_takesArgs_64 : decode cX13_takesArgs 64 = .ok (.goto 4, 3) := by decide +kernel
theorem dX13_takesArgs_67 : decode cX13_takesArgs 67 = .ok (.iconst 0, 1) := by decide +kernel
theorem dX13_takesArgs_68 : decode cX13_takesArgs 68 = .ok (.istore 4, 2) := by decide +kernel
theorem dX13_takesArgs_70 : decode cX13_takesArgs 70 = .ok (.iinc 3 1, 3) := by decide +kernel
theorem dX13_takesArgs_73 : decode cX13_takesArgs 73 = .ok (.aload_n 0, 1) := by decide +kernel
theorem dX13_takesArgs_74 : decode cX13_takesArgs 74 = .ok (.getfield 203, 3) := by decide +kernel
theorem dX13_takesArgs_77 : decode cX13_takesArgs 77 = .ok (.iload 5, 2) := by decide +kernel
theorem dX13_takesArgs_79 : decode cX13_takesArgs 79 = .ok (.iaload, 1) := by decide +kernel
theorem dX13_takesArgs_80 : decode cX13_takesArgs 80 = .ok (.istore 5, 2) := by decide +kernel
theorem dX13_takesArgs_82 : decode cX13_takesArgs 82 = .ok (.goto (-74), 3) := by decide +kernel
theorem dX13_takesArgs_85 : decode cX13_takesArgs 85 = .ok (.iload 4, 2) := by decide +kernel
theorem dX13_takesArgs_87 : decode cX13_takesArgs 87 = .ok (.ifCond .eq 17, 3) := by decide +kernel
theorem dX13_takesArgs_90 : decode cX13_takesArgs 90 = .ok (.iload_n 3, 1) := by decide +kernel
theorem dX13_takesArgs_91 : decode cX13_takesArgs 91 = .ok (.aload_n 0, 1) := by decide +kernel
theorem dX13_takesArgs_92 : decode cX13_takesArgs 92 = .ok (.getfield 362, 3) := by decide +kernel
theorem dX13_takesArgs_95 : decode cX13_takesArgs 95 = .ok (.iload_n 1, 1) := by decide +kernel
theorem dX13_takesArgs_96 : decode cX13_takesArgs 96 = .ok (.iaload, 1) := by decide +kernel
theorem dX13_takesArgs_97 : decode cX13_takesArgs 97 = .ok (.if_icmp .ne 7, 3) := by decide +kernel
theorem dX13_takesArgs_100 : decode cX13_takesArgs 100 = .ok (.iconst 1, 1) := by decide +kernel
theorem dX13_takesArgs_101 : decode cX13_takesArgs 101 = .ok (.goto 4, 3) := by decide +kernel
theorem dX13_takesArgs_104 : decode cX13_takesArgs 104 = .ok (.iconst 0, 1) := by decide +kernel
theorem dX13_takesArgs_105 : decode cX13_takesArgs 105 = .ok (.ireturn, 1) := by decide +kernel
theorem dX13_candidatesIn_0 : decode cX13_candidatesIn 0 = .ok (.iconst 0, 1) := by decide +kernel
theorem dX13_candidatesIn_1 : decode cX13_candidatesIn 1 = .ok (.istore 6, 2) := by decide +kernel
theorem dX13_candidatesIn_3 : decode cX13_candidatesIn 3 = .ok (.iload 6, 2) := by decide +kernel
theorem dX13_candidatesIn_5 : decode cX13_candidatesIn 5 = .ok (.aload_n 0, 1) := by decide +kernel
theorem dX13_candidatesIn_6 : decode cX13_candidatesIn 6 = .ok (.getfield 275, 3) := by decide +kernel
theorem dX13_candidatesIn_9 : decode cX13_candidatesIn 9 = .ok (.iload_n 1, 1) := by decide +kernel
theorem dX13_candidatesIn_10 : decode cX13_candidatesIn 10 = .ok (.iaload, 1) := by decide +kernel
theorem dX13_candidatesIn_11 : decode cX13_candidatesIn 11 = .ok (.if_icmp .ge 196, 3) := by decide +kernel
theorem dX13_candidatesIn_14 : decode cX13_candidatesIn 14 = .ok (.iload_n 1, 1) := by decide +kernel
theorem dX13_candidatesIn_15 : decode cX13_candidatesIn 15 = .ok (.bipush 34, 2) := by decide +kernel
theorem dX13_candidatesIn_17 : decode cX13_candidatesIn 17 = .ok (.imul, 1) := by decide +kernel
theorem dX13_candidatesIn_18 : decode cX13_candidatesIn 18 = .ok (.iload 6, 2) := by decide +kernel
theorem dX13_candidatesIn_20 : decode cX13_candidatesIn 20 = .ok (.iadd, 1) := by decide +kernel
theorem dX13_candidatesIn_21 : decode cX13_candidatesIn 21 = .ok (.istore 7, 2) := by decide +kernel
theorem dX13_candidatesIn_23 : decode cX13_candidatesIn 23 = .ok (.aload_n 0, 1) := by decide +kernel
theorem dX13_candidatesIn_24 : decode cX13_candidatesIn 24 = .ok (.getfield 402, 3) := by decide +kernel
theorem dX13_candidatesIn_27 : decode cX13_candidatesIn 27 = .ok (.iload 7, 2) := by decide +kernel
theorem dX13_candidatesIn_29 : decode cX13_candidatesIn 29 = .ok (.iaload, 1) := by decide +kernel
theorem dX13_candidatesIn_30 : decode cX13_candidatesIn 30 = .ok (.lload_n 3, 1) := by decide +kernel
theorem dX13_candidatesIn_31 : decode cX13_candidatesIn 31 = .ok (.lconst 0, 1) := by decide +kernel
theorem dX13_candidatesIn_32 : decode cX13_candidatesIn 32 = .ok (.lcmp, 1) := by decide +kernel
theorem dX13_candidatesIn_33 : decode cX13_candidatesIn 33 = .ok (.ifCond .ne 7, 3) := by decide +kernel
theorem dX13_candidatesIn_36 : decode cX13_candidatesIn 36 = .ok (.iconst 2, 1) := by decide +kernel
theorem dX13_candidatesIn_37 : decode cX13_candidatesIn 37 = .ok (.goto 4, 3) := by decide +kernel
theorem dX13_candidatesIn_40 : decode cX13_candidatesIn 40 = .ok (.iconst 1, 1) := by decide +kernel
theorem dX13_candidatesIn_41 : decode cX13_candidatesIn 41 = .ok (.if_icmp .ne 52, 3) := by decide +kernel
theorem dX13_candidatesIn_44 : decode cX13_candidatesIn 44 = .ok (.aload_n 0, 1) := by decide +kernel
theorem dX13_candidatesIn_45 : decode cX13_candidatesIn 45 = .ok (.getfield 356, 3) := by decide +kernel
theorem dX13_candidatesIn_48 : decode cX13_candidatesIn 48 = .ok (.iload 7, 2) := by decide +kernel
theorem dX13_candidatesIn_50 : decode cX13_candidatesIn 50 = .ok (.laload, 1) := by decide +kernel
theorem dX13_candidatesIn_51 : decode cX13_candidatesIn 51 = .ok (.lload_n 3, 1) := by decide +kernel
theorem dX13_candidatesIn_52 : decode cX13_candidatesIn 52 = .ok (.lcmp, 1) := by decide +kernel
theorem dX13_candidatesIn_53 : decode cX13_candidatesIn 53 = .ok (.ifCond .ne 40, 3) := by decide +kernel
theorem dX13_candidatesIn_56 : decode cX13_candidatesIn 56 = .ok (.aload_n 0, 1) := by decide +kernel
theorem dX13_candidatesIn_57 : decode cX13_candidatesIn 57 = .ok (.getfield 350, 3) := by decide +kernel
theorem dX13_candidatesIn_60 : decode cX13_candidatesIn 60 = .ok (.iload 7, 2) := by decide +kernel
theorem dX13_candidatesIn_62 : decode cX13_candidatesIn 62 = .ok (.baload, 1) := by decide +kernel
theorem dX13_candidatesIn_63 : decode cX13_candidatesIn 63 = .ok (.ifCond .ne 30, 3) := by decide +kernel
theorem dX13_candidatesIn_66 : decode cX13_candidatesIn 66 = .ok (.aload_n 0, 1) := by decide +kernel
theorem dX13_candidatesIn_67 : decode cX13_candidatesIn 67 = .ok (.getfield 341, 3) := by decide +kernel
theorem dX13_candidatesIn_70 : decode cX13_candidatesIn 70 = .ok (.iload 7, 2) := by decide +kernel
theorem dX13_candidatesIn_72 : decode cX13_candidatesIn 72 = .ok (.baload, 1) := by decide +kernel
theorem dX13_candidatesIn_73 : decode cX13_candidatesIn 73 = .ok (.ifCond .eq 16, 3) := by decide +kernel
theorem dX13_candidatesIn_76 : decode cX13_candidatesIn 76 = .ok (.aload_n 0, 1) := by decide +kernel
theorem dX13_candidatesIn_77 : decode cX13_candidatesIn 77 = .ok (.iload_n 1, 1) := by decide +kernel
theorem dX13_candidatesIn_78 : decode cX13_candidatesIn 78 = .ok (.invokevirtual 548, 3) := by decide +kernel
theorem dX13_candidatesIn_81 : decode cX13_candidatesIn 81 = .ok (.ifCond .eq 8, 3) := by decide +kernel
theorem dX13_candidatesIn_84 : decode cX13_candidatesIn 84 = .ok (.iload_n 1, 1) := by decide +kernel
theorem dX13_candidatesIn_85 : decode cX13_candidatesIn 85 = .ok (.iload_n 2, 1) := by decide +kernel
theorem dX13_candidatesIn_86 : decode cX13_candidatesIn 86 = .ok (.if_icmp .ne 7, 3) := by decide +kernel
theorem dX13_candidatesIn_89 : decode cX13_candidatesIn 89 = .ok (.iconst 1, 1) := by decide +kernel
theorem dX13_candidatesIn_90 : decode cX13_candidatesIn 90 = .ok (.goto 4, 3) := by decide +kernel
theorem dX13_candidatesIn_93 : decode cX13_candidatesIn 93 = .ok (.iconst 0, 1) := by decide +kernel
theorem dX13_candidatesIn_94 : decode cX13_candidatesIn 94 = .ok (.istore 8, 2) := by decide +kernel
theorem dX13_candidatesIn_96 : decode cX13_candidatesIn 96 = .ok (.iload 8, 2) := by decide +kernel
theorem dX13_candidatesIn_98 : decode cX13_candidatesIn 98 = .ok (.ifCond .eq 103, 3) := by decide +kernel
theorem dX13_candidatesIn_101 : decode cX13_candidatesIn 101 = .ok (.aload_n 0, 1) := by decide +kernel
theorem dX13_candidatesIn_102 : decode cX13_candidatesIn 102 = .ok (.iload 7, 2) := by decide +kernel
theorem dX13_candidatesIn_104 : decode cX13_candidatesIn 104 = .ok (.iload 5, 2) := by decide +kernel
theorem dX13_candidatesIn_106 : decode cX13_candidatesIn 106 = .ok (.invokevirtual 835, 3) := by decide +kernel
theorem dX13_candidatesIn_109 : decode cX13_candidatesIn 109 = .ok (.ifCond .eq 92, 3) := by decide +kernel
theorem dX13_candidatesIn_112 : decode cX13_candidatesIn 112 = .ok (.aload_n 0, 1) := by decide +kernel
theorem dX13_candidatesIn_113 : decode cX13_candidatesIn 113 = .ok (.iload 7, 2) := by decide +kernel
theorem dX13_candidatesIn_115 : decode cX13_candidatesIn 115 = .ok (.iload_n 2, 1) := by decide +kernel
theorem dX13_candidatesIn_116 : decode cX13_candidatesIn 116 = .ok (.aload_n 0, 1) := by decide +kernel
theorem dX13_candidatesIn_117 : decode cX13_candidatesIn 117 = .ok (.getfield 745, 3) := by decide +kernel
theorem dX13_candidatesIn_120 : decode cX13_candidatesIn 120 = .ok (.invokevirtual 739, 3) := by decide +kernel
theorem dX13_candidatesIn_123 : decode cX13_candidatesIn 123 = .ok (.ifCond .eq 78, 3) := by decide +kernel
theorem dX13_candidatesIn_126 : decode cX13_candidatesIn 126 = .ok (.iconst 0, 1) := by decide +kernel
theorem dX13_candidatesIn_127 : decode cX13_candidatesIn 127 = .ok (.istore 9, 2) := by decide +kernel
theorem dX13_candidatesIn_129 : decode cX13_candidatesIn 129 = .ok (.iconst 0, 1) := by decide +kernel
theorem dX13_candidatesIn_130 : decode cX13_candidatesIn 130 = .ok (.istore 10, 2) := by decide +kernel
theorem dX13_candidatesIn_132 : decode cX13_candidatesIn 132 = .ok (.iload 10, 2) := by decide +kernel
theorem dX13_candidatesIn_134 : decode cX13_candidatesIn 134 = .ok (.aload_n 0, 1) := by decide +kernel
theorem dX13_candidatesIn_135 : decode cX13_candidatesIn 135 = .ok (.getfield 838, 3) := by decide +kernel
theorem dX13_candidatesIn_138 : decode cX13_candidatesIn 138 = .ok (.if_icmp .ge 37, 3) := by decide +kernel
theorem dX13_candidatesIn_141 : decode cX13_candidatesIn 141 = .ok (.iload 9, 2) := by decide +kernel
theorem dX13_candidatesIn_143 : decode cX13_candidatesIn 143 = .ok (.ifCond .ne 19, 3) := by decide +kernel
theorem dX13_candidatesIn_146 : decode cX13_candidatesIn 146 = .ok (.aload_n 0, 1) := by decide +kernel
theorem dX13_candidatesIn_147 : decode cX13_candidatesIn 147 = .ok (.aload_n 0, 1) := by decide +kernel
theorem dX13_candidatesIn_148 : decode cX13_candidatesIn 148 = .ok (.getfield 841, 3) := by decide +kernel
theorem dX13_candidatesIn_151 : decode cX13_candidatesIn 151 = .ok (.iload 10, 2) := by decide +kernel
theorem dX13_candidatesIn_153 : decode cX13_candidatesIn 153 = .ok (.iaload, 1) := by decide +kernel
theorem dX13_candidatesIn_154 : decode cX13_candidatesIn 154 = .ok (.iload 7, 2) := by decide +kernel
theorem dX13_candidatesIn_156 : decode cX13_candidatesIn 156 = .ok (.invokevirtual 618, 3) := by decide +kernel
theorem dX13_candidatesIn_159 : decode cX13_candidatesIn 159 = .ok (.ifCond .eq 7, 3) := by decide +kernel
theorem dX13_candidatesIn_162 : decode cX13_candidatesIn 162 = .ok (.iconst 1, 1) := by decide +kernel
theorem dX13_candidatesIn_163 : decode cX13_candidatesIn 163 = .ok (.goto 4, 3) := by decide +kernel
theorem dX13_candidatesIn_166 : decode cX13_candidatesIn 166 = .ok (.iconst 0, 1) := by decide +kernel
theorem dX13_candidatesIn_167 : decode cX13_candidatesIn 167 = .ok (.istore 9, 2) := by decide +kernel
theorem dX13_candidatesIn_169 : decode cX13_candidatesIn 169 = .ok (.iinc 10 1, 3) := by decide +kernel
theorem dX13_candidatesIn_172 : decode cX13_candidatesIn 172 = .ok (.goto (-40), 3) := by decide +kernel
theorem dX13_candidatesIn_175 : decode cX13_candidatesIn 175 = .ok (.iload 9, 2) := by decide +kernel
theorem dX13_candidatesIn_177 : decode cX13_candidatesIn 177 = .ok (.ifCond .ne 24, 3) := by decide +kernel
theorem dX13_candidatesIn_180 : decode cX13_candidatesIn 180 = .ok (.aload_n 0, 1) := by decide +kernel
theorem dX13_candidatesIn_181 : decode cX13_candidatesIn 181 = .ok (.getfield 841, 3) := by decide +kernel
theorem dX13_candidatesIn_184 : decode cX13_candidatesIn 184 = .ok (.aload_n 0, 1) := by decide +kernel
theorem dX13_candidatesIn_185 : decode cX13_candidatesIn 185 = .ok (.getfield 838, 3) := by decide +kernel
theorem dX13_candidatesIn_188 : decode cX13_candidatesIn 188 = .ok (.iload 7, 2) := by decide +kernel
theorem dX13_candidatesIn_190 : decode cX13_candidatesIn 190 = .ok (.iastore, 1) := by decide +kernel
theorem dX13_candidatesIn_191 : decode cX13_candidatesIn 191 = .ok (.aload_n 0, 1) := by decide +kernel
theorem dX13_candidatesIn_192 : decode cX13_candidatesIn 192 = .ok (.dup, 1) := by decide +kernel
theorem dX13_candidatesIn_193 : decode cX13_candidatesIn 193 = .ok (.getfield 838, 3) := by decide +kernel
theorem dX13_candidatesIn_196 : decode cX13_candidatesIn 196 = .ok (.iconst 1, 1) := by decide +kernel
theorem dX13_candidatesIn_197 : decode cX13_candidatesIn 197 = .ok (.iadd, 1) := by decide +kernel
theorem dX13_candidatesIn_198 : decode cX13_candidatesIn 198 = .ok (.putfield 838, 3) := by decide +kernel
theorem dX13_candidatesIn_201 : decode cX13_candidatesIn 201 = .ok (.iinc 6 1, 3) := by decide +kernel
theorem dX13_candidatesIn_204 : decode cX13_candidatesIn 204 = .ok (.goto (-201), 3) := by decide +kernel
theorem dX13_candidatesIn_207 : decode cX13_candidatesIn 207 = .ok (.return_, 1) := by decide +kernel
theorem dX13_meant_0 : decode cX13_meant 0 = .ok (.aload_n 0, 1) := by decide +kernel
theorem dX13_meant_1 : decode cX13_meant 1 = .ok (.iconst 0, 1) := by decide +kernel
theorem dX13_meant_2 : decode cX13_meant 2 = .ok (.putfield 838, 3) := by decide +kernel
theorem dX13_meant_5 : decode cX13_meant 5 = .ok (.aload_n 0, 1) := by decide +kernel
theorem dX13_meant_6 : decode cX13_meant 6 = .ok (.iload_n 1, 1) := by decide +kernel
theorem dX13_meant_7 : decode cX13_meant 7 = .ok (.aload_n 0, 1) := by decide +kernel
theorem dX13_meant_8 : decode cX13_meant 8 = .ok (.getfield 844, 3) := by decide +kernel
theorem dX13_meant_11 : decode cX13_meant 11 = .ok (.invokevirtual 677, 3) := by decide +kernel
theorem dX13_meant_14 : decode cX13_meant 14 = .ok (.istore 5, 2) := by decide +kernel
theorem dX13_meant_16 : decode cX13_meant 16 = .ok (.iconst 0, 1) := by decide +kernel
theorem dX13_meant_17 : decode cX13_meant 17 = .ok (.istore 6, 2) := by decide +kernel
theorem dX13_meant_19 : decode cX13_meant 19 = .ok (.iload 6, 2) := by decide +kernel
theorem dX13_meant_21 : decode cX13_meant 21 = .ok (.iload 5, 2) := by decide +kernel
theorem dX13_meant_23 : decode cX13_meant 23 = .ok (.if_icmp .ge 24, 3) := by decide +kernel
theorem dX13_meant_26 : decode cX13_meant 26 = .ok (.aload_n 0, 1) := by decide +kernel
theorem dX13_meant_27 : decode cX13_meant 27 = .ok (.aload_n 0, 1) := by decide +kernel
theorem dX13_meant_28 : decode cX13_meant 28 = .ok (.getfield 844, 3) := by decide +kernel
theorem dX13_meant_31 : decode cX13_meant 31 = .ok (.iload 6, 2) := by decide +kernel
theorem dX13_meant_33 : decode cX13_meant 33 = .ok (.iaload, 1) := by decide +kernel
theorem dX13_meant_34 : decode cX13_meant 34 = .ok (.iload_n 1, 1) := by decide +kernel
theorem dX13_meant_35 : decode cX13_meant 35 = .ok (.lload_n 2, 1) := by decide +kernel
theorem dX13_meant_36 : decode cX13_meant 36 = .ok (.iload 4, 2) := by decide +kernel
theorem dX13_meant_38 : decode cX13_meant 38 = .ok (.invokevirtual 847, 3) := by decide +kernel
theorem dX13_meant_41 : decode cX13_meant 41 = .ok (.iinc 6 1, 3) := by decide +kernel
theorem dX13_meant_44 : decode cX13_meant 44 = .ok (.goto (-25), 3) := by decide +kernel
theorem dX13_meant_47 : decode cX13_meant 47 = .ok (.aload_n 0, 1) := by decide +kernel
theorem dX13_meant_48 : decode cX13_meant 48 = .ok (.iload_n 1, 1) := by decide +kernel
theorem dX13_meant_49 : decode cX13_meant 49 = .ok (.aload_n 0, 1) := by decide +kernel
theorem dX13_meant_50 : decode cX13_meant 50 = .ok (.getfield 844, 3) := by decide +kernel
theorem dX13_meant_53 : decode cX13_meant 53 = .ok (.invokevirtual 633, 3) := by decide +kernel
theorem dX13_meant_56 : decode cX13_meant 56 = .ok (.istore 6, 2) := by decide +kernel
theorem dX13_meant_58 : decode cX13_meant 58 = .ok (.iconst 0, 1) := by decide +kernel
theorem dX13_meant_59 : decode cX13_meant 59 = .ok (.istore 7, 2) := by decide +kernel
theorem dX13_meant_61 : decode cX13_meant 61 = .ok (.iload 7, 2) := by decide +kernel
theorem dX13_meant_63 : decode cX13_meant 63 = .ok (.iload 6, 2) := by decide +kernel
theorem dX13_meant_65 : decode cX13_meant 65 = .ok (.if_icmp .ge 24, 3) := by decide +kernel
theorem dX13_meant_68 : decode cX13_meant 68 = .ok (.aload_n 0, 1) := by decide +kernel
theorem dX13_meant_69 : decode cX13_meant 69 = .ok (.aload_n 0, 1) := by decide +kernel
theorem dX13_meant_70 : decode cX13_meant 70 = .ok (.getfield 844, 3) := by decide +kernel
theorem dX13_meant_73 : decode cX13_meant 73 = .ok (.iload 7, 2) := by decide +kernel
theorem dX13_meant_75 : decode cX13_meant 75 = .ok (.iaload, 1) := by decide +kernel
theorem dX13_meant_76 : decode cX13_meant 76 = .ok (.iload_n 1, 1) := by decide +kernel
theorem dX13_meant_77 : decode cX13_meant 77 = .ok (.lload_n 2, 1) := by decide +kernel
theorem dX13_meant_78 : decode cX13_meant 78 = .ok (.iload 4, 2) := by decide +kernel
theorem dX13_meant_80 : decode cX13_meant 80 = .ok (.invokevirtual 847, 3) := by decide +kernel
theorem dX13_meant_83 : decode cX13_meant 83 = .ok (.iinc 7 1, 3) := by decide +kernel
theorem dX13_meant_86 : decode cX13_meant 86 = .ok (.goto (-25), 3) := by decide +kernel
theorem dX13_meant_89 : decode cX13_meant 89 = .ok (.aload_n 0, 1) := by decide +kernel
theorem dX13_meant_90 : decode cX13_meant 90 = .ok (.invokevirtual 851, 3) := by decide +kernel
theorem dX13_meant_93 : decode cX13_meant 93 = .ok (.ireturn, 1) := by decide +kernel
theorem dX13_meantMaker_0 : decode cX13_meantMaker 0 = .ok (.aload_n 0, 1) := by decide +kernel
theorem dX13_meantMaker_1 : decode cX13_meantMaker 1 = .ok (.iconst 0, 1) := by decide +kernel
theorem dX13_meantMaker_2 : decode cX13_meantMaker 2 = .ok (.putfield 838, 3) := by decide +kernel
theorem dX13_meantMaker_5 : decode cX13_meantMaker 5 = .ok (.aload_n 0, 1) := by decide +kernel
theorem dX13_meantMaker_6 : decode cX13_meantMaker 6 = .ok (.iload_n 1, 1) := by decide +kernel
theorem dX13_meantMaker_7 : decode cX13_meantMaker 7 = .ok (.iload_n 1, 1) := by decide +kernel
theorem dX13_meantMaker_8 : decode cX13_meantMaker 8 = .ok (.lconst 0, 1) := by decide +kernel
theorem dX13_meantMaker_9 : decode cX13_meantMaker 9 = .ok (.iload_n 2, 1) := by decide +kernel
theorem dX13_meantMaker_10 : decode cX13_meantMaker 10 = .ok (.invokevirtual 847, 3) := by decide +kernel
theorem dX13_meantMaker_13 : decode cX13_meantMaker 13 = .ok (.aload_n 0, 1) := by decide +kernel
theorem dX13_meantMaker_14 : decode cX13_meantMaker 14 = .ok (.invokevirtual 851, 3) := by decide +kernel
theorem dX13_meantMaker_17 : decode cX13_meantMaker 17 = .ok (.ireturn, 1) := by decide +kernel
theorem dX13_best_0 : decode cX13_best 0 = .ok (.iconst 0, 1) := by decide +kernel
theorem dX13_best_1 : decode cX13_best 1 = .ok (.istore_n 1, 1) := by decide +kernel
theorem dX13_best_2 : decode cX13_best 2 = .ok (.iload_n 1, 1) := by decide +kernel
theorem dX13_best_3 : decode cX13_best 3 = .ok (.aload_n 0, 1) := by decide +kernel
theorem dX13_best_4 : decode cX13_best 4 = .ok (.getfield 838, 3) := by decide +kernel
theorem dX13_best_7 : decode cX13_best 7 = .ok (.if_icmp .ge 108, 3) := by decide +kernel
theorem dX13_best_10 : decode cX13_best 10 = .ok (.iconst 1, 1) := by decide +kernel
theorem dX13_best_11 : decode cX13_best 11 = .ok (.istore_n 2, 1) := by decide +kernel
theorem dX13_best_12 : decode cX13_best 12 = .ok (.iconst 0, 1) := by decide +kernel
theorem dX13_best_13 : decode cX13_best 13 = .ok (.istore_n 3, 1) := by decide +kernel
theorem dX13_best_14 : decode cX13_best 14 = .ok (.iload_n 3, 1) := by decide +kernel
theorem dX13_best_15 : decode cX13_best 15 = .ok (.aload_n 0, 1) := by decide +kernel
theorem dX13_best_16 : decode cX13_best 16 = .ok (.getfield 838, 3) := by decide +kernel
theorem dX13_best_19 : decode cX13_best 19 = .ok (.if_icmp .ge 79, 3) := by decide +kernel
theorem dX13_best_22 : decode cX13_best 22 = .ok (.iload_n 2, 1) := by decide +kernel
theorem dX13_best_23 : decode cX13_best 23 = .ok (.ifCond .eq 75, 3) := by decide +kernel
theorem dX13_best_26 : decode cX13_best 26 = .ok (.iconst 0, 1) := by decide +kernel
theorem dX13_best_27 : decode cX13_best 27 = .ok (.istore 4, 2) := by decide +kernel
theorem dX13_best_29 : decode cX13_best 29 = .ok (.iload 4, 2) := by decide +kernel
theorem dX13_best_31 : decode cX13_best 31 = .ok (.aload_n 0, 1) := by decide +kernel
theorem dX13_best_32 : decode cX13_best 32 = .ok (.getfield 362, 3) := by decide +kernel
theorem dX13_best_35 : decode cX13_best 35 = .ok (.aload_n 0, 1) := by decide +kernel
theorem dX13_best_36 : decode cX13_best 36 = .ok (.getfield 841, 3) := by decide +kernel
theorem dX13_best_39 : decode cX13_best 39 = .ok (.iload_n 1, 1) := by decide +kernel
theorem dX13_best_40 : decode cX13_best 40 = .ok (.iaload, 1) := by decide +kernel
theorem dX13_best_41 : decode cX13_best 41 = .ok (.iaload, 1) := by decide +kernel
theorem dX13_best_42 : decode cX13_best 42 = .ok (.if_icmp .ge 50, 3) := by decide +kernel
theorem dX13_best_45 : decode cX13_best 45 = .ok (.iload_n 2, 1) := by decide +kernel
theorem dX13_best_46 : decode cX13_best 46 = .ok (.ifCond .eq 46, 3) := by decide +kernel
theorem dX13_best_49 : decode cX13_best 49 = .ok (.aload_n 0, 1) := by decide +kernel
theorem dX13_best_50 : decode cX13_best 50 = .ok (.aload_n 0, 1) := by decide +kernel
theorem dX13_best_51 : decode cX13_best 51 = .ok (.getfield 442, 3) := by decide +kernel
theorem dX13_best_54 : decode cX13_best 54 = .ok (.iconst 4, 1) := by decide +kernel
theorem dX13_best_55 : decode cX13_best 55 = .ok (.aload_n 0, 1) := by decide +kernel
theorem dX13_best_56 : decode cX13_best 56 = .ok (.getfield 841, 3) := by decide +kernel
theorem dX13_best_59 : decode cX13_best 59 = .ok (.iload_n 1, 1) := by decide +kernel
theorem dX13_best_60 : decode cX13_best 60 = .ok (.iaload, 1) := by decide +kernel
theorem dX13_best_61 : decode cX13_best 61 = .ok (.imul, 1) := by decide +kernel
theorem dX13_best_62 : decode cX13_best 62 = .ok (.iload 4, 2) := by decide +kernel
theorem dX13_best_64 : decode cX13_best 64 = .ok (.iadd, 1) := by decide +kernel
theorem dX13_best_65 : decode cX13_best 65 = .ok (.laload, 1) := by decide +kernel
theorem dX13_best_66 : decode cX13_best 66 = .ok (.aload_n 0, 1) := by decide +kernel
theorem dX13_best_67 : decode cX13_best 67 = .ok (.getfield 442, 3) := by decide +kernel
theorem dX13_best_70 : decode cX13_best 70 = .ok (.iconst 4, 1) := by decide +kernel
theorem dX13_best_71 : decode cX13_best 71 = .ok (.aload_n 0, 1) := by decide +kernel
theorem dX13_best_72 : decode cX13_best 72 = .ok (.getfield 841, 3) := by decide +kernel
theorem dX13_best_75 : decode cX13_best 75 = .ok (.iload_n 3, 1) := by decide +kernel
theorem dX13_best_76 : decode cX13_best 76 = .ok (.iaload, 1) := by decide +kernel
theorem dX13_best_77 : decode cX13_best 77 = .ok (.imul, 1) := by decide +kernel
theorem dX13_best_78 : decode cX13_best 78 = .ok (.iload 4, 2) := by decide +kernel
theorem dX13_best_80 : decode cX13_best 80 = .ok (.iadd, 1) := by decide +kernel
theorem dX13_best_81 : decode cX13_best 81 = .ok (.laload, 1) := by decide +kernel
theorem dX13_best_82 : decode cX13_best 82 = .ok (.invokevirtual 690, 3) := by decide +kernel
theorem dX13_best_85 : decode cX13_best 85 = .ok (.istore_n 2, 1) := by decide +kernel
theorem dX13_best_86 : decode cX13_best 86 = .ok (.iinc 4 1, 3) := by decide +kernel
theorem dX13_best_89 : decode cX13_best 89 = .ok (.goto (-60), 3) := by decide +kernel
theorem dX13_best_92 : decode cX13_best 92 = .ok (.iinc 3 1, 3) := by decide +kernel
theorem dX13_best_95 : decode cX13_best 95 = .ok (.goto (-81), 3) := by decide +kernel
theorem dX13_best_98 : decode cX13_best 98 = .ok (.iload_n 2, 1) := by decide +kernel
theorem dX13_best_99 : decode cX13_best 99 = .ok (.ifCond .eq 10, 3) := by decide +kernel
theorem dX13_best_102 : decode cX13_best 102 = .ok (.aload_n 0, 1) := by decide +kernel
theorem dX13_best_103 : decode cX13_best 103 = .ok (.getfield 841, 3) := by decide +kernel
theorem dX13_best_106 : decode cX13_best 106 = .ok (.iload_n 1, 1) := by decide +kernel
theorem dX13_best_107 : decode cX13_best 107 = .ok (.iaload, 1) := by decide +kernel
theorem dX13_best_108 : decode cX13_best 108 = .ok (.ireturn, 1) := by decide +kernel
theorem dX13_best_109 : decode cX13_best 109 = .ok (.iinc 1 1, 3) := by decide +kernel
theorem dX13_best_112 : decode cX13_best 112 = .ok (.goto (-110), 3) := by decide +kernel
theorem dX13_best_115 : decode cX13_best 115 = .ok (.bipush (-2), 2) := by decide +kernel
theorem dX13_best_117 : decode cX13_best 117 = .ok (.ireturn, 1) := by decide +kernel
theorem dX13_judgeS_0 : decode cX13_judgeS 0 = .ok (.aload_n 0, 1) := by decide +kernel
theorem dX13_judgeS_1 : decode cX13_judgeS 1 = .ok (.getfield 129, 3) := by decide +kernel
theorem dX13_judgeS_4 : decode cX13_judgeS 4 = .ok (.ifCond .eq 4, 3) := by decide +kernel
theorem dX13_judgeS_7 : decode cX13_judgeS 7 = .ok (.return_, 1) := by decide +kernel
theorem dX13_judgeS_8 : decode cX13_judgeS 8 = .ok (.aload_n 0, 1) := by decide +kernel
theorem dX13_judgeS_9 : decode cX13_judgeS 9 = .ok (.getfield 754, 3) := by decide +kernel
theorem dX13_judgeS_12 : decode cX13_judgeS 12 = .ok (.istore_n 2, 1) := by decide +kernel
theorem dX13_judgeS_13 : decode cX13_judgeS 13 = .ok (.aload_n 0, 1) := by decide +kernel
theorem dX13_judgeS_14 : decode cX13_judgeS 14 = .ok (.getfield 173, 3) := by decide +kernel
theorem dX13_judgeS_17 : decode cX13_judgeS 17 = .ok (.iload_n 1, 1) := by decide +kernel
theorem dX13_judgeS_18 : decode cX13_judgeS 18 = .ok (.iaload, 1) := by decide +kernel
theorem dX13_judgeS_19 : decode cX13_judgeS 19 = .ok (.tableswitch 354 20 26 #[41, 84, 172, 172, 354, 354, 239], 41) := by decide +kernel
theorem dX13_judgeS_60 : decode cX13_judgeS 60 = .ok (.aload_n 0, 1) := by decide +kernel
theorem dX13_judgeS_61 : decode cX13_judgeS 61 = .ok (.getfield 194, 3) := by decide +kernel
theorem dX13_judgeS_64 : decode cX13_judgeS 64 = .ok (.iload_n 1, 1) := by decide +kernel
theorem dX13_judgeS_65 : decode cX13_judgeS 65 = .ok (.iaload, 1) := by decide +kernel
theorem dX13_judgeS_66 : decode cX13_judgeS 66 = .ok (.istore_n 3, 1) := by decide +kernel
theorem dX13_judgeS_67 : decode cX13_judgeS 67 = .ok (.iload_n 3, 1) := by decide +kernel
theorem dX13_judgeS_68 : decode cX13_judgeS 68 = .ok (.bipush (-2), 2) := by decide +kernel
theorem dX13_judgeS_70 : decode cX13_judgeS 70 = .ok (.if_icmp .eq 25, 3) := by decide +kernel
theorem dX13_judgeS_73 : decode cX13_judgeS 73 = .ok (.aload_n 0, 1) := by decide +kernel
theorem dX13_judgeS_74 : decode cX13_judgeS 74 = .ok (.getfield 129, 3) := by decide +kernel
theorem dX13_judgeS_77 : decode cX13_judgeS 77 = .ok (.ifCond .ne 18, 3) := by decide +kernel
theorem dX13_judgeS_80 : decode cX13_judgeS 80 = .ok (.aload_n 0, 1) := by decide +kernel
theorem dX13_judgeS_81 : decode cX13_judgeS 81 = .ok (.iload_n 3, 1) := by decide +kernel
theorem dX13_judgeS_82 : decode cX13_judgeS 82 = .ok (.invokevirtual 774, 3) := by decide +kernel
theorem dX13_judgeS_85 : decode cX13_judgeS 85 = .ok (.aload_n 0, 1) := by decide +kernel
theorem dX13_judgeS_86 : decode cX13_judgeS 86 = .ok (.getfield 203, 3) := by decide +kernel
theorem dX13_judgeS_89 : decode cX13_judgeS 89 = .ok (.iload_n 3, 1) := by decide +kernel
theorem dX13_judgeS_90 : decode cX13_judgeS 90 = .ok (.iaload, 1) := by decide +kernel
theorem dX13_judgeS_91 : decode cX13_judgeS 91 = .ok (.istore_n 3, 1) := by decide +kernel
theorem dX13_judgeS_92 : decode cX13_judgeS 92 = .ok (.goto (-25), 3) := by decide +kernel
theorem dX13_judgeS_95 : decode cX13_judgeS 95 = .ok (.aload_n 0, 1) := by decide +kernel
theorem dX13_judgeS_96 : decode cX13_judgeS 96 = .ok (.iload_n 2, 1) := by decide +kernel
theorem dX13_judgeS_97 : decode cX13_judgeS 97 = .ok (.putfield 754, 3) := by decide +kernel
theorem dX13_judgeS_100 : decode cX13_judgeS 100 = .ok (.goto 278, 3) := by decide +kernel
theorem dX13_judgeS_103 : decode cX13_judgeS 103 = .ok (.aload_n 0, 1) := by decide +kernel
theorem dX13_judgeS_104 : decode cX13_judgeS 104 = .ok (.aload_n 0, 1) := by decide +kernel
theorem dX13_judgeS_105 : decode cX13_judgeS 105 = .ok (.getfield 191, 3) := by decide +kernel
theorem dX13_judgeS_108 : decode cX13_judgeS 108 = .ok (.iload_n 1, 1) := by decide +kernel
theorem dX13_judgeS_109 : decode cX13_judgeS 109 = .ok (.laload, 1) := by decide +kernel
theorem dX13_judgeS_110 : decode cX13_judgeS 110 = .ok (.aload_n 0, 1) := by decide +kernel
theorem dX13_judgeS_111 : decode cX13_judgeS 111 = .ok (.getfield 182, 3) := by decide +kernel
theorem dX13_judgeS_114 : decode cX13_judgeS 114 = .ok (.iload_n 1, 1) := by decide +kernel
theorem dX13_judgeS_115 : decode cX13_judgeS 115 = .ok (.iaload, 1) := by decide +kernel
theorem dX13_judgeS_116 : decode cX13_judgeS 116 = .ok (.aload_n 0, 1) := by decide +kernel
theorem dX13_judgeS_117 : decode cX13_judgeS 117 = .ok (.getfield 745, 3) := by decide +kernel
theorem dX13_judgeS_120 : decode cX13_judgeS 120 = .ok (.invokevirtual 664, 3) := by decide +kernel
theorem dX13_judgeS_123 : decode cX13_judgeS 123 = .ok (.aload_n 0, 1) := by decide +kernel
theorem dX13_judgeS_124 : decode cX13_judgeS 124 = .ok (.getfield 129, 3) := by decide +kernel
theorem dX13_judgeS_127 : decode cX13_judgeS 127 = .ok (.ifCond .ne 29, 3) := by decide +kernel
theorem dX13_judgeS_130 : decode cX13_judgeS 130 = .ok (.aload_n 0, 1) := by decide +kernel
theorem dX13_judgeS_131 : decode cX13_judgeS 131 = .ok (.aload_n 0, 1) := by decide +kernel
theorem dX13_judgeS_132 : decode cX13_judgeS 132 = .ok (.getfield 194, 3) := by decide +kernel
theorem dX13_judgeS_135 : decode cX13_judgeS 135 = .ok (.iload_n 1, 1) := by decide +kernel
theorem dX13_judgeS_136 : decode cX13_judgeS 136 = .ok (.iaload, 1) := by decide +kernel
theorem dX13_judgeS_137 : decode cX13_judgeS 137 = .ok (.aload_n 0, 1) := by decide +kernel
theorem dX13_judgeS_138 : decode cX13_judgeS 138 = .ok (.aload_n 0, 1) := by decide +kernel
theorem dX13_judgeS_139 : decode cX13_judgeS 139 = .ok (.getfield 194, 3) := by decide +kernel
theorem dX13_judgeS_142 : decode cX13_judgeS 142 = .ok (.iload_n 1, 1) := by decide +kernel
theorem dX13_judgeS_143 : decode cX13_judgeS 143 = .ok (.iaload, 1) := by decide +kernel
theorem dX13_judgeS_144 : decode cX13_judgeS 144 = .ok (.invokevirtual 757, 3) := by decide +kernel
theorem dX13_judgeS_147 : decode cX13_judgeS 147 = .ok (.aload_n 0, 1) := by decide +kernel
theorem dX13_judgeS_148 : decode cX13_judgeS 148 = .ok (.getfield 191, 3) := by decide +kernel
theorem dX13_judgeS_151 : decode cX13_judgeS 151 = .ok (.iload_n 1, 1) := by decide +kernel
theorem dX13_judgeS_152 : decode cX13_judgeS 152 = .ok (.laload, 1) := by decide +kernel
theorem dX13_judgeS_153 : decode cX13_judgeS 153 = .ok (.invokevirtual 760, 3) := by decide +kernel
theorem dX13_judgeS_156 : decode cX13_judgeS 156 = .ok (.aload_n 0, 1) := by decide +kernel
theorem dX13_judgeS_157 : decode cX13_judgeS 157 = .ok (.getfield 209, 3) := by decide +kernel
theorem dX13_judgeS_160 : decode cX13_judgeS 160 = .ok (.iload_n 1, 1) := by decide +kernel
theorem dX13_judgeS_161 : decode cX13_judgeS 161 = .ok (.aload_n 0, 1) := by decide +kernel
theorem dX13_judgeS_162 : decode cX13_judgeS 162 = .ok (.getfield 754, 3) := by decide +kernel
theorem dX13_judgeS_165 : decode cX13_judgeS 165 = .ok (.iastore, 1) := by decide +kernel
theorem dX13_judgeS_166 : decode cX13_judgeS 166 = .ok (.aload_n 0, 1) := by decide +kernel
theorem dX13_judgeS_167 : decode cX13_judgeS 167 = .ok (.aload_n 0, 1) := by decide +kernel
theorem dX13_judgeS_168 : decode cX13_judgeS 168 = .ok (.getfield 185, 3) := by decide +kernel
theorem dX13_judgeS_171 : decode cX13_judgeS 171 = .ok (.iload_n 1, 1) := by decide +kernel
theorem dX13_judgeS_172 : decode cX13_judgeS 172 = .ok (.laload, 1) := by decide +kernel
theorem dX13_judgeS_173 : decode cX13_judgeS 173 = .ok (.aload_n 0, 1) := by decide +kernel
theorem dX13_judgeS_174 : decode cX13_judgeS 174 = .ok (.getfield 191, 3) := by decide +kernel
theorem dX13_judgeS_177 : decode cX13_judgeS 177 = .ok (.iload_n 1, 1) := by decide +kernel
theorem dX13_judgeS_178 : decode cX13_judgeS 178 = .ok (.laload, 1) := by decide +kernel
theorem dX13_judgeS_179 : decode cX13_judgeS 179 = .ok (.aload_n 0, 1) := by decide +kernel
theorem dX13_judgeS_180 : decode cX13_judgeS 180 = .ok (.getfield 179, 3) := by decide +kernel
theorem dX13_judgeS_183 : decode cX13_judgeS 183 = .ok (.iload_n 1, 1) := by decide +kernel
theorem dX13_judgeS_184 : decode cX13_judgeS 184 = .ok (.iaload, 1) := by decide +kernel
theorem dX13_judgeS_185 : decode cX13_judgeS 185 = .ok (.invokevirtual 764, 3) := by decide +kernel
theorem dX13_judgeS_188 : decode cX13_judgeS 188 = .ok (.goto 190, 3) := by decide +kernel
theorem dX13_judgeS_191 : decode cX13_judgeS 191 = .ok (.aload_n 0, 1) := by decide +kernel
theorem dX13_judgeS_192 : decode cX13_judgeS 192 = .ok (.aload_n 0, 1) := by decide +kernel
theorem dX13_judgeS_193 : decode cX13_judgeS 193 = .ok (.getfield 194, 3) := by decide +kernel
theorem dX13_judgeS_196 : decode cX13_judgeS 196 = .ok (.iload_n 1, 1) := by decide +kernel
theorem dX13_judgeS_197 : decode cX13_judgeS 197 = .ok (.iaload, 1) := by decide +kernel
theorem dX13_judgeS_198 : decode cX13_judgeS 198 = .ok (.aload_n 0, 1) := by decide +kernel
theorem dX13_judgeS_199 : decode cX13_judgeS 199 = .ok (.aload_n 0, 1) := by decide +kernel
theorem dX13_judgeS_200 : decode cX13_judgeS 200 = .ok (.getfield 194, 3) := by decide +kernel
theorem dX13_judgeS_203 : decode cX13_judgeS 203 = .ok (.iload_n 1, 1) := by decide +kernel
theorem dX13_judgeS_204 : decode cX13_judgeS 204 = .ok (.iaload, 1) := by decide +kernel
theorem dX13_judgeS_205 : decode cX13_judgeS 205 = .ok (.invokevirtual 757, 3) := by decide +kernel
theorem dX13_judgeS_208 : decode cX13_judgeS 208 = .ok (.ldc2_w 43, 3) := by decide +kernel
theorem dX13_judgeS_211 : decode cX13_judgeS 211 = .ok (.invokevirtual 760, 3) := by decide +kernel
theorem dX13_judgeS_214 : decode cX13_judgeS 214 = .ok (.aload_n 0, 1) := by decide +kernel
theorem dX13_judgeS_215 : decode cX13_judgeS 215 = .ok (.aload_n 0, 1) := by decide +kernel
theorem dX13_judgeS_216 : decode cX13_judgeS 216 = .ok (.getfield 197, 3) := by decide +kernel
theorem dX13_judgeS_219 : decode cX13_judgeS 219 = .ok (.iload_n 1, 1) := by decide +kernel
theorem dX13_judgeS_220 : decode cX13_judgeS 220 = .ok (.iaload, 1) := by decide +kernel
theorem dX13_judgeS_221 : decode cX13_judgeS 221 = .ok (.invokevirtual 774, 3) := by decide +kernel
theorem dX13_judgeS_224 : decode cX13_judgeS 224 = .ok (.aload_n 0, 1) := by decide +kernel
theorem dX13_judgeS_225 : decode cX13_judgeS 225 = .ok (.iload_n 2, 1) := by decide +kernel
theorem dX13_judgeS_226 : decode cX13_judgeS 226 = .ok (.putfield 754, 3) := by decide +kernel
theorem dX13_judgeS_229 : decode cX13_judgeS 229 = .ok (.aload_n 0, 1) := by decide +kernel
theorem dX13_judgeS_230 : decode cX13_judgeS 230 = .ok (.getfield 200, 3) := by decide +kernel
theorem dX13_judgeS_233 : decode cX13_judgeS 233 = .ok (.iload_n 1, 1) := by decide +kernel
theorem dX13_judgeS_234 : decode cX13_judgeS 234 = .ok (.iaload, 1) := by decide +kernel
theorem dX13_judgeS_235 : decode cX13_judgeS 235 = .ok (.bipush (-2), 2) := by decide +kernel
theorem dX13_judgeS_237 : decode cX13_judgeS 237 = .ok (.if_icmp .eq 141, 3) := by decide +kernel
theorem dX13_judgeS_240 : decode cX13_judgeS 240 = .ok (.aload_n 0, 1) := by decide +kernel
theorem dX13_judgeS_241 : decode cX13_judgeS 241 = .ok (.aload_n 0, 1) := by decide +kernel
theorem dX13_judgeS_242 : decode cX13_judgeS 242 = .ok (.getfield 200, 3) := by decide +kernel
theorem dX13_judgeS_245 : decode cX13_judgeS 245 = .ok (.iload_n 1, 1) := by decide +kernel
theorem dX13_judgeS_246 : decode cX13_judgeS 246 = .ok (.iaload, 1) := by decide +kernel
theorem dX13_judgeS_247 : decode cX13_judgeS 247 = .ok (.invokevirtual 774, 3) := by decide +kernel
theorem dX13_judgeS_250 : decode cX13_judgeS 250 = .ok (.aload_n 0, 1) := by decide +kernel
theorem dX13_judgeS_251 : decode cX13_judgeS 251 = .ok (.iload_n 2, 1) := by decide +kernel
theorem dX13_judgeS_252 : decode cX13_judgeS 252 = .ok (.putfield 754, 3) := by decide +kernel
theorem dX13_judgeS_255 : decode cX13_judgeS 255 = .ok (.goto 123, 3) := by decide +kernel
theorem dX13_judgeS_258 : decode cX13_judgeS 258 = .ok (.aload_n 0, 1) := by decide +kernel
theorem dX13_judgeS_259 : decode cX13_judgeS 259 = .ok (.aload_n 0, 1) := by decide +kernel
theorem dX13_judgeS_260 : decode cX13_judgeS 260 = .ok (.getfield 194, 3) := by decide +kernel
theorem dX13_judgeS_263 : decode cX13_judgeS 263 = .ok (.iload_n 1, 1) := by decide +kernel
theorem dX13_judgeS_264 : decode cX13_judgeS 264 = .ok (.iaload, 1) := by decide +kernel
theorem dX13_judgeS_265 : decode cX13_judgeS 265 = .ok (.invokevirtual 774, 3) := by decide +kernel
theorem dX13_judgeS_268 : decode cX13_judgeS 268 = .ok (.aload_n 0, 1) := by decide +kernel
theorem dX13_judgeS_269 : decode cX13_judgeS 269 = .ok (.aload_n 0, 1) := by decide +kernel
theorem dX13_judgeS_270 : decode cX13_judgeS 270 = .ok (.getfield 188, 3) := by decide +kernel
theorem dX13_judgeS_273 : decode cX13_judgeS 273 = .ok (.iload_n 1, 1) := by decide +kernel
theorem dX13_judgeS_274 : decode cX13_judgeS 274 = .ok (.laload, 1) := by decide +kernel
theorem dX13_judgeS_275 : decode cX13_judgeS 275 = .ok (.aload_n 0, 1) := by decide +kernel
theorem dX13_judgeS_276 : decode cX13_judgeS 276 = .ok (.getfield 182, 3) := by decide +kernel
theorem dX13_judgeS_279 : decode cX13_judgeS 279 = .ok (.iload_n 1, 1) := by decide +kernel
theorem dX13_judgeS_280 : decode cX13_judgeS 280 = .ok (.iaload, 1) := by decide +kernel
theorem dX13_judgeS_281 : decode cX13_judgeS 281 = .ok (.aload_n 0, 1) := by decide +kernel
theorem dX13_judgeS_282 : decode cX13_judgeS 282 = .ok (.getfield 745, 3) := by decide +kernel
theorem dX13_judgeS_285 : decode cX13_judgeS 285 = .ok (.invokevirtual 664, 3) := by decide +kernel
theorem dX13_judgeS_288 : decode cX13_judgeS 288 = .ok (.aload_n 0, 1) := by decide +kernel
theorem dX13_judgeS_289 : decode cX13_judgeS 289 = .ok (.getfield 129, 3) := by decide +kernel
theorem dX13_judgeS_292 : decode cX13_judgeS 292 = .ok (.ifCond .ne 31, 3) := by decide +kernel
theorem dX13_judgeS_295 : decode cX13_judgeS 295 = .ok (.aload_n 0, 1) := by decide +kernel
theorem dX13_judgeS_296 : decode cX13_judgeS 296 = .ok (.aload_n 0, 1) := by decide +kernel
theorem dX13_judgeS_297 : decode cX13_judgeS 297 = .ok (.getfield 188, 3) := by decide +kernel
theorem dX13_judgeS_300 : decode cX13_judgeS 300 = .ok (.iload_n 1, 1) := by decide +kernel
theorem dX13_judgeS_301 : decode cX13_judgeS 301 = .ok (.laload, 1) := by decide +kernel
theorem dX13_judgeS_302 : decode cX13_judgeS 302 = .ok (.ldc2_w 524, 3) := by decide +kernel
theorem dX13_judgeS_305 : decode cX13_judgeS 305 = .ok (.invokevirtual 690, 3) := by decide +kernel
theorem dX13_judgeS_308 : decode cX13_judgeS 308 = .ok (.ifCond .ne 15, 3) := by decide +kernel
theorem dX13_judgeS_311 : decode cX13_judgeS 311 = .ok (.aload_n 0, 1) := by decide +kernel
theorem dX13_judgeS_312 : decode cX13_judgeS 312 = .ok (.bipush 13, 2) := by decide +kernel
theorem dX13_judgeS_314 : decode cX13_judgeS 314 = .ok (.aload_n 0, 1) := by decide +kernel
theorem dX13_judgeS_315 : decode cX13_judgeS 315 = .ok (.getfield 182, 3) := by decide +kernel
theorem dX13_judgeS_318 : decode cX13_judgeS 318 = .ok (.iload_n 1, 1) := by decide +kernel
theorem dX13_judgeS_319 : decode cX13_judgeS 319 = .ok (.iaload, 1) := by decide +kernel
theorem dX13_judgeS_320 : decode cX13_judgeS 320 = .ok (.invokevirtual 152, 3) := by decide +kernel
theorem dX13_judgeS_323 : decode cX13_judgeS 323 = .ok (.aload_n 0, 1) := by decide +kernel
theorem dX13_judgeS_324 : decode cX13_judgeS 324 = .ok (.getfield 209, 3) := by decide +kernel
theorem dX13_judgeS_327 : decode cX13_judgeS 327 = .ok (.iload_n 1, 1) := by decide +kernel
theorem dX13_judgeS_328 : decode cX13_judgeS 328 = .ok (.aload_n 0, 1) := by decide +kernel
theorem dX13_judgeS_329 : decode cX13_judgeS 329 = .ok (.getfield 754, 3) := by decide +kernel
theorem dX13_judgeS_332 : decode cX13_judgeS 332 = .ok (.iastore, 1) := by decide +kernel
theorem dX13_judgeS_333 : decode cX13_judgeS 333 = .ok (.aload_n 0, 1) := by decide +kernel
theorem dX13_judgeS_334 : decode cX13_judgeS 334 = .ok (.aload_n 0, 1) := by decide +kernel
theorem dX13_judgeS_335 : decode cX13_judgeS 335 = .ok (.getfield 185, 3) := by decide +kernel
theorem dX13_judgeS_338 : decode cX13_judgeS 338 = .ok (.iload_n 1, 1) := by decide +kernel
theorem dX13_judgeS_339 : decode cX13_judgeS 339 = .ok (.laload, 1) := by decide +kernel
theorem dX13_judgeS_340 : decode cX13_judgeS 340 = .ok (.aload_n 0, 1) := by decide +kernel
theorem dX13_judgeS_341 : decode cX13_judgeS 341 = .ok (.getfield 188, 3) := by decide +kernel
theorem dX13_judgeS_344 : decode cX13_judgeS 344 = .ok (.iload_n 1, 1) := by decide +kernel
theorem dX13_judgeS_345 : decode cX13_judgeS 345 = .ok (.laload, 1) := by decide +kernel
theorem dX13_judgeS_346 : decode cX13_judgeS 346 = .ok (.aload_n 0, 1) := by decide +kernel
theorem dX13_judgeS_347 : decode cX13_judgeS 347 = .ok (.getfield 179, 3) := by decide +kernel
theorem dX13_judgeS_350 : decode cX13_judgeS 350 = .ok (.iload_n 1, 1) := by decide +kernel
theorem dX13_judgeS_351 : decode cX13_judgeS 351 = .ok (.iaload, 1) := by decide +kernel
theorem dX13_judgeS_352 : decode cX13_judgeS 352 = .ok (.invokevirtual 764, 3) := by decide +kernel
theorem dX13_judgeS_355 : decode cX13_judgeS 355 = .ok (.aload_n 0, 1) := by decide +kernel
theorem dX13_judgeS_356 : decode cX13_judgeS 356 = .ok (.aload_n 0, 1) := by decide +kernel
theorem dX13_judgeS_357 : decode cX13_judgeS 357 = .ok (.getfield 197, 3) := by decide +kernel
theorem dX13_judgeS_360 : decode cX13_judgeS 360 = .ok (.iload_n 1, 1) := by decide +kernel
theorem dX13_judgeS_361 : decode cX13_judgeS 361 = .ok (.iaload, 1) := by decide +kernel
theorem dX13_judgeS_362 : decode cX13_judgeS 362 = .ok (.invokevirtual 774, 3) := by decide +kernel
theorem dX13_judgeS_365 : decode cX13_judgeS 365 = .ok (.aload_n 0, 1) := by decide +kernel
theorem dX13_judgeS_366 : decode cX13_judgeS 366 = .ok (.iload_n 2, 1) := by decide +kernel
theorem dX13_judgeS_367 : decode cX13_judgeS 367 = .ok (.putfield 754, 3) := by decide +kernel
theorem dX13_judgeS_370 : decode cX13_judgeS 370 = .ok (.goto 8, 3) := by decide +kernel
theorem dX13_judgeS_373 : decode cX13_judgeS 373 = .ok (.aload_n 0, 1) := by decide +kernel
theorem dX13_judgeS_374 : decode cX13_judgeS 374 = .ok (.iload_n 1, 1) := by decide +kernel
theorem dX13_judgeS_375 : decode cX13_judgeS 375 = .ok (.invokevirtual 854, 3) := by decide +kernel
theorem dX13_judgeS_378 : decode cX13_judgeS 378 = .ok (.return_, 1) := by decide +kernel
theorem dX13_judgeOther_0 : decode cX13_judgeOther 0 = .ok (.aload_n 0, 1) := by decide +kernel
theorem dX13_judgeOther_1 : decode cX13_judgeOther 1 = .ok (.getfield 173, 3) := by decide +kernel
theorem dX13_judgeOther_4 : decode cX13_judgeOther 4 = .ok (.iload_n 1, 1) := by decide +kernel
theorem dX13_judgeOther_5 : decode cX13_judgeOther 5 = .ok (.iaload, 1) := by decide +kernel
theorem dX13_judgeOther_6 : decode cX13_judgeOther 6 = .ok (.tableswitch 290 24 29 #[38, 46, 290, 72, 98, 210], 38) := by decide +kernel
theorem dX13_judgeOther_44 : decode cX13_judgeOther 44 = .ok (.aload_n 0, 1) := by decide +kernel
theorem dX13_judgeOther_45 : decode cX13_judgeOther 45 = .ok (.iload_n 1, 1) := by decide +kernel
theorem dX13_judgeOther_46 : decode cX13_judgeOther 46 = .ok (.invokevirtual 857, 3) := by decide +kernel
theorem dX13_judgeOther_49 : decode cX13_judgeOther 49 = .ok (.goto 252, 3) := by decide +kernel

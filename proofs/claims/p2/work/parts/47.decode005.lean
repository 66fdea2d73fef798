theorem dX4_head_72 : decode cX4_head 72 = .ok (.iadd, 1) := by decide +kernel
theorem dX4_head_73 : decode cX4_head 73 = .ok (.istore_n 3, 1) := by decide +kernel
theorem dX4_head_74 : decode cX4_head 74 = .ok (.aload_n 1, 1) := by decide +kernel
theorem dX4_head_75 : decode cX4_head 75 = .ok (.getfield 80, 3) := by decide +kernel
theorem dX4_head_78 : decode cX4_head 78 = .ok (.ifCond .eq 82, 3) := by decide +kernel
theorem dX4_head_81 : decode cX4_head 81 = .ok (.aload_n 0, 1) := by decide +kernel
theorem dX4_head_82 : decode cX4_head 82 = .ok (.getfield 18, 3) := by decide +kernel
theorem dX4_head_85 : decode cX4_head 85 = .ok (.aload_n 1, 1) := by decide +kernel
theorem dX4_head_86 : decode cX4_head 86 = .ok (.getfield 84, 3) := by decide +kernel
theorem dX4_head_89 : decode cX4_head 89 = .ok (.invokevirtual 45, 3) := by decide +kernel
theorem dX4_head_92 : decode cX4_head 92 = .ok (.istore 4, 2) := by decide +kernel
theorem dX4_head_94 : decode cX4_head 94 = .ok (.aload_n 1, 1) := by decide +kernel
theorem dX4_head_95 : decode cX4_head 95 = .ok (.getfield 87, 3) := by decide +kernel
theorem dX4_head_98 : decode cX4_head 98 = .ok (.ifCond .ne 50, 3) := by decide +kernel
theorem dX4_head_101 : decode cX4_head 101 = .ok (.iload 4, 2) := by decide +kernel
theorem dX4_head_103 : decode cX4_head 103 = .ok (.ifCond .lt 45, 3) := by decide +kernel
theorem dX4_head_106 : decode cX4_head 106 = .ok (.aload_n 0, 1) := by decide +kernel
theorem dX4_head_107 : decode cX4_head 107 = .ok (.getfield 18, 3) := by decide +kernel
theorem dX4_head_110 : decode cX4_head 110 = .ok (.getfield 90, 3) := by decide +kernel
theorem dX4_head_113 : decode cX4_head 113 = .ok (.iload 4, 2) := by decide +kernel
theorem dX4_head_115 : decode cX4_head 115 = .ok (.aaload, 1) := by decide +kernel
theorem dX4_head_116 : decode cX4_head 116 = .ok (.getfield 87, 3) := by decide +kernel
theorem dX4_head_119 : decode cX4_head 119 = .ok (.ifCond .ne 29, 3) := by decide +kernel
theorem dX4_head_122 : decode cX4_head 122 = .ok (.aload_n 0, 1) := by decide +kernel
theorem dX4_head_123 : decode cX4_head 123 = .ok (.getfield 18, 3) := by decide +kernel
theorem dX4_head_126 : decode cX4_head 126 = .ok (.getfield 90, 3) := by decide +kernel
theorem dX4_head_129 : decode cX4_head 129 = .ok (.iload 4, 2) := by decide +kernel
theorem dX4_head_131 : decode cX4_head 131 = .ok (.aaload, 1) := by decide +kernel
theorem dX4_head_132 : decode cX4_head 132 = .ok (.getfield 93, 3) := by decide +kernel
theorem dX4_head_135 : decode cX4_head 135 = .ok (.ifCond .ne 13, 3) := by decide +kernel
theorem dX4_head_138 : decode cX4_head 138 = .ok (.aload_n 0, 1) := by decide +kernel
theorem dX4_head_139 : decode cX4_head 139 = .ok (.iload 4, 2) := by decide +kernel
theorem dX4_head_141 : decode cX4_head 141 = .ok (.aload_n 1, 1) := by decide +kernel
theorem dX4_head_142 : decode cX4_head 142 = .ok (.invokevirtual 96, 3) := by decide +kernel
theorem dX4_head_145 : decode cX4_head 145 = .ok (.ifCond .eq 12, 3) := by decide +kernel
theorem dX4_head_148 : decode cX4_head 148 = .ok (.aload_n 0, 1) := by decide +kernel
theorem dX4_head_149 : decode cX4_head 149 = .ok (.iconst 5, 1) := by decide +kernel
theorem dX4_head_150 : decode cX4_head 150 = .ok (.iload_n 3, 1) := by decide +kernel
theorem dX4_head_151 : decode cX4_head 151 = .ok (.iconst 1, 1) := by decide +kernel
theorem dX4_head_152 : decode cX4_head 152 = .ok (.iadd, 1) := by decide +kernel
theorem dX4_head_153 : decode cX4_head 153 = .ok (.invokevirtual 58, 3) := by decide +kernel
theorem dX4_head_156 : decode cX4_head 156 = .ok (.ireturn, 1) := by decide +kernel
theorem dX4_head_157 : decode cX4_head 157 = .ok (.iinc 3 2, 3) := by decide +kernel
theorem dX4_head_160 : decode cX4_head 160 = .ok (.iconst 0, 1) := by decide +kernel
theorem dX4_head_161 : decode cX4_head 161 = .ok (.istore 4, 2) := by decide +kernel
theorem dX4_head_163 : decode cX4_head 163 = .ok (.iload 4, 2) := by decide +kernel
theorem dX4_head_165 : decode cX4_head 165 = .ok (.aload_n 1, 1) := by decide +kernel
theorem dX4_head_166 : decode cX4_head 166 = .ok (.getfield 100, 3) := by decide +kernel
theorem dX4_head_169 : decode cX4_head 169 = .ok (.iconst 0, 1) := by decide +kernel
theorem dX4_head_170 : decode cX4_head 170 = .ok (.iaload, 1) := by decide +kernel
theorem dX4_head_171 : decode cX4_head 171 = .ok (.if_icmp .ge 120, 3) := by decide +kernel
theorem dX4_head_174 : decode cX4_head 174 = .ok (.aload_n 0, 1) := by decide +kernel
theorem dX4_head_175 : decode cX4_head 175 = .ok (.getfield 18, 3) := by decide +kernel
theorem dX4_head_178 : decode cX4_head 178 = .ok (.aload_n 1, 1) := by decide +kernel
theorem dX4_head_179 : decode cX4_head 179 = .ok (.iconst 0, 1) := by decide +kernel
theorem dX4_head_180 : decode cX4_head 180 = .ok (.iload 4, 2) := by decide +kernel
theorem dX4_head_182 : decode cX4_head 182 = .ok (.invokevirtual 104, 3) := by decide +kernel
theorem dX4_head_185 : decode cX4_head 185 = .ok (.invokevirtual 45, 3) := by decide +kernel
theorem dX4_head_188 : decode cX4_head 188 = .ok (.istore 5, 2) := by decide +kernel
theorem dX4_head_190 : decode cX4_head 190 = .ok (.iconst 0, 1) := by decide +kernel
theorem dX4_head_191 : decode cX4_head 191 = .ok (.istore 6, 2) := by decide +kernel
theorem dX4_head_193 : decode cX4_head 193 = .ok (.iconst 0, 1) := by decide +kernel
theorem dX4_head_194 : decode cX4_head 194 = .ok (.istore 7, 2) := by decide +kernel
theorem dX4_head_196 : decode cX4_head 196 = .ok (.iload 7, 2) := by decide +kernel
theorem dX4_head_198 : decode cX4_head 198 = .ok (.iload 4, 2) := by decide +kernel
theorem dX4_head_200 : decode cX4_head 200 = .ok (.if_icmp .ge 37, 3) := by decide +kernel
theorem dX4_head_203 : decode cX4_head 203 = .ok (.iload 6, 2) := by decide +kernel
theorem dX4_head_205 : decode cX4_head 205 = .ok (.aload_n 1, 1) := by decide +kernel
theorem dX4_head_206 : decode cX4_head 206 = .ok (.iconst 0, 1) := by decide +kernel
theorem dX4_head_207 : decode cX4_head 207 = .ok (.iload 7, 2) := by decide +kernel
theorem dX4_head_209 : decode cX4_head 209 = .ok (.invokevirtual 104, 3) := by decide +kernel
theorem dX4_head_212 : decode cX4_head 212 = .ok (.aload_n 1, 1) := by decide +kernel
theorem dX4_head_213 : decode cX4_head 213 = .ok (.iconst 0, 1) := by decide +kernel
theorem dX4_head_214 : decode cX4_head 214 = .ok (.iload 4, 2) := by decide +kernel
theorem dX4_head_216 : decode cX4_head 216 = .ok (.invokevirtual 104, 3) := by decide +kernel
theorem dX4_head_219 : decode cX4_head 219 = .ok (.lcmp, 1) := by decide +kernel
theorem dX4_head_220 : decode cX4_head 220 = .ok (.ifCond .ne 7, 3) := by decide +kernel
theorem dX4_head_223 : decode cX4_head 223 = .ok (.iconst 1, 1) := by decide +kernel
theorem dX4_head_224 : decode cX4_head 224 = .ok (.goto 4, 3) := by decide +kernel
theorem dX4_head_227 : decode cX4_head 227 = .ok (.iconst 0, 1) := by decide +kernel
theorem dX4_head_228 : decode cX4_head 228 = .ok (.ior, 1) := by decide +kernel
theorem dX4_head_229 : decode cX4_head 229 = .ok (.istore 6, 2) := by decide +kernel
theorem dX4_head_231 : decode cX4_head 231 = .ok (.iinc 7 1, 3) := by decide +kernel
theorem dX4_head_234 : decode cX4_head 234 = .ok (.goto (-38), 3) := by decide +kernel
theorem dX4_head_237 : decode cX4_head 237 = .ok (.iload 6, 2) := by decide +kernel
theorem dX4_head_239 : decode cX4_head 239 = .ok (.ifCond .ne 34, 3) := by decide +kernel
theorem dX4_head_242 : decode cX4_head 242 = .ok (.iload 5, 2) := by decide +kernel
theorem dX4_head_244 : decode cX4_head 244 = .ok (.ifCond .lt 29, 3) := by decide +kernel
theorem dX4_head_247 : decode cX4_head 247 = .ok (.aload_n 0, 1) := by decide +kernel
theorem dX4_head_248 : decode cX4_head 248 = .ok (.getfield 18, 3) := by decide +kernel
theorem dX4_head_251 : decode cX4_head 251 = .ok (.getfield 90, 3) := by decide +kernel
theorem dX4_head_254 : decode cX4_head 254 = .ok (.iload 5, 2) := by decide +kernel
theorem dX4_head_256 : decode cX4_head 256 = .ok (.aaload, 1) := by decide +kernel
theorem dX4_head_257 : decode cX4_head 257 = .ok (.getfield 87, 3) := by decide +kernel
theorem dX4_head_260 : decode cX4_head 260 = .ok (.ifCond .eq 13, 3) := by decide +kernel
theorem dX4_head_263 : decode cX4_head 263 = .ok (.aload_n 0, 1) := by decide +kernel
theorem dX4_head_264 : decode cX4_head 264 = .ok (.iload 5, 2) := by decide +kernel
theorem dX4_head_266 : decode cX4_head 266 = .ok (.aload_n 1, 1) := by decide +kernel
theorem dX4_head_267 : decode cX4_head 267 = .ok (.invokevirtual 96, 3) := by decide +kernel
theorem dX4_head_270 : decode cX4_head 270 = .ok (.ifCond .eq 12, 3) := by decide +kernel
theorem dX4_head_273 : decode cX4_head 273 = .ok (.aload_n 0, 1) := by decide +kernel
theorem dX4_head_274 : decode cX4_head 274 = .ok (.iconst 5, 1) := by decide +kernel
theorem dX4_head_275 : decode cX4_head 275 = .ok (.iload_n 3, 1) := by decide +kernel
theorem dX4_head_276 : decode cX4_head 276 = .ok (.iconst 1, 1) := by decide +kernel
theorem dX4_head_277 : decode cX4_head 277 = .ok (.iadd, 1) := by decide +kernel
theorem dX4_head_278 : decode cX4_head 278 = .ok (.invokevirtual 58, 3) := by decide +kernel
theorem dX4_head_281 : decode cX4_head 281 = .ok (.ireturn, 1) := by decide +kernel
theorem dX4_head_282 : decode cX4_head 282 = .ok (.iinc 3 2, 3) := by decide +kernel
theorem dX4_head_285 : decode cX4_head 285 = .ok (.iinc 4 1, 3) := by decide +kernel
theorem dX4_head_288 : decode cX4_head 288 = .ok (.goto (-125), 3) := by decide +kernel
theorem dX4_head_291 : decode cX4_head 291 = .ok (.aload_n 0, 1) := by decide +kernel
theorem dX4_head_292 : decode cX4_head 292 = .ok (.aload_n 1, 1) := by decide +kernel
theorem dX4_head_293 : decode cX4_head 293 = .ok (.iload_n 3, 1) := by decide +kernel
theorem dX4_head_294 : decode cX4_head 294 = .ok (.invokevirtual 108, 3) := by decide +kernel
theorem dX4_head_297 : decode cX4_head 297 = .ok (.ireturn, 1) := by decide +kernel
theorem dX4_barred_0 : decode cX4_barred 0 = .ok (.aload_n 0, 1) := by decide +kernel
theorem dX4_barred_1 : decode cX4_barred 1 = .ok (.getfield 18, 3) := by decide +kernel
theorem dX4_barred_4 : decode cX4_barred 4 = .ok (.getfield 90, 3) := by decide +kernel
theorem dX4_barred_7 : decode cX4_barred 7 = .ok (.iload_n 1, 1) := by decide +kernel
theorem dX4_barred_8 : decode cX4_barred 8 = .ok (.aaload, 1) := by decide +kernel
theorem dX4_barred_9 : decode cX4_barred 9 = .ok (.astore_n 3, 1) := by decide +kernel
theorem dX4_barred_10 : decode cX4_barred 10 = .ok (.aload_n 3, 1) := by decide +kernel
theorem dX4_barred_11 : decode cX4_barred 11 = .ok (.getfield 111, 3) := by decide +kernel
theorem dX4_barred_14 : decode cX4_barred 14 = .ok (.ifCond .ne 21, 3) := by decide +kernel
theorem dX4_barred_17 : decode cX4_barred 17 = .ok (.aload_n 3, 1) := by decide +kernel
theorem dX4_barred_18 : decode cX4_barred 18 = .ok (.getfield 39, 3) := by decide +kernel
theorem dX4_barred_21 : decode cX4_barred 21 = .ok (.bipush 59, 2) := by decide +kernel
theorem dX4_barred_23 : decode cX4_barred 23 = .ok (.lushr, 1) := by decide +kernel
theorem dX4_barred_24 : decode cX4_barred 24 = .ok (.aload_n 2, 1) := by decide +kernel
theorem dX4_barred_25 : decode cX4_barred 25 = .ok (.getfield 39, 3) := by decide +kernel
theorem dX4_barred_28 : decode cX4_barred 28 = .ok (.bipush 59, 2) := by decide +kernel
theorem dX4_barred_30 : decode cX4_barred 30 = .ok (.lushr, 1) := by decide +kernel
theorem dX4_barred_31 : decode cX4_barred 31 = .ok (.lcmp, 1) := by decide +kernel
theorem dX4_barred_32 : decode cX4_barred 32 = .ok (.ifCond .ne 24, 3) := by decide +kernel
theorem dX4_barred_35 : decode cX4_barred 35 = .ok (.aload_n 3, 1) := by decide +kernel
theorem dX4_barred_36 : decode cX4_barred 36 = .ok (.getfield 100, 3) := by decide +kernel
theorem dX4_barred_39 : decode cX4_barred 39 = .ok (.iconst 2, 1) := by decide +kernel
theorem dX4_barred_40 : decode cX4_barred 40 = .ok (.iaload, 1) := by decide +kernel
theorem dX4_barred_41 : decode cX4_barred 41 = .ok (.ifCond .le 19, 3) := by decide +kernel
theorem dX4_barred_44 : decode cX4_barred 44 = .ok (.aload_n 3, 1) := by decide +kernel
theorem dX4_barred_45 : decode cX4_barred 45 = .ok (.iconst 2, 1) := by decide +kernel
theorem dX4_barred_46 : decode cX4_barred 46 = .ok (.aload_n 2, 1) := by decide +kernel
theorem dX4_barred_47 : decode cX4_barred 47 = .ok (.getfield 39, 3) := by decide +kernel
theorem dX4_barred_50 : decode cX4_barred 50 = .ok (.invokevirtual 114, 3) := by decide +kernel
theorem dX4_barred_53 : decode cX4_barred 53 = .ok (.ifCond .ne 7, 3) := by decide +kernel
theorem dX4_barred_56 : decode cX4_barred 56 = .ok (.iconst 1, 1) := by decide +kernel
theorem dX4_barred_57 : decode cX4_barred 57 = .ok (.goto 4, 3) := by decide +kernel
theorem dX4_barred_60 : decode cX4_barred 60 = .ok (.iconst 0, 1) := by decide +kernel
theorem dX4_barred_61 : decode cX4_barred 61 = .ok (.ireturn, 1) := by decide +kernel
theorem dX4_within_0 : decode cX4_within 0 = .ok (.iload_n 2, 1) := by decide +kernel
theorem dX4_within_1 : decode cX4_within 1 = .ok (.istore_n 3, 1) := by decide +kernel
theorem dX4_within_2 : decode cX4_within 2 = .ok (.aload_n 1, 1) := by decide +kernel
theorem dX4_within_3 : decode cX4_within 3 = .ok (.getfield 118, 3) := by decide +kernel
theorem dX4_within_6 : decode cX4_within 6 = .ok (.ldc2_w 120, 3) := by decide +kernel
theorem dX4_within_9 : decode cX4_within 9 = .ok (.lcmp, 1) := by decide +kernel
theorem dX4_within_10 : decode cX4_within 10 = .ok (.ifCond .eq 65, 3) := by decide +kernel
theorem dX4_within_13 : decode cX4_within 13 = .ok (.aload_n 0, 1) := by decide +kernel
theorem dX4_within_14 : decode cX4_within 14 = .ok (.getfield 22, 3) := by decide +kernel
theorem dX4_within_17 : decode cX4_within 17 = .ok (.aload_n 1, 1) := by decide +kernel
theorem dX4_within_18 : decode cX4_within 18 = .ok (.getfield 118, 3) := by decide +kernel
theorem dX4_within_21 : decode cX4_within 21 = .ok (.invokevirtual 122, 3) := by decide +kernel
theorem dX4_within_24 : decode cX4_within 24 = .ok (.astore 4, 2) := by decide +kernel
theorem dX4_within_26 : decode cX4_within 26 = .ok (.aload 4, 2) := by decide +kernel
theorem dX4_within_28 : decode cX4_within 28 = .ok (.ifnull 35, 3) := by decide +kernel
theorem dX4_within_31 : decode cX4_within 31 = .ok (.aload 4, 2) := by decide +kernel
theorem dX4_within_33 : decode cX4_within 33 = .ok (.getfield 39, 3) := by decide +kernel
theorem dX4_within_36 : decode cX4_within 36 = .ok (.bipush 59, 2) := by decide +kernel
theorem dX4_within_38 : decode cX4_within 38 = .ok (.lushr, 1) := by decide +kernel
theorem dX4_within_39 : decode cX4_within 39 = .ok (.aload_n 1, 1) := by decide +kernel
theorem dX4_within_40 : decode cX4_within 40 = .ok (.getfield 39, 3) := by decide +kernel
theorem dX4_within_43 : decode cX4_within 43 = .ok (.bipush 59, 2) := by decide +kernel
theorem dX4_within_45 : decode cX4_within 45 = .ok (.lushr, 1) := by decide +kernel
theorem dX4_within_46 : decode cX4_within 46 = .ok (.lcmp, 1) := by decide +kernel
theorem dX4_within_47 : decode cX4_within 47 = .ok (.ifCond .ne 16, 3) := by decide +kernel
theorem dX4_within_50 : decode cX4_within 50 = .ok (.aload 4, 2) := by decide +kernel
theorem dX4_within_52 : decode cX4_within 52 = .ok (.iconst 1, 1) := by decide +kernel
theorem dX4_within_53 : decode cX4_within 53 = .ok (.aload_n 1, 1) := by decide +kernel
theorem dX4_within_54 : decode cX4_within 54 = .ok (.getfield 39, 3) := by decide +kernel
theorem dX4_within_57 : decode cX4_within 57 = .ok (.invokevirtual 114, 3) := by decide +kernel
theorem dX4_within_60 : decode cX4_within 60 = .ok (.ifCond .ne 12, 3) := by decide +kernel
theorem dX4_within_63 : decode cX4_within 63 = .ok (.aload_n 0, 1) := by decide +kernel
theorem dX4_within_64 : decode cX4_within 64 = .ok (.iconst 5, 1) := by decide +kernel
theorem dX4_within_65 : decode cX4_within 65 = .ok (.iload_n 3, 1) := by decide +kernel
theorem dX4_within_66 : decode cX4_within 66 = .ok (.iconst 1, 1) := by decide +kernel
theorem dX4_within_67 : decode cX4_within 67 = .ok (.iadd, 1) := by decide +kernel
theorem dX4_within_68 : decode cX4_within 68 = .ok (.invokevirtual 58, 3) := by decide +kernel
theorem dX4_within_71 : decode cX4_within 71 = .ok (.ireturn, 1) := by decide +kernel
theorem dX4_within_72 : decode cX4_within 72 = .ok (.iinc 3 2, 3) := by decide +kernel
theorem dX4_within_75 : decode cX4_within 75 = .ok (.iconst 0, 1) := by decide +kernel
theorem dX4_within_76 : decode cX4_within 76 = .ok (.istore 4, 2) := by decide +kernel
theorem dX4_within_78 : decode cX4_within 78 = .ok (.iload 4, 2) := by decide +kernel
theorem dX4_within_80 : decode cX4_within 80 = .ok (.aload_n 1, 1) := by decide +kernel
theorem dX4_within_81 : decode cX4_within 81 = .ok (.getfield 100, 3) := by decide +kernel
theorem dX4_within_84 : decode cX4_within 84 = .ok (.iconst 1, 1) := by decide +kernel
theorem dX4_within_85 : decode cX4_within 85 = .ok (.iaload, 1) := by decide +kernel
theorem dX4_within_86 : decode cX4_within 86 = .ok (.if_icmp .ge 55, 3) := by decide +kernel
theorem dX4_within_89 : decode cX4_within 89 = .ok (.aload_n 0, 1) := by decide +kernel
theorem dX4_within_90 : decode cX4_within 90 = .ok (.getfield 22, 3) := by decide +kernel
theorem dX4_within_93 : decode cX4_within 93 = .ok (.aload_n 1, 1) := by decide +kernel
theorem dX4_within_94 : decode cX4_within 94 = .ok (.iconst 1, 1) := by decide +kernel
theorem dX4_within_95 : decode cX4_within 95 = .ok (.iload 4, 2) := by decide +kernel
theorem dX4_within_97 : decode cX4_within 97 = .ok (.invokevirtual 104, 3) := by decide +kernel
theorem dX4_within_100 : decode cX4_within 100 = .ok (.invokevirtual 122, 3) := by decide +kernel
theorem dX4_within_103 : decode cX4_within 103 = .ok (.astore 5, 2) := by decide +kernel
theorem dX4_within_105 : decode cX4_within 105 = .ok (.aload 5, 2) := by decide +kernel
theorem dX4_within_107 : decode cX4_within 107 = .ok (.ifnull 16, 3) := by decide +kernel
theorem dX4_within_110 : decode cX4_within 110 = .ok (.aload 5, 2) := by decide +kernel
theorem dX4_within_112 : decode cX4_within 112 = .ok (.getfield 118, 3) := by decide +kernel
theorem dX4_within_115 : decode cX4_within 115 = .ok (.aload_n 1, 1) := by decide +kernel
theorem dX4_within_116 : decode cX4_within 116 = .ok (.getfield 39, 3) := by decide +kernel
theorem dX4_within_119 : decode cX4_within 119 = .ok (.lcmp, 1) := by decide +kernel
theorem dX4_within_120 : decode cX4_within 120 = .ok (.ifCond .eq 12, 3) := by decide +kernel
theorem dX4_within_123 : decode cX4_within 123 = .ok (.aload_n 0, 1) := by decide +kernel
theorem dX4_within_124 : decode cX4_within 124 = .ok (.iconst 5, 1) := by decide +kernel
theorem dX4_within_125 : decode cX4_within 125 = .ok (.iload_n 3, 1) := by decide +kernel
theorem dX4_within_126 : decode cX4_within 126 = .ok (.iconst 1, 1) := by decide +kernel
theorem dX4_within_127 : decode cX4_within 127 = .ok (.iadd, 1) := by decide +kernel
theorem dX4_within_128 : decode cX4_within 128 = .ok (.invokevirtual 58, 3) := by decide +kernel
theorem dX4_within_131 : decode cX4_within 131 = .ok (.ireturn, 1) := by decide +kernel
theorem dX4_within_132 : decode cX4_within 132 = .ok (.iinc 3 2, 3) := by decide +kernel
theorem dX4_within_135 : decode cX4_within 135 = .ok (.iinc 4 1, 3) := by decide +kernel
theorem dX4_within_138 : decode cX4_within 138 = .ok (.goto (-60), 3) := by decide +kernel
theorem dX4_within_141 : decode cX4_within 141 = .ok (.iconst 0, 1) := by decide +kernel
theorem dX4_within_142 : decode cX4_within 142 = .ok (.istore 4, 2) := by decide +kernel
theorem dX4_within_144 : decode cX4_within 144 = .ok (.iload 4, 2) := by decide +kernel
theorem dX4_within_146 : decode cX4_within 146 = .ok (.aload_n 1, 1) := by decide +kernel
theorem dX4_within_147 : decode cX4_within 147 = .ok (.getfield 100, 3) := by decide +kernel
theorem dX4_within_150 : decode cX4_within 150 = .ok (.iconst 2, 1) := by decide +kernel
theorem dX4_within_151 : decode cX4_within 151 = .ok (.iaload, 1) := by decide +kernel
theorem dX4_within_152 : decode cX4_within 152 = .ok (.if_icmp .ge 38, 3) := by decide +kernel
theorem dX4_within_155 : decode cX4_within 155 = .ok (.aload_n 0, 1) := by decide +kernel
theorem dX4_within_156 : decode cX4_within 156 = .ok (.getfield 22, 3) := by decide +kernel
theorem dX4_within_159 : decode cX4_within 159 = .ok (.aload_n 1, 1) := by decide +kernel
theorem dX4_within_160 : decode cX4_within 160 = .ok (.iconst 2, 1) := by decide +kernel
theorem dX4_within_161 : decode cX4_within 161 = .ok (.iload 4, 2) := by decide +kernel
theorem dX4_within_163 : decode cX4_within 163 = .ok (.invokevirtual 104, 3) := by decide +kernel
theorem dX4_within_166 : decode cX4_within 166 = .ok (.invokevirtual 122, 3) := by decide +kernel
theorem dX4_within_169 : decode cX4_within 169 = .ok (.ifnonnull 12, 3) := by decide +kernel
theorem dX4_within_172 : decode cX4_within 172 = .ok (.aload_n 0, 1) := by decide +kernel
theorem dX4_within_173 : decode cX4_within 173 = .ok (.iconst 5, 1) := by decide +kernel
theorem dX4_within_174 : decode cX4_within 174 = .ok (.iload_n 3, 1) := by decide +kernel
theorem dX4_within_175 : decode cX4_within 175 = .ok (.iconst 1, 1) := by decide +kernel
theorem dX4_within_176 : decode cX4_within 176 = .ok (.iadd, 1) := by decide +kernel
theorem dX4_within_177 : decode cX4_within 177 = .ok (.invokevirtual 58, 3) := by decide +kernel
theorem dX4_within_180 : decode cX4_within 180 = .ok (.ireturn, 1) := by decide +kernel
theorem dX4_within_181 : decode cX4_within 181 = .ok (.iinc 3 2, 3) := by decide +kernel
theorem dX4_within_184 : decode cX4_within 184 = .ok (.iinc 4 1, 3) := by decide +kernel
theorem dX4_within_187 : decode cX4_within 187 = .ok (.goto (-43), 3) := by decide +kernel
theorem dX4_within_190 : decode cX4_within 190 = .ok (.iconst 1, 1) := by decide +kernel
theorem dX4_within_191 : decode cX4_within 191 = .ok (.ireturn, 1) := by decide +kernel
theorem dX4_items_0 : decode cX4_items 0 = .ok (.iconst 0, 1) := by decide +kernel
theorem dX4_items_1 : decode cX4_items 1 = .ok (.istore_n 3, 1) := by decide +kernel
theorem dX4_items_2 : decode cX4_items 2 = .ok (.iload_n 3, 1) := by decide +kernel
theorem dX4_items_3 : decode cX4_items 3 = .ok (.aload_n 1, 1) := by decide +kernel
theorem dX4_items_4 : decode cX4_items 4 = .ok (.getfield 126, 3) := by decide +kernel
theorem dX4_items_7 : decode cX4_items 7 = .ok (.if_icmp .ge 99, 3) := by decide +kernel
theorem dX4_items_10 : decode cX4_items 10 = .ok (.aload_n 0, 1) := by decide +kernel
theorem dX4_items_11 : decode cX4_items 11 = .ok (.getfield 9, 3) := by decide +kernel
theorem dX4_items_14 : decode cX4_items 14 = .ok (.ifCond .ne 92, 3) := by decide +kernel
theorem dX4_items_17 : decode cX4_items 17 = .ok (.aload_n 1, 1) := by decide +kernel
theorem dX4_items_18 : decode cX4_items 18 = .ok (.getfield 129, 3) := by decide +kernel
theorem dX4_items_21 : decode cX4_items 21 = .ok (.iload_n 3, 1) := by decide +kernel
theorem dX4_items_22 : decode cX4_items 22 = .ok (.aaload, 1) := by decide +kernel
theorem dX4_items_23 : decode cX4_items 23 = .ok (.astore 4, 2) := by decide +kernel
theorem dX4_items_25 : decode cX4_items 25 = .ok (.aload_n 1, 1) := by decide +kernel
theorem dX4_items_26 : decode cX4_items 26 = .ok (.getfield 87, 3) := by decide +kernel
theorem dX4_items_29 : decode cX4_items 29 = .ok (.ifCond .eq 14, 3) := by decide +kernel
theorem dX4_items_32 : decode cX4_items 32 = .ok (.aload 4, 2) := by decide +kernel
theorem dX4_items_34 : decode cX4_items 34 = .ok (.invokestatic 132, 3) := by decide +kernel
theorem dX4_items_37 : decode cX4_items 37 = .ok (.ifCond .eq 28, 3) := by decide +kernel
theorem dX4_items_40 : decode cX4_items 40 = .ok (.goto 12, 3) := by decide +kernel
theorem dX4_items_43 : decode cX4_items 43 = .ok (.aload_n 1, 1) := by decide +kernel
theorem dX4_items_44 : decode cX4_items 44 = .ok (.aload 4, 2) := by decide +kernel
theorem dX4_items_46 : decode cX4_items 46 = .ok (.invokestatic 136, 3) := by decide +kernel
theorem dX4_items_49 : decode cX4_items 49 = .ok (.ifCond .eq 16, 3) := by decide +kernel
theorem dX4_items_52 : decode cX4_items 52 = .ok (.aload_n 0, 1) := by decide +kernel
theorem dX4_items_53 : decode cX4_items 53 = .ok (.bipush 8, 2) := by decide +kernel
theorem dX4_items_55 : decode cX4_items 55 = .ok (.aload 4, 2) := by decide +kernel
theorem dX4_items_57 : decode cX4_items 57 = .ok (.getfield 140, 3) := by decide +kernel
theorem dX4_items_60 : decode cX4_items 60 = .ok (.invokevirtual 58, 3) := by decide +kernel
theorem dX4_items_63 : decode cX4_items 63 = .ok (.pop, 1) := by decide +kernel
theorem dX4_items_64 : decode cX4_items 64 = .ok (.return_, 1) := by decide +kernel
theorem dX4_items_65 : decode cX4_items 65 = .ok (.aload_n 1, 1) := by decide +kernel
theorem dX4_items_66 : decode cX4_items 66 = .ok (.getfield 87, 3) := by decide +kernel
theorem dX4_items_69 : decode cX4_items 69 = .ok (.ifCond .eq 8, 3) := by decide +kernel
theorem dX4_items_72 : decode cX4_items 72 = .ok (.aload 4, 2) := by decide +kernel
theorem dX4_items_74 : decode cX4_items 74 = .ok (.invokestatic 143, 3) := by decide +kernel
theorem dX4_items_77 : decode cX4_items 77 = .ok (.aload 4, 2) := by decide +kernel
theorem dX4_items_79 : decode cX4_items 79 = .ok (.getfield 147, 3) := by decide +kernel
theorem dX4_items_82 : decode cX4_items 82 = .ok (.iconst 3, 1) := by decide +kernel
theorem dX4_items_83 : decode cX4_items 83 = .ok (.if_icmp .eq 17, 3) := by decide +kernel
theorem dX4_items_86 : decode cX4_items 86 = .ok (.aload_n 0, 1) := by decide +kernel
theorem dX4_items_87 : decode cX4_items 87 = .ok (.aload 4, 2) := by decide +kernel
theorem dX4_items_89 : decode cX4_items 89 = .ok (.iload_n 2, 1) := by decide +kernel
theorem dX4_items_90 : decode cX4_items 90 = .ok (.invokevirtual 150, 3) := by decide +kernel
theorem dX4_items_93 : decode cX4_items 93 = .ok (.aload_n 0, 1) := by decide +kernel
theorem dX4_items_94 : decode cX4_items 94 = .ok (.aload_n 1, 1) := by decide +kernel
theorem dX4_items_95 : decode cX4_items 95 = .ok (.aload 4, 2) := by decide +kernel
theorem dX4_items_97 : decode cX4_items 97 = .ok (.invokevirtual 154, 3) := by decide +kernel
theorem dX4_items_100 : decode cX4_items 100 = .ok (.iinc 3 1, 3) := by decide +kernel
theorem dX4_items_103 : decode cX4_items 103 = .ok (.goto (-101), 3) := by decide +kernel
theorem dX4_items_106 : decode cX4_items 106 = .ok (.return_, 1) := by decide +kernel
theorem dX4_oddInClass_0 : decode cX4_oddInClass 0 = .ok (.aload_n 1, 1) := by decide +kernel
theorem dX4_oddInClass_1 : decode cX4_oddInClass 1 = .ok (.getfield 147, 3) := by decide +kernel
theorem dX4_oddInClass_4 : decode cX4_oddInClass 4 = .ok (.ifCond .ne 8, 3) := by decide +kernel
theorem dX4_oddInClass_7 : decode cX4_oddInClass 7 = .ok (.aload_n 1, 1) := by decide +kernel
theorem dX4_oddInClass_8 : decode cX4_oddInClass 8 = .ok (.getfield 158, 3) := by decide +kernel
theorem dX4_oddInClass_11 : decode cX4_oddInClass 11 = .ok (.ireturn, 1) := by decide +kernel
theorem dX4_oddInClass_12 : decode cX4_oddInClass 12 = .ok (.aload_n 1, 1) := by decide +kernel
theorem dX4_oddInClass_13 : decode cX4_oddInClass 13 = .ok (.getfield 147, 3) := by decide +kernel
theorem dX4_oddInClass_16 : decode cX4_oddInClass 16 = .ok (.iconst 1, 1) := by decide +kernel
theorem dX4_oddInClass_17 : decode cX4_oddInClass 17 = .ok (.if_icmp .ne 46, 3) := by decide +kernel
theorem dX4_oddInClass_20 : decode cX4_oddInClass 20 = .ok (.aload_n 1, 1) := by decide +kernel
theorem dX4_oddInClass_21 : decode cX4_oddInClass 21 = .ok (.getfield 158, 3) := by decide +kernel
theorem dX4_oddInClass_24 : decode cX4_oddInClass 24 = .ok (.aload_n 1, 1) := by decide +kernel
theorem dX4_oddInClass_25 : decode cX4_oddInClass 25 = .ok (.getfield 161, 3) := by decide +kernel
theorem dX4_oddInClass_28 : decode cX4_oddInClass 28 = .ok (.if_icmp .eq 31, 3) := by decide +kernel
theorem dX4_oddInClass_31 : decode cX4_oddInClass 31 = .ok (.aload_n 1, 1) := by decide +kernel
theorem dX4_oddInClass_32 : decode cX4_oddInClass 32 = .ok (.getfield 158, 3) := by decide +kernel
theorem dX4_oddInClass_35 : decode cX4_oddInClass 35 = .ok (.ifCond .eq 28, 3) := by decide +kernel
theorem dX4_oddInClass_38 : decode cX4_oddInClass 38 = .ok (.aload_n 1, 1) := by decide +kernel
theorem dX4_oddInClass_39 : decode cX4_oddInClass 39 = .ok (.getfield 164, 3) := by decide +kernel
theorem dX4_oddInClass_42 : decode cX4_oddInClass 42 = .ok (.ifCond .eq 17, 3) := by decide +kernel
theorem dX4_oddInClass_45 : decode cX4_oddInClass 45 = .ok (.aload_n 1, 1) := by decide +kernel
theorem dX4_oddInClass_46 : decode cX4_oddInClass 46 = .ok (.getfield 167, 3) := by decide +kernel
theorem dX4_oddInClass_49 : decode cX4_oddInClass 49 = .ok (.ifCond .ne 10, 3) := by decide +kernel
theorem dX4_oddInClass_52 : decode cX4_oddInClass 52 = .ok (.aload_n 0, 1) := by decide +kernel
theorem dX4_oddInClass_53 : decode cX4_oddInClass 53 = .ok (.getfield 170, 3) := by decide +kernel
theorem dX4_oddInClass_56 : decode cX4_oddInClass 56 = .ok (.ifCond .ne 7, 3) := by decide +kernel
theorem dX4_oddInClass_59 : decode cX4_oddInClass 59 = .ok (.iconst 1, 1) := by decide +kernel
theorem dX4_oddInClass_60 : decode cX4_oddInClass 60 = .ok (.goto 4, 3) := by decide +kernel
theorem dX4_oddInClass_63 : decode cX4_oddInClass 63 = .ok (.iconst 0, 1) := by decide +kernel
theorem dX4_oddInClass_64 : decode cX4_oddInClass 64 = .ok (.ireturn, 1) := by decide +kernel
theorem dX4_oddInFace_0 : decode cX4_oddInFace 0 = .ok (.aload_n 0, 1) := by decide +kernel
theorem dX4_oddInFace_1 : decode cX4_oddInFace 1 = .ok (.getfield 147, 3) := by decide +kernel
theorem dX4_oddInFace_4 : decode cX4_oddInFace 4 = .ok (.ifCond .ne 38, 3) := by decide +kernel
theorem dX4_oddInFace_7 : decode cX4_oddInFace 7 = .ok (.aload_n 0, 1) := by decide +kernel
theorem dX4_oddInFace_8 : decode cX4_oddInFace 8 = .ok (.getfield 158, 3) := by decide +kernel
theorem dX4_oddInFace_11 : decode cX4_oddInFace 11 = .ok (.ifCond .ne 25, 3) := by decide +kernel
theorem dX4_oddInFace_14 : decode cX4_oddInFace 14 = .ok (.aload_n 0, 1) := by decide +kernel
theorem dX4_oddInFace_15 : decode cX4_oddInFace 15 = .ok (.getfield 164, 3) := by decide +kernel
theorem dX4_oddInFace_18 : decode cX4_oddInFace 18 = .ok (.ifCond .eq 18, 3) := by decide +kernel
theorem dX4_oddInFace_21 : decode cX4_oddInFace 21 = .ok (.aload_n 0, 1) := by decide +kernel
theorem dX4_oddInFace_22 : decode cX4_oddInFace 22 = .ok (.getfield 164, 3) := by decide +kernel
theorem dX4_oddInFace_25 : decode cX4_oddInFace 25 = .ok (.iconst 2, 1) := by decide +kernel
theorem dX4_oddInFace_26 : decode cX4_oddInFace 26 = .ok (.if_icmp .eq 10, 3) := by decide +kernel
theorem dX4_oddInFace_29 : decode cX4_oddInFace 29 = .ok (.aload_n 0, 1) := by decide +kernel
theorem dX4_oddInFace_30 : decode cX4_oddInFace 30 = .ok (.getfield 171, 3) := by decide +kernel
theorem dX4_oddInFace_33 : decode cX4_oddInFace 33 = .ok (.ifnonnull 7, 3) := by decide +kernel
theorem dX4_oddInFace_36 : decode cX4_oddInFace 36 = .ok (.iconst 1, 1) := by decide +kernel
theorem dX4_oddInFace_37 : decode cX4_oddInFace 37 = .ok (.goto 4, 3) := by decide +kernel
theorem dX4_oddInFace_40 : decode cX4_oddInFace 40 = .ok (.iconst 0, 1) := by decide +kernel
theorem dX4_oddInFace_41 : decode cX4_oddInFace 41 = .ok (.ireturn, 1) := by decide +kernel
theorem dX4_oddInFace_42 : decode cX4_oddInFace 42 = .ok (.aload_n 0, 1) := by decide +kernel
theorem dX4_oddInFace_43 : decode cX4_oddInFace 43 = .ok (.getfield 147, 3) := by decide +kernel
theorem dX4_oddInFace_46 : decode cX4_oddInFace 46 = .ok (.iconst 1, 1) := by decide +kernel
theorem dX4_oddInFace_47 : decode cX4_oddInFace 47 = .ok (.if_icmp .ne 53, 3) := by decide +kernel
theorem dX4_oddInFace_50 : decode cX4_oddInFace 50 = .ok (.aload_n 0, 1) := by decide +kernel
theorem dX4_oddInFace_51 : decode cX4_oddInFace 51 = .ok (.getfield 164, 3) := by decide +kernel
theorem dX4_oddInFace_54 : decode cX4_oddInFace 54 = .ok (.iconst 2, 1) := by decide +kernel
theorem dX4_oddInFace_55 : decode cX4_oddInFace 55 = .ok (.if_icmp .eq 45, 3) := by decide +kernel
theorem dX4_oddInFace_58 : decode cX4_oddInFace 58 = .ok (.aload_n 0, 1) := by decide +kernel
theorem dX4_oddInFace_59 : decode cX4_oddInFace 59 = .ok (.getfield 175, 3) := by decide +kernel
theorem dX4_oddInFace_62 : decode cX4_oddInFace 62 = .ok (.ifCond .ne 38, 3) := by decide +kernel
theorem dX4_oddInFace_65 : decode cX4_oddInFace 65 = .ok (.aload_n 0, 1) := by decide +kernel
theorem dX4_oddInFace_66 : decode cX4_oddInFace 66 = .ok (.getfield 158, 3) := by decide +kernel
theorem dX4_oddInFace_69 : decode cX4_oddInFace 69 = .ok (.ifCond .eq 10, 3) := by decide +kernel
theorem dX4_oddInFace_72 : decode cX4_oddInFace 72 = .ok (.aload_n 0, 1) := by decide +kernel
theorem dX4_oddInFace_73 : decode cX4_oddInFace 73 = .ok (.getfield 161, 3) := by decide +kernel
theorem dX4_oddInFace_76 : decode cX4_oddInFace 76 = .ok (.ifCond .ne 24, 3) := by decide +kernel
theorem dX4_oddInFace_79 : decode cX4_oddInFace 79 = .ok (.aload_n 0, 1) := by decide +kernel
theorem dX4_oddInFace_80 : decode cX4_oddInFace 80 = .ok (.getfield 161, 3) := by decide +kernel
theorem dX4_oddInFace_83 : decode cX4_oddInFace 83 = .ok (.ifCond .ne 21, 3) := by decide +kernel
theorem dX4_oddInFace_86 : decode cX4_oddInFace 86 = .ok (.aload_n 0, 1) := by decide +kernel
theorem dX4_oddInFace_87 : decode cX4_oddInFace 87 = .ok (.getfield 167, 3) := by decide +kernel
theorem dX4_oddInFace_90 : decode cX4_oddInFace 90 = .ok (.ifCond .ne 10, 3) := by decide +kernel
theorem dX4_oddInFace_93 : decode cX4_oddInFace 93 = .ok (.aload_n 0, 1) := by decide +kernel
theorem dX4_oddInFace_94 : decode cX4_oddInFace 94 = .ok (.getfield 164, 3) := by decide +kernel
theorem dX4_oddInFace_97 : decode cX4_oddInFace 97 = .ok (.ifCond .ne 7, 3) := by decide +kernel
theorem dX4_oddInFace_100 : decode cX4_oddInFace 100 = .ok (.iconst 1, 1) := by decide +kernel
theorem dX4_oddInFace_101 : decode cX4_oddInFace 101 = .ok (.goto 4, 3) := by decide +kernel
theorem dX4_oddInFace_104 : decode cX4_oddInFace 104 = .ok (.iconst 0, 1) := by decide +kernel
theorem dX4_oddInFace_105 : decode cX4_oddInFace 105 = .ok (.ireturn, 1) := by decide +kernel
theorem dX4_settleInFace_0 : decode cX4_settleInFace 0 = .ok (.aload_n 0, 1) := by decide +kernel
theorem dX4_settleInFace_1 : decode cX4_settleInFace 1 = .ok (.getfield 147, 3) := by decide +kernel
theorem dX4_settleInFace_4 : decode cX4_settleInFace 4 = .ok (.ifCond .ne 21, 3) := by decide +kernel
theorem dX4_settleInFace_7 : decode cX4_settleInFace 7 = .ok (.aload_n 0, 1) := by decide +kernel
theorem dX4_settleInFace_8 : decode cX4_settleInFace 8 = .ok (.iconst 3, 1) := by decide +kernel
theorem dX4_settleInFace_9 : decode cX4_settleInFace 9 = .ok (.putfield 164, 3) := by decide +kernel
theorem dX4_settleInFace_12 : decode cX4_settleInFace 12 = .ok (.aload_n 0, 1) := by decide +kernel
theorem dX4_settleInFace_13 : decode cX4_settleInFace 13 = .ok (.iconst 1, 1) := by decide +kernel
theorem dX4_settleInFace_14 : decode cX4_settleInFace 14 = .ok (.putfield 167, 3) := by decide +kernel
theorem dX4_settleInFace_17 : decode cX4_settleInFace 17 = .ok (.aload_n 0, 1) := by decide +kernel
theorem dX4_settleInFace_18 : decode cX4_settleInFace 18 = .ok (.iconst 1, 1) := by decide +kernel
theorem dX4_settleInFace_19 : decode cX4_settleInFace 19 = .ok (.putfield 175, 3) := by decide +kernel
theorem dX4_settleInFace_22 : decode cX4_settleInFace 22 = .ok (.goto 39, 3) := by decide +kernel
theorem dX4_settleInFace_25 : decode cX4_settleInFace 25 = .ok (.aload_n 0, 1) := by decide +kernel
theorem dX4_settleInFace_26 : decode cX4_settleInFace 26 = .ok (.aload_n 0, 1) := by decide +kernel
theorem dX4_settleInFace_27 : decode cX4_settleInFace 27 = .ok (.getfield 164, 3) := by decide +kernel
theorem dX4_settleInFace_30 : decode cX4_settleInFace 30 = .ok (.iconst 1, 1) := by decide +kernel
theorem dX4_settleInFace_31 : decode cX4_settleInFace 31 = .ok (.if_icmp .ne 7, 3) := by decide +kernel
theorem dX4_settleInFace_34 : decode cX4_settleInFace 34 = .ok (.iconst 3, 1) := by decide +kernel
theorem dX4_settleInFace_35 : decode cX4_settleInFace 35 = .ok (.goto 7, 3) := by decide +kernel
theorem dX4_settleInFace_38 : decode cX4_settleInFace 38 = .ok (.aload_n 0, 1) := by decide +kernel
theorem dX4_settleInFace_39 : decode cX4_settleInFace 39 = .ok (.getfield 164, 3) := by decide +kernel
theorem dX4_settleInFace_42 : decode cX4_settleInFace 42 = .ok (.putfield 164, 3) := by decide +kernel
theorem dX4_settleInFace_45 : decode cX4_settleInFace 45 = .ok (.aload_n 0, 1) := by decide +kernel
theorem dX4_settleInFace_46 : decode cX4_settleInFace 46 = .ok (.aload_n 0, 1) := by decide +kernel
theorem dX4_settleInFace_47 : decode cX4_settleInFace 47 = .ok (.getfield 161, 3) := by decide +kernel
theorem dX4_settleInFace_50 : decode cX4_settleInFace 50 = .ok (.ifCond .ne 7, 3) := by decide +kernel
theorem dX4_settleInFace_53 : decode cX4_settleInFace 53 = .ok (.iconst 1, 1) := by decide +kernel
theorem dX4_settleInFace_54 : decode cX4_settleInFace 54 = .ok (.goto 4, 3) := by decide +kernel
theorem dX4_settleInFace_57 : decode cX4_settleInFace 57 = .ok (.iconst 0, 1) := by decide +kernel
theorem dX4_settleInFace_58 : decode cX4_settleInFace 58 = .ok (.putfield 158, 3) := by decide +kernel
theorem dX4_settleInFace_61 : decode cX4_settleInFace 61 = .ok (.return_, 1) := by decide +kernel
theorem dX4_types_0 : decode cX4_types 0 = .ok (.aload_n 1, 1) := by decide +kernel
theorem dX4_types_1 : decode cX4_types 1 = .ok (.getfield 147, 3) := by decide +kernel
theorem dX4_types_4 : decode cX4_types 4 = .ok (.iconst 2, 1) := by decide +kernel
theorem dX4_types_5 : decode cX4_types 5 = .ok (.if_icmp .eq 28, 3) := by decide +kernel
theorem dX4_types_8 : decode cX4_types 8 = .ok (.aload_n 0, 1) := by decide +kernel
theorem dX4_types_9 : decode cX4_types 9 = .ok (.aload_n 1, 1) := by decide +kernel
theorem dX4_types_10 : decode cX4_types 10 = .ok (.getfield 176, 3) := by decide +kernel
theorem dX4_types_13 : decode cX4_types 13 = .ok (.iload_n 2, 1) := by decide +kernel
theorem dX4_types_14 : decode cX4_types 14 = .ok (.invokevirtual 179, 3) := by decide +kernel
theorem dX4_types_17 : decode cX4_types 17 = .ok (.ifCond .ne 16, 3) := by decide +kernel
theorem dX4_types_20 : decode cX4_types 20 = .ok (.aload_n 0, 1) := by decide +kernel
theorem dX4_types_21 : decode cX4_types 21 = .ok (.bipush 7, 2) := by decide +kernel
theorem dX4_types_23 : decode cX4_types 23 = .ok (.aload_n 1, 1) := by decide +kernel
theorem dX4_types_24 : decode cX4_types 24 = .ok (.getfield 140, 3) := by decide +kernel
theorem dX4_types_27 : decode cX4_types 27 = .ok (.iconst 1, 1) := by decide +kernel
theorem dX4_types_28 : decode cX4_types 28 = .ok (.isub, 1) := by decide +kernel
theorem dX4_types_29 : decode cX4_types 29 = .ok (.invokevirtual 58, 3) := by decide +kernel
theorem dX4_types_32 : decode cX4_types 32 = .ok (.pop, 1) := by decide +kernel
theorem dX4_types_33 : decode cX4_types 33 = .ok (.iconst 0, 1) := by decide +kernel
theorem dX4_types_34 : decode cX4_types 34 = .ok (.istore_n 3, 1) := by decide +kernel
theorem dX4_types_35 : decode cX4_types 35 = .ok (.iload_n 3, 1) := by decide +kernel
theorem dX4_types_36 : decode cX4_types 36 = .ok (.aload_n 1, 1) := by decide +kernel
theorem dX4_types_37 : decode cX4_types 37 = .ok (.getfield 183, 3) := by decide +kernel
theorem dX4_types_40 : decode cX4_types 40 = .ok (.if_icmp .ge 40, 3) := by decide +kernel
theorem dX4_types_43 : decode cX4_types 43 = .ok (.aload_n 0, 1) := by decide +kernel
theorem dX4_types_44 : decode cX4_types 44 = .ok (.aload_n 1, 1) := by decide +kernel
theorem dX4_types_45 : decode cX4_types 45 = .ok (.getfield 186, 3) := by decide +kernel
theorem dX4_types_48 : decode cX4_types 48 = .ok (.iload_n 3, 1) := by decide +kernel
theorem dX4_types_49 : decode cX4_types 49 = .ok (.laload, 1) := by decide +kernel
theorem dX4_types_50 : decode cX4_types 50 = .ok (.iload_n 2, 1) := by decide +kernel
theorem dX4_types_51 : decode cX4_types 51 = .ok (.invokevirtual 179, 3) := by decide +kernel
theorem dX4_types_54 : decode cX4_types 54 = .ok (.ifCond .ne 20, 3) := by decide +kernel
theorem dX4_types_57 : decode cX4_types 57 = .ok (.aload_n 0, 1) := by decide +kernel
theorem dX4_types_58 : decode cX4_types 58 = .ok (.bipush 7, 2) := by decide +kernel
theorem dX4_types_60 : decode cX4_types 60 = .ok (.aload_n 1, 1) := by decide +kernel
theorem dX4_types_61 : decode cX4_types 61 = .ok (.getfield 140, 3) := by decide +kernel
theorem dX4_types_64 : decode cX4_types 64 = .ok (.iconst 2, 1) := by decide +kernel
theorem dX4_types_65 : decode cX4_types 65 = .ok (.iadd, 1) := by decide +kernel
theorem dX4_types_66 : decode cX4_types 66 = .ok (.iconst 3, 1) := by decide +kernel
theorem dX4_types_67 : decode cX4_types 67 = .ok (.iload_n 3, 1) := by decide +kernel
theorem dX4_types_68 : decode cX4_types 68 = .ok (.imul, 1) := by decide +kernel
theorem dX4_types_69 : decode cX4_types 69 = .ok (.iadd, 1) := by decide +kernel
theorem dX4_types_70 : decode cX4_types 70 = .ok (.invokevirtual 58, 3) := by decide +kernel
theorem dX4_types_73 : decode cX4_types 73 = .ok (.pop, 1) := by decide +kernel
theorem dX4_types_74 : decode cX4_types 74 = .ok (.iinc 3 1, 3) := by decide +kernel
theorem dX4_types_77 : decode cX4_types 77 = .ok (.goto (-42), 3) := by decide +kernel
theorem dX4_types_80 : decode cX4_types 80 = .ok (.return_, 1) := by decide +kernel
theorem dX4_isType_0 : decode cX4_isType 0 = .ok (.lload_n 1, 1) := by decide +kernel
theorem dX4_isType_1 : decode cX4_isType 1 = .ok (.ldc2_w 190, 3) := by decide +kernel
theorem dX4_isType_4 : decode cX4_isType 4 = .ok (.lcmp, 1) := by decide +kernel
theorem dX4_isType_5 : decode cX4_isType 5 = .ok (.ifCond .eq 11, 3) := by decide +kernel
theorem dX4_isType_8 : decode cX4_isType 8 = .ok (.lload_n 1, 1) := by decide +kernel
theorem dX4_isType_9 : decode cX4_isType 9 = .ok (.ldc2_w 192, 3) := by decide +kernel
theorem dX4_isType_12 : decode cX4_isType 12 = .ok (.lcmp, 1) := by decide +kernel
theorem dX4_isType_13 : decode cX4_isType 13 = .ok (.ifCond .ne 5, 3) := by decide +kernel
theorem dX4_isType_16 : decode cX4_isType 16 = .ok (.iconst 1, 1) := by decide +kernel
theorem dX4_isType_17 : decode cX4_isType 17 = .ok (.ireturn, 1) := by decide +kernel
theorem dX4_isType_18 : decode cX4_isType 18 = .ok (.aload_n 0, 1) := by decide +kernel
theorem dX4_isType_19 : decode cX4_isType 19 = .ok (.getfield 18, 3) := by decide +kernel
theorem dX4_isType_22 : decode cX4_isType 22 = .ok (.lload_n 1, 1) := by decide +kernel
theorem dX4_isType_23 : decode cX4_isType 23 = .ok (.invokevirtual 45, 3) := by decide +kernel
theorem dX4_isType_26 : decode cX4_isType 26 = .ok (.istore 4, 2) := by decide +kernel
theorem dX4_isType_28 : decode cX4_isType 28 = .ok (.iload 4, 2) := by decide +kernel
theorem dX4_isType_30 : decode cX4_isType 30 = .ok (.ifCond .lt 20, 3) := by decide +kernel
theorem dX4_isType_33 : decode cX4_isType 33 = .ok (.aload_n 0, 1) := by decide +kernel
theorem dX4_isType_34 : decode cX4_isType 34 = .ok (.getfield 18, 3) := by decide +kernel
theorem dX4_isType_37 : decode cX4_isType 37 = .ok (.iload 4, 2) := by decide +kernel
theorem dX4_isType_39 : decode cX4_isType 39 = .ok (.iload_n 3, 1) := by decide +kernel
theorem dX4_isType_40 : decode cX4_isType 40 = .ok (.invokevirtual 194, 3) := by decide +kernel
theorem dX4_isType_43 : decode cX4_isType 43 = .ok (.ifCond .eq 7, 3) := by decide +kernel
theorem dX4_isType_46 : decode cX4_isType 46 = .ok (.iconst 1, 1) := by decide +kernel
theorem dX4_isType_47 : decode cX4_isType 47 = .ok (.goto 4, 3) := by decide +kernel
theorem dX4_isType_50 : decode cX4_isType 50 = .ok (.iconst 0, 1) := by decide +kernel
theorem dX4_isType_51 : decode cX4_isType 51 = .ok (.ireturn, 1) := by decide +kernel
theorem dX4_twice_0 : decode cX4_twice 0 = .ok (.iconst 0, 1) := by decide +kernel
theorem dX4_twice_1 : decode cX4_twice 1 = .ok (.istore_n 3, 1) := by decide +kernel
theorem dX4_twice_2 : decode cX4_twice 2 = .ok (.iload_n 3, 1) := by decide +kernel
theorem dX4_twice_3 : decode cX4_twice 3 = .ok (.aload_n 1, 1) := by decide +kernel
theorem dX4_twice_4 : decode cX4_twice 4 = .ok (.getfield 197, 3) := by decide +kernel
theorem dX4_twice_7 : decode cX4_twice 7 = .ok (.if_icmp .ge 79, 3) := by decide +kernel
theorem dX4_twice_10 : decode cX4_twice 10 = .ok (.aload_n 1, 1) := by decide +kernel
theorem dX4_twice_11 : decode cX4_twice 11 = .ok (.getfield 200, 3) := by decide +kernel
theorem dX4_twice_14 : decode cX4_twice 14 = .ok (.iload_n 3, 1) := by decide +kernel
theorem dX4_twice_15 : decode cX4_twice 15 = .ok (.aaload, 1) := by decide +kernel
theorem dX4_twice_16 : decode cX4_twice 16 = .ok (.aload_n 2, 1) := by decide +kernel
theorem dX4_twice_17 : decode cX4_twice 17 = .ok (.if_acmp .eq 69, 3) := by decide +kernel
theorem dX4_twice_20 : decode cX4_twice 20 = .ok (.aload_n 1, 1) := by decide +kernel
theorem dX4_twice_21 : decode cX4_twice 21 = .ok (.getfield 200, 3) := by decide +kernel
theorem dX4_twice_24 : decode cX4_twice 24 = .ok (.iload_n 3, 1) := by decide +kernel
theorem dX4_twice_25 : decode cX4_twice 25 = .ok (.aaload, 1) := by decide +kernel
theorem dX4_twice_26 : decode cX4_twice 26 = .ok (.astore 4, 2) := by decide +kernel
theorem dX4_twice_28 : decode cX4_twice 28 = .ok (.aload 4, 2) := by decide +kernel
theorem dX4_twice_30 : decode cX4_twice 30 = .ok (.getfield 147, 3) := by decide +kernel
theorem dX4_twice_33 : decode cX4_twice 33 = .ok (.aload_n 2, 1) := by decide +kernel
theorem dX4_twice_34 : decode cX4_twice 34 = .ok (.getfield 147, 3) := by decide +kernel
theorem dX4_twice_37 : decode cX4_twice 37 = .ok (.if_icmp .ne 43, 3) := by decide +kernel
theorem dX4_twice_40 : decode cX4_twice 40 = .ok (.aload 4, 2) := by decide +kernel
theorem dX4_twice_42 : decode cX4_twice 42 = .ok (.getfield 203, 3) := by decide +kernel
theorem dX4_twice_45 : decode cX4_twice 45 = .ok (.aload_n 2, 1) := by decide +kernel
theorem dX4_twice_46 : decode cX4_twice 46 = .ok (.getfield 203, 3) := by decide +kernel
theorem dX4_twice_49 : decode cX4_twice 49 = .ok (.lcmp, 1) := by decide +kernel
theorem dX4_twice_50 : decode cX4_twice 50 = .ok (.ifCond .ne 30, 3) := by decide +kernel
theorem dX4_twice_53 : decode cX4_twice 53 = .ok (.aload_n 2, 1) := by decide +kernel
theorem dX4_twice_54 : decode cX4_twice 54 = .ok (.getfield 147, 3) := by decide +kernel
theorem dX4_twice_57 : decode cX4_twice 57 = .ok (.ifCond .eq 12, 3) := by decide +kernel
theorem dX4_twice_60 : decode cX4_twice 60 = .ok (.aload 4, 2) := by decide +kernel
theorem dX4_twice_62 : decode cX4_twice 62 = .ok (.aload_n 2, 1) := by decide +kernel
theorem dX4_twice_63 : decode cX4_twice 63 = .ok (.invokevirtual 204, 3) := by decide +kernel
theorem dX4_twice_66 : decode cX4_twice 66 = .ok (.ifCond .eq 14, 3) := by decide +kernel
theorem dX4_twice_69 : decode cX4_twice 69 = .ok (.aload_n 0, 1) := by decide +kernel
theorem dX4_twice_70 : decode cX4_twice 70 = .ok (.bipush 6, 2) := by decide +kernel
theorem dX4_twice_72 : decode cX4_twice 72 = .ok (.aload_n 2, 1) := by decide +kernel
theorem dX4_twice_73 : decode cX4_twice 73 = .ok (.getfield 140, 3) := by decide +kernel
theorem dX4_twice_76 : decode cX4_twice 76 = .ok (.invokevirtual 58, 3) := by decide +kernel
theorem dX4_twice_79 : decode cX4_twice 79 = .ok (.pop, 1) := by decide +kernel
theorem dX4_twice_80 : decode cX4_twice 80 = .ok (.iinc 3 1, 3) := by decide +kernel
theorem dX4_twice_83 : decode cX4_twice 83 = .ok (.goto (-81), 3) := by decide +kernel
theorem dX4_twice_86 : decode cX4_twice 86 = .ok (.return_, 1) := by decide +kernel
theorem dX4_aboveIn_0 : decode cX4_aboveIn 0 = .ok (.aload_n 0, 1) := by decide +kernel
theorem dX4_aboveIn_1 : decode cX4_aboveIn 1 = .ok (.getfield 18, 3) := by decide +kernel
theorem dX4_aboveIn_4 : decode cX4_aboveIn 4 = .ok (.getfield 90, 3) := by decide +kernel
theorem dX4_aboveIn_7 : decode cX4_aboveIn 7 = .ok (.iload_n 1, 1) := by decide +kernel
theorem dX4_aboveIn_8 : decode cX4_aboveIn 8 = .ok (.aaload, 1) := by decide +kernel
theorem dX4_aboveIn_9 : decode cX4_aboveIn 9 = .ok (.aload_n 3, 1) := by decide +kernel
theorem dX4_aboveIn_10 : decode cX4_aboveIn 10 = .ok (.invokevirtual 207, 3) := by decide +kernel
theorem dX4_aboveIn_13 : decode cX4_aboveIn 13 = .ok (.astore 4, 2) := by decide +kernel
theorem dX4_aboveIn_15 : decode cX4_aboveIn 15 = .ok (.aload 4, 2) := by decide +kernel
theorem dX4_aboveIn_17 : decode cX4_aboveIn 17 = .ok (.ifnull 55, 3) := by decide +kernel
theorem dX4_aboveIn_20 : decode cX4_aboveIn 20 = .ok (.aload 4, 2) := by decide +kernel
theorem dX4_aboveIn_22 : decode cX4_aboveIn 22 = .ok (.getfield 164, 3) := by decide +kernel
theorem dX4_aboveIn_25 : decode cX4_aboveIn 25 = .ok (.ifCond .eq 47, 3) := by decide +kernel
theorem dX4_aboveIn_28 : decode cX4_aboveIn 28 = .ok (.aload 4, 2) := by decide +kernel
theorem dX4_aboveIn_30 : decode cX4_aboveIn 30 = .ok (.getfield 164, 3) := by decide +kernel
theorem dX4_aboveIn_33 : decode cX4_aboveIn 33 = .ok (.iconst 1, 1) := by decide +kernel
theorem dX4_aboveIn_34 : decode cX4_aboveIn 34 = .ok (.if_icmp .ne 15, 3) := by decide +kernel
theorem dX4_aboveIn_37 : decode cX4_aboveIn 37 = .ok (.aload_n 0, 1) := by decide +kernel
theorem dX4_aboveIn_38 : decode cX4_aboveIn 38 = .ok (.getfield 18, 3) := by decide +kernel
theorem dX4_aboveIn_41 : decode cX4_aboveIn 41 = .ok (.iload_n 1, 1) := by decide +kernel
theorem dX4_aboveIn_42 : decode cX4_aboveIn 42 = .ok (.iload_n 2, 1) := by decide +kernel
theorem dX4_aboveIn_43 : decode cX4_aboveIn 43 = .ok (.invokevirtual 211, 3) := by decide +kernel
theorem dX4_aboveIn_46 : decode cX4_aboveIn 46 = .ok (.ifCond .eq 26, 3) := by decide +kernel
theorem dX4_aboveIn_49 : decode cX4_aboveIn 49 = .ok (.aload 4, 2) := by decide +kernel
theorem dX4_aboveIn_51 : decode cX4_aboveIn 51 = .ok (.getfield 167, 3) := by decide +kernel
theorem dX4_aboveIn_54 : decode cX4_aboveIn 54 = .ok (.ifCond .eq 20, 3) := by decide +kernel
theorem dX4_aboveIn_57 : decode cX4_aboveIn 57 = .ok (.aload_n 0, 1) := by decide +kernel
theorem dX4_aboveIn_58 : decode cX4_aboveIn 58 = .ok (.getfield 18, 3) := by decide +kernel
theorem dX4_aboveIn_61 : decode cX4_aboveIn 61 = .ok (.getfield 90, 3) := by decide +kernel
theorem dX4_aboveIn_64 : decode cX4_aboveIn 64 = .ok (.iload_n 1, 1) := by decide +kernel
theorem dX4_aboveIn_65 : decode cX4_aboveIn 65 = .ok (.aaload, 1) := by decide +kernel
theorem dX4_aboveIn_66 : decode cX4_aboveIn 66 = .ok (.getfield 87, 3) := by decide +kernel
theorem dX4_aboveIn_69 : decode cX4_aboveIn 69 = .ok (.ifCond .eq 5, 3) := by decide +kernel
theorem dX4_aboveIn_72 : decode cX4_aboveIn 72 = .ok (.aconst_null, 1) := by decide +kernel
theorem dX4_aboveIn_73 : decode cX4_aboveIn 73 = .ok (.areturn, 1) := by decide +kernel
theorem dX4_aboveIn_74 : decode cX4_aboveIn 74 = .ok (.aload 4, 2) := by decide +kernel
theorem dX4_aboveIn_76 : decode cX4_aboveIn 76 = .ok (.areturn, 1) := by decide +kernel
theorem dX4_above_0 : decode cX4_above 0 = .ok (.iconst 0, 1) := by decide +kernel
theorem dX4_above_1 : decode cX4_above 1 = .ok (.istore_n 3, 1) := by decide +kernel
theorem dX4_above_2 : decode cX4_above 2 = .ok (.iload_n 3, 1) := by decide +kernel
theorem dX4_above_3 : decode cX4_above 3 = .ok (.aload_n 1, 1) := by decide +kernel
theorem dX4_above_4 : decode cX4_above 4 = .ok (.getfield 197, 3) := by decide +kernel
theorem dX4_above_7 : decode cX4_above 7 = .ok (.if_icmp .ge 153, 3) := by decide +kernel
theorem dX4_above_10 : decode cX4_above 10 = .ok (.aload_n 0, 1) := by decide +kernel
theorem dX4_above_11 : decode cX4_above 11 = .ok (.getfield 9, 3) := by decide +kernel
theorem dX4_above_14 : decode cX4_above 14 = .ok (.ifCond .ne 146, 3) := by decide +kernel
theorem dX4_above_17 : decode cX4_above 17 = .ok (.aload_n 1, 1) := by decide +kernel
theorem dX4_above_18 : decode cX4_above 18 = .ok (.getfield 200, 3) := by decide +kernel
theorem dX4_above_21 : decode cX4_above 21 = .ok (.iload_n 3, 1) := by decide +kernel
theorem dX4_above_22 : decode cX4_above 22 = .ok (.aaload, 1) := by decide +kernel
theorem dX4_above_23 : decode cX4_above 23 = .ok (.astore 4, 2) := by decide +kernel
theorem dX4_above_25 : decode cX4_above 25 = .ok (.aload 4, 2) := by decide +kernel
theorem dX4_above_27 : decode cX4_above 27 = .ok (.getfield 147, 3) := by decide +kernel
theorem dX4_above_30 : decode cX4_above 30 = .ok (.iconst 1, 1) := by decide +kernel
theorem dX4_above_31 : decode cX4_above 31 = .ok (.if_icmp .ne 123, 3) := by decide +kernel
theorem dX4_above_34 : decode cX4_above 34 = .ok (.aload_n 0, 1) := by decide +kernel
theorem dX4_above_35 : decode cX4_above 35 = .ok (.getfield 18, 3) := by decide +kernel
theorem dX4_above_38 : decode cX4_above 38 = .ok (.getfield 214, 3) := by decide +kernel
theorem dX4_above_41 : decode cX4_above 41 = .ok (.iload_n 2, 1) := by decide +kernel
theorem dX4_above_42 : decode cX4_above 42 = .ok (.iaload, 1) := by decide +kernel
theorem dX4_above_43 : decode cX4_above 43 = .ok (.istore 5, 2) := by decide +kernel
theorem dX4_above_45 : decode cX4_above 45 = .ok (.iconst 0, 1) := by decide +kernel
theorem dX4_above_46 : decode cX4_above 46 = .ok (.istore 6, 2) := by decide +kernel
theorem dX4_above_48 : decode cX4_above 48 = .ok (.iload 6, 2) := by decide +kernel
theorem dX4_above_50 : decode cX4_above 50 = .ok (.aload_n 0, 1) := by decide +kernel
theorem dX4_above_51 : decode cX4_above 51 = .ok (.getfield 18, 3) := by decide +kernel
theorem dX4_above_54 : decode cX4_above 54 = .ok (.getfield 216, 3) := by decide +kernel
theorem dX4_above_57 : decode cX4_above 57 = .ok (.iload_n 2, 1) := by decide +kernel
theorem dX4_above_58 : decode cX4_above 58 = .ok (.iaload, 1) := by decide +kernel
theorem dX4_above_59 : decode cX4_above 59 = .ok (.if_icmp .ge 41, 3) := by decide +kernel
theorem dX4_above_62 : decode cX4_above 62 = .ok (.iload 5, 2) := by decide +kernel
theorem dX4_above_64 : decode cX4_above 64 = .ok (.ifCond .lt 36, 3) := by decide +kernel
theorem dX4_above_67 : decode cX4_above 67 = .ok (.aload_n 0, 1) := by decide +kernel
theorem dX4_above_68 : decode cX4_above 68 = .ok (.aload 4, 2) := by decide +kernel
theorem dX4_above_70 : decode cX4_above 70 = .ok (.aload_n 0, 1) := by decide +kernel
theorem dX4_above_71 : decode cX4_above 71 = .ok (.iload 5, 2) := by decide +kernel
theorem dX4_above_73 : decode cX4_above 73 = .ok (.iload_n 2, 1) := by decide +kernel
theorem dX4_above_74 : decode cX4_above 74 = .ok (.aload 4, 2) := by decide +kernel
theorem dX4_above_76 : decode cX4_above 76 = .ok (.invokevirtual 219, 3) := by decide +kernel
theorem dX4_above_79 : decode cX4_above 79 = .ok (.invokevirtual 223, 3) := by decide +kernel
theorem dX4_above_82 : decode cX4_above 82 = .ok (.aload_n 0, 1) := by decide +kernel
theorem dX4_above_83 : decode cX4_above 83 = .ok (.getfield 18, 3) := by decide +kernel
theorem dX4_above_86 : decode cX4_above 86 = .ok (.getfield 214, 3) := by decide +kernel
theorem dX4_above_89 : decode cX4_above 89 = .ok (.iload 5, 2) := by decide +kernel
theorem dX4_above_91 : decode cX4_above 91 = .ok (.iaload, 1) := by decide +kernel
theorem dX4_above_92 : decode cX4_above 92 = .ok (.istore 5, 2) := by decide +kernel
theorem dX4_above_94 : decode cX4_above 94 = .ok (.iinc 6 1, 3) := by decide +kernel
theorem dX4_above_97 : decode cX4_above 97 = .ok (.goto (-49), 3) := by decide +kernel
theorem dX4_above_100 : decode cX4_above 100 = .ok (.aload_n 0, 1) := by decide +kernel
theorem dX4_above_101 : decode cX4_above 101 = .ok (.getfield 18, 3) := by decide +kernel
theorem dX4_above_104 : decode cX4_above 104 = .ok (.iload_n 2, 1) := by decide +kernel
theorem dX4_above_105 : decode cX4_above 105 = .ok (.invokevirtual 227, 3) := by decide +kernel
theorem dX4_above_108 : decode cX4_above 108 = .ok (.istore 6, 2) := by decide +kernel
theorem dX4_above_110 : decode cX4_above 110 = .ok (.iconst 0, 1) := by decide +kernel
theorem dX4_above_111 : decode cX4_above 111 = .ok (.istore 7, 2) := by decide +kernel
theorem dX4_above_113 : decode cX4_above 113 = .ok (.iload 7, 2) := by decide +kernel
theorem dX4_above_115 : decode cX4_above 115 = .ok (.iload 6, 2) := by decide +kernel
theorem dX4_above_117 : decode cX4_above 117 = .ok (.if_icmp .ge 37, 3) := by decide +kernel
theorem dX4_above_120 : decode cX4_above 120 = .ok (.aload_n 0, 1) := by decide +kernel
theorem dX4_above_121 : decode cX4_above 121 = .ok (.aload 4, 2) := by decide +kernel
theorem dX4_above_123 : decode cX4_above 123 = .ok (.aload_n 0, 1) := by decide +kernel
theorem dX4_above_124 : decode cX4_above 124 = .ok (.aload_n 0, 1) := by decide +kernel
theorem dX4_above_125 : decode cX4_above 125 = .ok (.getfield 18, 3) := by decide +kernel
theorem dX4_above_128 : decode cX4_above 128 = .ok (.getfield 231, 3) := by decide +kernel
theorem dX4_above_131 : decode cX4_above 131 = .ok (.iload_n 2, 1) := by decide +kernel
theorem dX4_above_132 : decode cX4_above 132 = .ok (.bipush 64, 2) := by decide +kernel
theorem dX4_above_134 : decode cX4_above 134 = .ok (.imul, 1) := by decide +kernel
theorem dX4_above_135 : decode cX4_above 135 = .ok (.iload 7, 2) := by decide +kernel
theorem dX4_above_137 : decode cX4_above 137 = .ok (.iadd, 1) := by decide +kernel
theorem dX4_above_138 : decode cX4_above 138 = .ok (.iaload, 1) := by decide +kernel
theorem dX4_above_139 : decode cX4_above 139 = .ok (.iload_n 2, 1) := by decide +kernel
theorem dX4_above_140 : decode cX4_above 140 = .ok (.aload 4, 2) := by decide +kernel
theorem dX4_above_142 : decode cX4_above 142 = .ok (.invokevirtual 219, 3) := by decide +kernel
theorem dX4_above_145 : decode cX4_above 145 = .ok (.invokevirtual 223, 3) := by decide +kernel
theorem dX4_above_148 : decode cX4_above 148 = .ok (.iinc 7 1, 3) := by decide +kernel
theorem dX4_above_151 : decode cX4_above 151 = .ok (.goto (-38), 3) := by decide +kernel
theorem dX4_above_154 : decode cX4_above 154 = .ok (.iinc 3 1, 3) := by decide +kernel
theorem dX4_above_157 : decode cX4_above 157 = .ok (.goto (-155), 3) := by decide +kernel
theorem dX4_above_160 : decode cX4_above 160 = .ok (.return_, 1) := by decide +kernel
theorem dX4_against_0 : decode cX4_against 0 = .ok (.aload_n 2, 1) := by decide +kernel
theorem dX4_against_1 : decode cX4_against 1 = .ok (.ifnonnull 4, 3) := by decide +kernel
theorem dX4_against_4 : decode cX4_against 4 = .ok (.return_, 1) := by decide +kernel
theorem dX4_against_5 : decode cX4_against 5 = .ok (.aload_n 2, 1) := by decide +kernel
theorem dX4_against_6 : decode cX4_against 6 = .ok (.getfield 167, 3) := by decide +kernel
theorem dX4_against_9 : decode cX4_against 9 = .ok (.aload_n 1, 1) := by decide +kernel
theorem dX4_against_10 : decode cX4_against 10 = .ok (.getfield 167, 3) := by decide +kernel
theorem dX4_against_13 : decode cX4_against 13 = .ok (.if_icmp .ne 58, 3) := by decide +kernel
theorem dX4_against_16 : decode cX4_against 16 = .ok (.aload_n 2, 1) := by decide +kernel
theorem dX4_against_17 : decode cX4_against 17 = .ok (.getfield 167, 3) := by decide +kernel
theorem dX4_against_20 : decode cX4_against 20 = .ok (.ifCond .ne 55, 3) := by decide +kernel
theorem dX4_against_23 : decode cX4_against 23 = .ok (.aload_n 2, 1) := by decide +kernel
theorem dX4_against_24 : decode cX4_against 24 = .ok (.getfield 175, 3) := by decide +kernel
theorem dX4_against_27 : decode cX4_against 27 = .ok (.ifCond .ne 44, 3) := by decide +kernel
theorem dX4_against_30 : decode cX4_against 30 = .ok (.aload_n 2, 1) := by decide +kernel
theorem dX4_against_31 : decode cX4_against 31 = .ok (.getfield 164, 3) := by decide +kernel
theorem dX4_against_34 : decode cX4_against 34 = .ok (.aload_n 1, 1) := by decide +kernel
theorem dX4_against_35 : decode cX4_against 35 = .ok (.getfield 164, 3) := by decide +kernel
theorem dX4_against_38 : decode cX4_against 38 = .ok (.if_icmp .gt 33, 3) := by decide +kernel
theorem dX4_against_41 : decode cX4_against 41 = .ok (.aload_n 2, 1) := by decide +kernel
theorem dX4_against_42 : decode cX4_against 42 = .ok (.getfield 176, 3) := by decide +kernel
theorem dX4_against_45 : decode cX4_against 45 = .ok (.aload_n 1, 1) := by decide +kernel
theorem dX4_against_46 : decode cX4_against 46 = .ok (.getfield 176, 3) := by decide +kernel
theorem dX4_against_49 : decode cX4_against 49 = .ok (.lcmp, 1) := by decide +kernel
theorem dX4_against_50 : decode cX4_against 50 = .ok (.ifCond .eq 25, 3) := by decide +kernel
theorem dX4_against_53 : decode cX4_against 53 = .ok (.aload_n 0, 1) := by decide +kernel
theorem dX4_against_54 : decode cX4_against 54 = .ok (.getfield 18, 3) := by decide +kernel
theorem dX4_against_57 : decode cX4_against 57 = .ok (.aload_n 1, 1) := by decide +kernel
theorem dX4_against_58 : decode cX4_against 58 = .ok (.getfield 176, 3) := by decide +kernel
theorem dX4_against_61 : decode cX4_against 61 = .ok (.aload_n 2, 1) := by decide +kernel
theorem dX4_against_62 : decode cX4_against 62 = .ok (.getfield 176, 3) := by decide +kernel
theorem dX4_against_65 : decode cX4_against 65 = .ok (.invokevirtual 234, 3) := by decide +kernel
theorem dX4_against_68 : decode cX4_against 68 = .ok (.ifCond .ne 7, 3) := by decide +kernel
theorem dX4_against_71 : decode cX4_against 71 = .ok (.iconst 1, 1) := by decide +kernel
theorem dX4_against_72 : decode cX4_against 72 = .ok (.goto 4, 3) := by decide +kernel
theorem dX4_against_75 : decode cX4_against 75 = .ok (.iconst 0, 1) := by decide +kernel
theorem dX4_against_76 : decode cX4_against 76 = .ok (.istore_n 3, 1) := by decide +kernel
theorem dX4_against_77 : decode cX4_against 77 = .ok (.iload_n 3, 1) := by decide +kernel
theorem dX4_against_78 : decode cX4_against 78 = .ok (.ifCond .eq 14, 3) := by decide +kernel
theorem dX4_against_81 : decode cX4_against 81 = .ok (.aload_n 0, 1) := by decide +kernel
theorem dX4_against_82 : decode cX4_against 82 = .ok (.bipush 9, 2) := by decide +kernel
theorem dX4_against_84 : decode cX4_against 84 = .ok (.aload_n 1, 1) := by decide +kernel
theorem dX4_against_85 : decode cX4_against 85 = .ok (.getfield 140, 3) := by decide +kernel
theorem dX4_against_88 : decode cX4_against 88 = .ok (.invokevirtual 58, 3) := by decide +kernel
theorem dX4_against_91 : decode cX4_against 91 = .ok (.pop, 1) := by decide +kernel
theorem dX4_against_92 : decode cX4_against 92 = .ok (.return_, 1) := by decide +kernel
theorem dX4_impliedMaker_0 : decode cX4_impliedMaker 0 = .ok (.aload_n 1, 1) := by decide +kernel
theorem dX4_impliedMaker_1 : decode cX4_impliedMaker 1 = .ok (.getfield 87, 3) := by decide +kernel
theorem dX4_impliedMaker_4 : decode cX4_impliedMaker 4 = .ok (.ifCond .ne 52, 3) := by decide +kernel
theorem dX4_impliedMaker_7 : decode cX4_impliedMaker 7 = .ok (.aload_n 1, 1) := by decide +kernel
theorem dX4_impliedMaker_8 : decode cX4_impliedMaker 8 = .ok (.invokevirtual 238, 3) := by decide +kernel
theorem dX4_impliedMaker_11 : decode cX4_impliedMaker 11 = .ok (.ifCond .ne 45, 3) := by decide +kernel
theorem dX4_impliedMaker_14 : decode cX4_impliedMaker 14 = .ok (.aload_n 0, 1) := by decide +kernel
theorem dX4_impliedMaker_15 : decode cX4_impliedMaker 15 = .ok (.getfield 22, 3) := by decide +kernel
theorem dX4_impliedMaker_18 : decode cX4_impliedMaker 18 = .ok (.invokevirtual 242, 3) := by decide +kernel
theorem dX4_impliedMaker_21 : decode cX4_impliedMaker 21 = .ok (.astore_n 2, 1) := by decide +kernel
theorem dX4_impliedMaker_22 : decode cX4_impliedMaker 22 = .ok (.aload_n 2, 1) := by decide +kernel
theorem dX4_impliedMaker_23 : decode cX4_impliedMaker 23 = .ok (.iconst 2, 1) := by decide +kernel
theorem dX4_impliedMaker_24 : decode cX4_impliedMaker 24 = .ok (.putfield 147, 3) := by decide +kernel
theorem dX4_impliedMaker_27 : decode cX4_impliedMaker 27 = .ok (.aload_n 2, 1) := by decide +kernel
theorem dX4_impliedMaker_28 : decode cX4_impliedMaker 28 = .ok (.aload_n 1, 1) := by decide +kernel
theorem dX4_impliedMaker_29 : decode cX4_impliedMaker 29 = .ok (.getfield 111, 3) := by decide +kernel
theorem dX4_impliedMaker_32 : decode cX4_impliedMaker 32 = .ok (.ifCond .eq 7, 3) := by decide +kernel
theorem dX4_impliedMaker_35 : decode cX4_impliedMaker 35 = .ok (.iconst 3, 1) := by decide +kernel
theorem dX4_impliedMaker_36 : decode cX4_impliedMaker 36 = .ok (.goto 4, 3) := by decide +kernel
theorem dX4_impliedMaker_39 : decode cX4_impliedMaker 39 = .ok (.iconst 1, 1) := by decide +kernel
theorem dX4_impliedMaker_40 : decode cX4_impliedMaker 40 = .ok (.putfield 164, 3) := by decide +kernel
theorem dX4_impliedMaker_43 : decode cX4_impliedMaker 43 = .ok (.aload_n 2, 1) := by decide +kernel
theorem dX4_impliedMaker_44 : decode cX4_impliedMaker 44 = .ok (.aload_n 1, 1) := by decide +kernel
theorem dX4_impliedMaker_45 : decode cX4_impliedMaker 45 = .ok (.getfield 55, 3) := by decide +kernel
theorem dX4_impliedMaker_48 : decode cX4_impliedMaker 48 = .ok (.putfield 140, 3) := by decide +kernel
theorem dX4_impliedMaker_51 : decode cX4_impliedMaker 51 = .ok (.aload_n 1, 1) := by decide +kernel
theorem dX4_impliedMaker_52 : decode cX4_impliedMaker 52 = .ok (.aload_n 2, 1) := by decide +kernel
theorem dX4_impliedMaker_53 : decode cX4_impliedMaker 53 = .ok (.invokevirtual 246, 3) := by decide +kernel
theorem dX4_impliedMaker_56 : decode cX4_impliedMaker 56 = .ok (.return_, 1) := by decide +kernel
theorem dX4_bridges_0 : decode cX4_bridges 0 = .ok (.aload_n 1, 1) := by decide +kernel
theorem dX4_bridges_1 : decode cX4_bridges 1 = .ok (.getfield 197, 3) := by decide +kernel
theorem dX4_bridges_4 : decode cX4_bridges 4 = .ok (.istore_n 3, 1) := by decide +kernel
theorem dX4_bridges_5 : decode cX4_bridges 5 = .ok (.iconst 0, 1) := by decide +kernel
theorem dX4_bridges_6 : decode cX4_bridges 6 = .ok (.istore 4, 2) := by decide +kernel
theorem dX4_bridges_8 : decode cX4_bridges 8 = .ok (.iload 4, 2) := by decide +kernel
theorem dX4_bridges_10 : decode cX4_bridges 10 = .ok (.iload_n 3, 1) := by decide +kernel
theorem dX4_bridges_11 : decode cX4_bridges 11 = .ok (.if_icmp .ge 172, 3) := by decide +kernel
theorem dX4_bridges_14 : decode cX4_bridges 14 = .ok (.aload_n 0, 1) := by decide +kernel
theorem dX4_bridges_15 : decode cX4_bridges 15 = .ok (.getfield 9, 3) := by decide +kernel
theorem dX4_bridges_18 : decode cX4_bridges 18 = .ok (.ifCond .ne 165, 3) := by decide +kernel
theorem dX4_bridges_21 : decode cX4_bridges 21 = .ok (.aload_n 1, 1) := by decide +kernel
theorem dX4_bridges_22 : decode cX4_bridges 22 = .ok (.getfield 200, 3) := by decide +kernel
theorem dX4_bridges_25 : decode cX4_bridges 25 = .ok (.iload 4, 2) := by decide +kernel
theorem dX4_bridges_27 : decode cX4_bridges 27 = .ok (.aaload, 1) := by decide +kernel
theorem dX4_bridges_28 : decode cX4_bridges 28 = .ok (.astore 5, 2) := by decide +kernel
theorem dX4_bridges_30 : decode cX4_bridges 30 = .ok (.aload 5, 2) := by decide +kernel
theorem dX4_bridges_32 : decode cX4_bridges 32 = .ok (.getfield 147, 3) := by decide +kernel
theorem dX4_bridges_35 : decode cX4_bridges 35 = .ok (.iconst 1, 1) := by decide +kernel
theorem dX4_bridges_36 : decode cX4_bridges 36 = .ok (.if_icmp .ne 141, 3) := by decide +kernel
theorem dX4_bridges_39 : decode cX4_bridges 39 = .ok (.aload 5, 2) := by decide +kernel
theorem dX4_bridges_41 : decode cX4_bridges 41 = .ok (.invokevirtual 249, 3) := by decide +kernel
theorem dX4_bridges_44 : decode cX4_bridges 44 = .ok (.ifCond .eq 133, 3) := by decide +kernel
theorem dX4_bridges_47 : decode cX4_bridges 47 = .ok (.aload 5, 2) := by decide +kernel
theorem dX4_bridges_49 : decode cX4_bridges 49 = .ok (.getfield 158, 3) := by decide +kernel
theorem dX4_bridges_52 : decode cX4_bridges 52 = .ok (.ifCond .ne 125, 3) := by decide +kernel
theorem dX4_bridges_55 : decode cX4_bridges 55 = .ok (.aload_n 0, 1) := by decide +kernel
theorem dX4_bridges_56 : decode cX4_bridges 56 = .ok (.getfield 18, 3) := by decide +kernel
theorem dX4_bridges_59 : decode cX4_bridges 59 = .ok (.getfield 214, 3) := by decide +kernel
theorem dX4_bridges_62 : decode cX4_bridges 62 = .ok (.iload_n 2, 1) := by decide +kernel
theorem dX4_bridges_63 : decode cX4_bridges 63 = .ok (.iaload, 1) := by decide +kernel
theorem dX4_bridges_64 : decode cX4_bridges 64 = .ok (.istore 6, 2) := by decide +kernel
theorem dX4_bridges_66 : decode cX4_bridges 66 = .ok (.iconst 0, 1) := by decide +kernel
theorem dX4_bridges_67 : decode cX4_bridges 67 = .ok (.istore 7, 2) := by decide +kernel
theorem dX4_bridges_69 : decode cX4_bridges 69 = .ok (.iload 7, 2) := by decide +kernel
theorem dX4_bridges_71 : decode cX4_bridges 71 = .ok (.aload_n 0, 1) := by decide +kernel
theorem dX4_bridges_72 : decode cX4_bridges 72 = .ok (.getfield 18, 3) := by decide +kernel
theorem dX4_bridges_75 : decode cX4_bridges 75 = .ok (.getfield 216, 3) := by decide +kernel
theorem dX4_bridges_78 : decode cX4_bridges 78 = .ok (.iload_n 2, 1) := by decide +kernel
theorem dX4_bridges_79 : decode cX4_bridges 79 = .ok (.iaload, 1) := by decide +kernel
theorem dX4_bridges_80 : decode cX4_bridges 80 = .ok (.if_icmp .ge 42, 3) := by decide +kernel
theorem dX4_bridges_83 : decode cX4_bridges 83 = .ok (.iload 6, 2) := by decide +kernel
theorem dX4_bridges_85 : decode cX4_bridges 85 = .ok (.ifCond .lt 37, 3) := by decide +kernel
theorem dX4_bridges_88 : decode cX4_bridges 88 = .ok (.aload_n 0, 1) := by decide +kernel
theorem dX4_bridges_89 : decode cX4_bridges 89 = .ok (.aload_n 1, 1) := by decide +kernel
theorem dX4_bridges_90 : decode cX4_bridges 90 = .ok (.aload 5, 2) := by decide +kernel
theorem dX4_bridges_92 : decode cX4_bridges 92 = .ok (.aload_n 0, 1) := by decide +kernel
theorem dX4_bridges_93 : decode cX4_bridges 93 = .ok (.iload 6, 2) := by decide +kernel
theorem dX4_bridges_95 : decode cX4_bridges 95 = .ok (.iload_n 2, 1) := by decide +kernel
theorem dX4_bridges_96 : decode cX4_bridges 96 = .ok (.aload 5, 2) := by decide +kernel
theorem dX4_bridges_98 : decode cX4_bridges 98 = .ok (.invokevirtual 219, 3) := by decide +kernel
theorem dX4_bridges_101 : decode cX4_bridges 101 = .ok (.invokevirtual 252, 3) := by decide +kernel
theorem dX4_bridges_104 : decode cX4_bridges 104 = .ok (.aload_n 0, 1) := by decide +kernel
theorem dX4_bridges_105 : decode cX4_bridges 105 = .ok (.getfield 18, 3) := by decide +kernel
theorem dX4_bridges_108 : decode cX4_bridges 108 = .ok (.getfield 214, 3) := by decide +kernel
theorem dX4_bridges_111 : decode cX4_bridges 111 = .ok (.iload 6, 2) := by decide +kernel
theorem dX4_bridges_113 : decode cX4_bridges 113 = .ok (.iaload, 1) := by decide +kernel
theorem dX4_bridges_114 : decode cX4_bridges 114 = .ok (.istore 6, 2) := by decide +kernel
theorem dX4_bridges_116 : decode cX4_bridges 116 = .ok (.iinc 7 1, 3) := by decide +kernel
theorem dX4_bridges_119 : decode cX4_bridges 119 = .ok (.goto (-50), 3) := by decide +kernel
theorem dX4_bridges_122 : decode cX4_bridges 122 = .ok (.aload_n 0, 1) := by decide +kernel
theorem dX4_bridges_123 : decode cX4_bridges 123 = .ok (.getfield 18, 3) := by decide +kernel
theorem dX4_bridges_126 : decode cX4_bridges 126 = .ok (.iload_n 2, 1) := by decide +kernel
theorem dX4_bridges_127 : decode cX4_bridges 127 = .ok (.invokevirtual 227, 3) := by decide +kernel
theorem dX4_bridges_130 : decode cX4_bridges 130 = .ok (.istore 7, 2) := by decide +kernel
theorem dX4_bridges_132 : decode cX4_bridges 132 = .ok (.iconst 0, 1) := by decide +kernel
theorem dX4_bridges_133 : decode cX4_bridges 133 = .ok (.istore 8, 2) := by decide +kernel
theorem dX4_bridges_135 : decode cX4_bridges 135 = .ok (.iload 8, 2) := by decide +kernel
theorem dX4_bridges_137 : decode cX4_bridges 137 = .ok (.iload 7, 2) := by decide +kernel
theorem dX4_bridges_139 : decode cX4_bridges 139 = .ok (.if_icmp .ge 38, 3) := by decide +kernel
theorem dX4_bridges_142 : decode cX4_bridges 142 = .ok (.aload_n 0, 1) := by decide +kernel
theorem dX4_bridges_143 : decode cX4_bridges 143 = .ok (.aload_n 1, 1) := by decide +kernel
theorem dX4_bridges_144 : decode cX4_bridges 144 = .ok (.aload 5, 2) := by decide +kernel
theorem dX4_bridges_146 : decode cX4_bridges 146 = .ok (.aload_n 0, 1) := by decide +kernel
theorem dX4_bridges_147 : decode cX4_bridges 147 = .ok (.aload_n 0, 1) := by decide +kernel
theorem dX4_bridges_148 : decode cX4_bridges 148 = .ok (.getfield 18, 3) := by decide +kernel
theorem dX4_bridges_151 : decode cX4_bridges 151 = .ok (.getfield 231, 3) := by decide +kernel
theorem dX4_bridges_154 : decode cX4_bridges 154 = .ok (.iload_n 2, 1) := by decide +kernel
theorem dX4_bridges_155 : decode cX4_bridges 155 = .ok (.bipush 64, 2) := by decide +kernel
theorem dX4_bridges_157 : decode cX4_bridges 157 = .ok (.imul, 1) := by decide +kernel
theorem dX4_bridges_158 : decode cX4_bridges 158 = .ok (.iload 8, 2) := by decide +kernel
theorem dX4_bridges_160 : decode cX4_bridges 160 = .ok (.iadd, 1) := by decide +kernel
theorem dX4_bridges_161 : decode cX4_bridges 161 = .ok (.iaload, 1) := by decide +kernel
theorem dX4_bridges_162 : decode cX4_bridges 162 = .ok (.iload_n 2, 1) := by decide +kernel
theorem dX4_bridges_163 : decode cX4_bridges 163 = .ok (.aload 5, 2) := by decide +kernel
theorem dX4_bridges_165 : decode cX4_bridges 165 = .ok (.invokevirtual 219, 3) := by decide +kernel
theorem dX4_bridges_168 : decode cX4_bridges 168 = .ok (.invokevirtual 252, 3) := by decide +kernel
theorem dX4_bridges_171 : decode cX4_bridges 171 = .ok (.iinc 8 1, 3) := by decide +kernel
theorem dX4_bridges_174 : decode cX4_bridges 174 = .ok (.goto (-39), 3) := by decide +kernel
theorem dX4_bridges_177 : decode cX4_bridges 177 = .ok (.iinc 4 1, 3) := by decide +kernel
theorem dX4_bridges_180 : decode cX4_bridges 180 = .ok (.goto (-172), 3) := by decide +kernel
theorem dX4_bridges_183 : decode cX4_bridges 183 = .ok (.return_, 1) := by decide +kernel
theorem dX4_bridge_0 : decode cX4_bridge 0 = .ok (.aload_n 3, 1) := by decide +kernel
theorem dX4_bridge_1 : decode cX4_bridge 1 = .ok (.ifnull 37, 3) := by decide +kernel
theorem dX4_bridge_4 : decode cX4_bridge 4 = .ok (.aload_n 3, 1) := by decide +kernel
theorem dX4_bridge_5 : decode cX4_bridge 5 = .ok (.getfield 167, 3) := by decide +kernel
theorem dX4_bridge_8 : decode cX4_bridge 8 = .ok (.ifCond .ne 30, 3) := by decide +kernel
theorem dX4_bridge_11 : decode cX4_bridge 11 = .ok (.aload_n 3, 1) := by decide +kernel
theorem dX4_bridge_12 : decode cX4_bridge 12 = .ok (.getfield 176, 3) := by decide +kernel
theorem dX4_bridge_15 : decode cX4_bridge 15 = .ok (.aload_n 2, 1) := by decide +kernel
theorem dX4_bridge_16 : decode cX4_bridge 16 = .ok (.getfield 176, 3) := by decide +kernel
theorem dX4_bridge_19 : decode cX4_bridge 19 = .ok (.lcmp, 1) := by decide +kernel
theorem dX4_bridge_20 : decode cX4_bridge 20 = .ok (.ifCond .eq 18, 3) := by decide +kernel
theorem dX4_bridge_23 : decode cX4_bridge 23 = .ok (.aload_n 1, 1) := by decide +kernel
theorem dX4_bridge_24 : decode cX4_bridge 24 = .ok (.aload_n 3, 1) := by decide +kernel
theorem dX4_bridge_25 : decode cX4_bridge 25 = .ok (.invokevirtual 256, 3) := by decide +kernel
theorem dX4_bridge_28 : decode cX4_bridge 28 = .ok (.ifnonnull 10, 3) := by decide +kernel
theorem dX4_bridge_31 : decode cX4_bridge 31 = .ok (.aload_n 0, 1) := by decide +kernel
theorem dX4_bridge_32 : decode cX4_bridge 32 = .ok (.getfield 9, 3) := by decide +kernel
theorem dX4_bridge_35 : decode cX4_bridge 35 = .ok (.ifCond .eq 4, 3) := by decide +kernel
theorem dX4_bridge_38 : decode cX4_bridge 38 = .ok (.return_, 1) := by decide +kernel
theorem dX4_bridge_39 : decode cX4_bridge 39 = .ok (.aload_n 1, 1) := by decide +kernel
theorem dX4_bridge_40 : decode cX4_bridge 40 = .ok (.invokevirtual 259, 3) := by decide +kernel
theorem dX4_bridge_43 : decode cX4_bridge 43 = .ok (.bipush 12, 2) := by decide +kernel
theorem dX4_bridge_45 : decode cX4_bridge 45 = .ok (.if_icmp .lt 14, 3) := by decide +kernel
theorem dX4_bridge_48 : decode cX4_bridge 48 = .ok (.aload_n 0, 1) := by decide +kernel
theorem dX4_bridge_49 : decode cX4_bridge 49 = .ok (.iconst 3, 1) := by decide +kernel
theorem dX4_bridge_50 : decode cX4_bridge 50 = .ok (.aload_n 1, 1) := by decide +kernel
theorem dX4_bridge_51 : decode cX4_bridge 51 = .ok (.getfield 55, 3) := by decide +kernel
theorem dX4_bridge_54 : decode cX4_bridge 54 = .ok (.invokevirtual 58, 3) := by decide +kernel
theorem dX4_bridge_57 : decode cX4_bridge 57 = .ok (.pop, 1) := by decide +kernel
theorem dX4_bridge_58 : decode cX4_bridge 58 = .ok (.return_, 1) := by decide +kernel
theorem dX4_bridge_59 : decode cX4_bridge 59 = .ok (.aload_n 0, 1) := by decide +kernel
theorem dX4_bridge_60 : decode cX4_bridge 60 = .ok (.getfield 22, 3) := by decide +kernel
theorem dX4_bridge_63 : decode cX4_bridge 63 = .ok (.aload_n 1, 1) := by decide +kernel
theorem dX4_bridge_64 : decode cX4_bridge 64 = .ok (.aload_n 2, 1) := by decide +kernel
theorem dX4_bridge_65 : decode cX4_bridge 65 = .ok (.aload_n 3, 1) := by decide +kernel
theorem dX4_bridge_66 : decode cX4_bridge 66 = .ok (.getfield 176, 3) := by decide +kernel
theorem dX4_bridge_69 : decode cX4_bridge 69 = .ok (.invokestatic 262, 3) := by decide +kernel
theorem dX4_bridge_72 : decode cX4_bridge 72 = .ok (.pop, 1) := by decide +kernel
theorem dX4_bridge_73 : decode cX4_bridge 73 = .ok (.return_, 1) := by decide +kernel
theorem dX4_addBridge_0 : decode cX4_addBridge 0 = .ok (.aload_n 0, 1) := by decide +kernel
theorem dX4_addBridge_1 : decode cX4_addBridge 1 = .ok (.invokevirtual 242, 3) := by decide +kernel
theorem dX4_addBridge_4 : decode cX4_addBridge 4 = .ok (.astore 5, 2) := by decide +kernel
theorem dX4_addBridge_6 : decode cX4_addBridge 6 = .ok (.aload 5, 2) := by decide +kernel
theorem dX4_addBridge_8 : decode cX4_addBridge 8 = .ok (.iconst 1, 1) := by decide +kernel
theorem dX4_addBridge_9 : decode cX4_addBridge 9 = .ok (.putfield 147, 3) := by decide +kernel
theorem dX4_addBridge_12 : decode cX4_addBridge 12 = .ok (.aload 5, 2) := by decide +kernel
theorem dX4_addBridge_14 : decode cX4_addBridge 14 = .ok (.iconst 1, 1) := by decide +kernel
theorem dX4_addBridge_15 : decode cX4_addBridge 15 = .ok (.putfield 266, 3) := by decide +kernel
theorem dX4_addBridge_18 : decode cX4_addBridge 18 = .ok (.aload 5, 2) := by decide +kernel
theorem dX4_addBridge_20 : decode cX4_addBridge 20 = .ok (.aload_n 2, 1) := by decide +kernel
theorem dX4_addBridge_21 : decode cX4_addBridge 21 = .ok (.getfield 167, 3) := by decide +kernel
theorem dX4_addBridge_24 : decode cX4_addBridge 24 = .ok (.putfield 167, 3) := by decide +kernel
theorem dX4_addBridge_27 : decode cX4_addBridge 27 = .ok (.aload 5, 2) := by decide +kernel
theorem dX4_addBridge_29 : decode cX4_addBridge 29 = .ok (.aload_n 2, 1) := by decide +kernel
theorem dX4_addBridge_30 : decode cX4_addBridge 30 = .ok (.getfield 164, 3) := by decide +kernel
theorem dX4_addBridge_33 : decode cX4_addBridge 33 = .ok (.putfield 164, 3) := by decide +kernel
theorem dX4_addBridge_36 : decode cX4_addBridge 36 = .ok (.aload 5, 2) := by decide +kernel
theorem dX4_addBridge_38 : decode cX4_addBridge 38 = .ok (.aload_n 2, 1) := by decide +kernel
theorem dX4_addBridge_39 : decode cX4_addBridge 39 = .ok (.getfield 203, 3) := by decide +kernel
theorem dX4_addBridge_42 : decode cX4_addBridge 42 = .ok (.putfield 203, 3) := by decide +kernel
theorem dX4_addBridge_45 : decode cX4_addBridge 45 = .ok (.aload 5, 2) := by decide +kernel
theorem dX4_addBridge_47 : decode cX4_addBridge 47 = .ok (.lload_n 3, 1) := by decide +kernel
theorem dX4_addBridge_48 : decode cX4_addBridge 48 = .ok (.putfield 176, 3) := by decide +kernel
theorem dX4_addBridge_51 : decode cX4_addBridge 51 = .ok (.aload 5, 2) := by decide +kernel
theorem dX4_addBridge_53 : decode cX4_addBridge 53 = .ok (.aload_n 2, 1) := by decide +kernel
theorem dX4_addBridge_54 : decode cX4_addBridge 54 = .ok (.getfield 183, 3) := by decide +kernel
theorem dX4_addBridge_57 : decode cX4_addBridge 57 = .ok (.putfield 183, 3) := by decide +kernel
theorem dX4_addBridge_60 : decode cX4_addBridge 60 = .ok (.iconst 0, 1) := by decide +kernel
theorem dX4_addBridge_61 : decode cX4_addBridge 61 = .ok (.istore 6, 2) := by decide +kernel
theorem dX4_addBridge_63 : decode cX4_addBridge 63 = .ok (.iload 6, 2) := by decide +kernel
theorem dX4_addBridge_65 : decode cX4_addBridge 65 = .ok (.aload_n 2, 1) := by decide +kernel
theorem dX4_addBridge_66 : decode cX4_addBridge 66 = .ok (.getfield 183, 3) := by decide +kernel
theorem dX4_addBridge_69 : decode cX4_addBridge 69 = .ok (.if_icmp .ge 24, 3) := by decide +kernel
theorem dX4_addBridge_72 : decode cX4_addBridge 72 = .ok (.aload 5, 2) := by decide +kernel
theorem dX4_addBridge_74 : decode cX4_addBridge 74 = .ok (.getfield 186, 3) := by decide +kernel
theorem dX4_addBridge_77 : decode cX4_addBridge 77 = .ok (.iload 6, 2) := by decide +kernel
theorem dX4_addBridge_79 : decode cX4_addBridge 79 = .ok (.aload_n 2, 1) := by decide +kernel
theorem dX4_addBridge_80 : decode cX4_addBridge 80 = .ok (.getfield 186, 3) := by decide +kernel
theorem dX4_addBridge_83 : decode cX4_addBridge 83 = .ok (.iload 6, 2) := by decide +kernel
theorem dX4_addBridge_85 : decode cX4_addBridge 85 = .ok (.laload, 1) := by decide +kernel
theorem dX4_addBridge_86 : decode cX4_addBridge 86 = .ok (.lastore, 1) := by decide +kernel
theorem dX4_addBridge_87 : decode cX4_addBridge 87 = .ok (.iinc 6 1, 3) := by decide +kernel
theorem dX4_addBridge_90 : decode cX4_addBridge 90 = .ok (.goto (-27), 3) := by decide +kernel
theorem dX4_addBridge_93 : decode cX4_addBridge 93 = .ok (.aload_n 1, 1) := by decide +kernel
theorem dX4_addBridge_94 : decode cX4_addBridge 94 = .ok (.aload 5, 2) := by decide +kernel
theorem dX4_addBridge_96 : decode cX4_addBridge 96 = .ok (.invokevirtual 246, 3) := by decide +kernel
theorem dX4_addBridge_99 : decode cX4_addBridge 99 = .ok (.aload 5, 2) := by decide +kernel
theorem dX4_addBridge_101 : decode cX4_addBridge 101 = .ok (.areturn, 1) := by decide +kernel
theorem dX4_whole_0 : decode cX4_whole 0 = .ok (.aload_n 1, 1) := by decide +kernel
theorem dX4_whole_1 : decode cX4_whole 1 = .ok (.getfield 170, 3) := by decide +kernel
theorem dX4_whole_4 : decode cX4_whole 4 = .ok (.ifCond .ne 10, 3) := by decide +kernel
theorem dX4_whole_7 : decode cX4_whole 7 = .ok (.aload_n 1, 1) := by decide +kernel
theorem dX4_whole_8 : decode cX4_whole 8 = .ok (.getfield 87, 3) := by decide +kernel
theorem dX4_whole_11 : decode cX4_whole 11 = .ok (.ifCond .eq 4, 3) := by decide +kernel
theorem dX4_whole_14 : decode cX4_whole 14 = .ok (.return_, 1) := by decide +kernel
theorem dX4_whole_15 : decode cX4_whole 15 = .ok (.aload_n 0, 1) := by decide +kernel
theorem dX4_whole_16 : decode cX4_whole 16 = .ok (.getfield 18, 3) := by decide +kernel
theorem dX4_whole_19 : decode cX4_whole 19 = .ok (.getfield 214, 3) := by decide +kernel
theorem dX4_whole_22 : decode cX4_whole 22 = .ok (.iload_n 2, 1) := by decide +kernel
theorem dX4_whole_23 : decode cX4_whole 23 = .ok (.iaload, 1) := by decide +kernel
theorem dX4_whole_24 : decode cX4_whole 24 = .ok (.istore_n 3, 1) := by decide +kernel
theorem dX4_whole_25 : decode cX4_whole 25 = .ok (.iconst 0, 1) := by decide +kernel
theorem dX4_whole_26 : decode cX4_whole 26 = .ok (.istore 4, 2) := by decide +kernel
theorem dX4_whole_28 : decode cX4_whole 28 = .ok (.iload 4, 2) := by decide +kernel
theorem dX4_whole_30 : decode cX4_whole 30 = .ok (.aload_n 0, 1) := by decide +kernel
theorem dX4_whole_31 : decode cX4_whole 31 = .ok (.getfield 18, 3) := by decide +kernel
theorem dX4_whole_34 : decode cX4_whole 34 = .ok (.getfield 216, 3) := by decide +kernel
theorem dX4_whole_37 : decode cX4_whole 37 = .ok (.iload_n 2, 1) := by decide +kernel
theorem dX4_whole_38 : decode cX4_whole 38 = .ok (.iaload, 1) := by decide +kernel
theorem dX4_whole_39 : decode cX4_whole 39 = .ok (.if_icmp .ge 30, 3) := by decide +kernel
theorem dX4_whole_42 : decode cX4_whole 42 = .ok (.iload_n 3, 1) := by decide +kernel
theorem dX4_whole_43 : decode cX4_whole 43 = .ok (.ifCond .lt 26, 3) := by decide +kernel
theorem dX4_whole_46 : decode cX4_whole 46 = .ok (.aload_n 0, 1) := by decide +kernel
theorem dX4_whole_47 : decode cX4_whole 47 = .ok (.aload_n 1, 1) := by decide +kernel
theorem dX4_whole_48 : decode cX4_whole 48 = .ok (.iload_n 2, 1) := by decide +kernel
theorem dX4_whole_49 : decode cX4_whole 49 = .ok (.iload_n 3, 1) := by decide +kernel
theorem dX4_whole_50 : decode cX4_whole 50 = .ok (.invokevirtual 268, 3) := by decide +kernel
theorem dX4_whole_53 : decode cX4_whole 53 = .ok (.aload_n 0, 1) := by decide +kernel
theorem dX4_whole_54 : decode cX4_whole 54 = .ok (.getfield 18, 3) := by decide +kernel
theorem dX4_whole_57 : decode cX4_whole 57 = .ok (.getfield 214, 3) := by decide +kernel
theorem dX4_whole_60 : decode cX4_whole 60 = .ok (.iload_n 3, 1) := by decide +kernel
theorem dX4_whole_61 : decode cX4_whole 61 = .ok (.iaload, 1) := by decide +kernel
theorem dX4_whole_62 : decode cX4_whole 62 = .ok (.istore_n 3, 1) := by decide +kernel
theorem dX4_whole_63 : decode cX4_whole 63 = .ok (.iinc 4 1, 3) := by decide +kernel
theorem dX4_whole_66 : decode cX4_whole 66 = .ok (.goto (-38), 3) := by decide +kernel
theorem dX4_whole_69 : decode cX4_whole 69 = .ok (.aload_n 0, 1) := by decide +kernel
theorem dX4_whole_70 : decode cX4_whole 70 = .ok (.getfield 18, 3) := by decide +kernel
theorem dX4_whole_73 : decode cX4_whole 73 = .ok (.iload_n 2, 1) := by decide +kernel
theorem dX4_whole_74 : decode cX4_whole 74 = .ok (.invokevirtual 227, 3) := by decide +kernel
theorem dX4_whole_77 : decode cX4_whole 77 = .ok (.istore 4, 2) := by decide +kernel
theorem dX4_whole_79 : decode cX4_whole 79 = .ok (.iconst 0, 1) := by decide +kernel
theorem dX4_whole_80 : decode cX4_whole 80 = .ok (.istore 5, 2) := by decide +kernel
theorem dX4_whole_82 : decode cX4_whole 82 = .ok (.iload 5, 2) := by decide +kernel
theorem dX4_whole_84 : decode cX4_whole 84 = .ok (.iload 4, 2) := by decide +kernel
theorem dX4_whole_86 : decode cX4_whole 86 = .ok (.if_icmp .ge 30, 3) := by decide +kernel
theorem dX4_whole_89 : decode cX4_whole 89 = .ok (.aload_n 0, 1) := by decide +kernel
theorem dX4_whole_90 : decode cX4_whole 90 = .ok (.aload_n 1, 1) := by decide +kernel
theorem dX4_whole_91 : decode cX4_whole 91 = .ok (.iload_n 2, 1) := by decide +kernel
theorem dX4_whole_92 : decode cX4_whole 92 = .ok (.aload_n 0, 1) := by decide +kernel
theorem dX4_whole_93 : decode cX4_whole 93 = .ok (.getfield 18, 3) := by decide +kernel
theorem dX4_whole_96 : decode cX4_whole 96 = .ok (.getfield 231, 3) := by decide +kernel
theorem dX4_whole_99 : decode cX4_whole 99 = .ok (.iload_n 2, 1) := by decide +kernel
theorem dX4_whole_100 : decode cX4_whole 100 = .ok (.bipush 64, 2) := by decide +kernel
theorem dX4_whole_102 : decode cX4_whole 102 = .ok (.imul, 1) := by decide +kernel
theorem dX4_whole_103 : decode cX4_whole 103 = .ok (.iload 5, 2) := by decide +kernel
theorem dX4_whole_105 : decode cX4_whole 105 = .ok (.iadd, 1) := by decide +kernel
theorem dX4_whole_106 : decode cX4_whole 106 = .ok (.iaload, 1) := by decide +kernel
theorem dX4_whole_107 : decode cX4_whole 107 = .ok (.invokevirtual 268, 3) := by decide +kernel
theorem dX4_whole_110 : decode cX4_whole 110 = .ok (.iinc 5 1, 3) := by decide +kernel
theorem dX4_whole_113 : decode cX4_whole 113 = .ok (.goto (-31), 3) := by decide +kernel
theorem dX4_whole_116 : decode cX4_whole 116 = .ok (.return_, 1) := by decide +kernel
theorem dX4_owed_0 : decode cX4_owed 0 = .ok (.aload_n 0, 1) := by decide +kernel
theorem dX4_owed_1 : decode cX4_owed 1 = .ok (.getfield 18, 3) := by decide +kernel
theorem dX4_owed_4 : decode cX4_owed 4 = .ok (.getfield 90, 3) := by decide +kernel
theorem dX4_owed_7 : decode cX4_owed 7 = .ok (.iload_n 3, 1) := by decide +kernel
theorem dX4_owed_8 : decode cX4_owed 8 = .ok (.aaload, 1) := by decide +kernel
theorem dX4_owed_9 : decode cX4_owed 9 = .ok (.astore 4, 2) := by decide +kernel
theorem dX4_owed_11 : decode cX4_owed 11 = .ok (.iconst 0, 1) := by decide +kernel
theorem dX4_owed_12 : decode cX4_owed 12 = .ok (.istore 5, 2) := by decide +kernel
theorem dX4_owed_14 : decode cX4_owed 14 = .ok (.iload 5, 2) := by decide +kernel
theorem dX4_owed_16 : decode cX4_owed 16 = .ok (.aload 4, 2) := by decide +kernel
theorem dX4_owed_18 : decode cX4_owed 18 = .ok (.getfield 197, 3) := by decide +kernel
theorem dX4_owed_21 : decode cX4_owed 21 = .ok (.if_icmp .ge 76, 3) := by decide +kernel
theorem dX4_owed_24 : decode cX4_owed 24 = .ok (.aload_n 0, 1) := by decide +kernel
theorem dX4_owed_25 : decode cX4_owed 25 = .ok (.getfield 9, 3) := by decide +kernel
theorem dX4_owed_28 : decode cX4_owed 28 = .ok (.ifCond .ne 69, 3) := by decide +kernel
theorem dX4_owed_31 : decode cX4_owed 31 = .ok (.aload 4, 2) := by decide +kernel
theorem dX4_owed_33 : decode cX4_owed 33 = .ok (.getfield 200, 3) := by decide +kernel
theorem dX4_owed_36 : decode cX4_owed 36 = .ok (.iload 5, 2) := by decide +kernel
theorem dX4_owed_38 : decode cX4_owed 38 = .ok (.aaload, 1) := by decide +kernel
theorem dX4_owed_39 : decode cX4_owed 39 = .ok (.astore 6, 2) := by decide +kernel
theorem dX4_owed_41 : decode cX4_owed 41 = .ok (.aload 6, 2) := by decide +kernel
theorem dX4_owed_43 : decode cX4_owed 43 = .ok (.getfield 147, 3) := by decide +kernel
theorem dX4_owed_46 : decode cX4_owed 46 = .ok (.iconst 1, 1) := by decide +kernel
theorem dX4_owed_47 : decode cX4_owed 47 = .ok (.if_icmp .ne 44, 3) := by decide +kernel
theorem dX4_owed_50 : decode cX4_owed 50 = .ok (.aload 6, 2) := by decide +kernel
theorem dX4_owed_52 : decode cX4_owed 52 = .ok (.invokevirtual 249, 3) := by decide +kernel
theorem dX4_owed_55 : decode cX4_owed 55 = .ok (.ifCond .eq 36, 3) := by decide +kernel
theorem dX4_owed_58 : decode cX4_owed 58 = .ok (.aload 6, 2) := by decide +kernel
theorem dX4_owed_60 : decode cX4_owed 60 = .ok (.getfield 266, 3) := by decide +kernel
theorem dX4_owed_63 : decode cX4_owed 63 = .ok (.ifCond .ne 28, 3) := by decide +kernel
theorem dX4_owed_66 : decode cX4_owed 66 = .ok (.aload_n 0, 1) := by decide +kernel
theorem dX4_owed_67 : decode cX4_owed 67 = .ok (.getfield 18, 3) := by decide +kernel
theorem dX4_owed_70 : decode cX4_owed 70 = .ok (.aload 6, 2) := by decide +kernel
theorem dX4_owed_72 : decode cX4_owed 72 = .ok (.iload_n 3, 1) := by decide +kernel
theorem dX4_owed_73 : decode cX4_owed 73 = .ok (.iload_n 2, 1) := by decide +kernel
theorem dX4_owed_74 : decode cX4_owed 74 = .ok (.invokevirtual 272, 3) := by decide +kernel
theorem dX4_owed_77 : decode cX4_owed 77 = .ok (.ifnonnull 14, 3) := by decide +kernel
theorem dX4_owed_80 : decode cX4_owed 80 = .ok (.aload_n 0, 1) := by decide +kernel
theorem dX4_owed_81 : decode cX4_owed 81 = .ok (.bipush 10, 2) := by decide +kernel
theorem dX4_owed_83 : decode cX4_owed 83 = .ok (.aload_n 1, 1) := by decide +kernel
theorem dX4_owed_84 : decode cX4_owed 84 = .ok (.getfield 55, 3) := by decide +kernel
theorem dX4_owed_87 : decode cX4_owed 87 = .ok (.invokevirtual 58, 3) := by decide +kernel
theorem dX4_owed_90 : decode cX4_owed 90 = .ok (.pop, 1) := by decide +kernel
theorem dX4_owed_91 : decode cX4_owed 91 = .ok (.iinc 5 1, 3) := by decide +kernel
theorem dX4_owed_94 : decode cX4_owed 94 = .ok (.goto (-80), 3) := by decide +kernel
theorem dX4_owed_97 : decode cX4_owed 97 = .ok (.return_, 1) := by decide +kernel
theorem dX5_init_0 : decode cX5_init 0 = .ok (.aload_n 0, 1) := by decide +kernel
theorem dX5_init_1 : decode cX5_init 1 = .ok (.invokespecial 3, 3) := by decide +kernel
theorem dX5_init_4 : decode cX5_init 4 = .ok (.aload_n 0, 1) := by decide +kernel
theorem dX5_init_5 : decode cX5_init 5 = .ok (.bipush 64, 2) := by decide +kernel
theorem dX5_init_7 : decode cX5_init 7 = .ok (.newarray .int, 2) := by decide +kernel
theorem dX5_init_9 : decode cX5_init 9 = .ok (.putfield 9, 3) := by decide +kernel
theorem dX5_init_12 : decode cX5_init 12 = .ok (.aload_n 0, 1) := by decide +kernel
theorem dX5_init_13 : decode cX5_init 13 = .ok (.bipush 64, 2) := by decide +kernel
theorem dX5_init_15 : decode cX5_init 15 = .ok (.newarray .int, 2) := by decide +kernel
theorem dX5_init_17 : decode cX5_init 17 = .ok (.putfield 15, 3) := by decide +kernel
theorem dX5_init_20 : decode cX5_init 20 = .ok (.aload_n 0, 1) := by decide +kernel
theorem dX5_init_21 : decode cX5_init 21 = .ok (.sipush 320, 3) := by decide +kernel
theorem dX5_init_24 : decode cX5_init 24 = .ok (.newarray .int, 2) := by decide +kernel
theorem dX5_init_26 : decode cX5_init 26 = .ok (.putfield 18, 3) := by decide +kernel
theorem dX5_init_29 : decode cX5_init 29 = .ok (.aload_n 0, 1) := by decide +kernel
theorem dX5_init_30 : decode cX5_init 30 = .ok (.bipush 64, 2) := by decide +kernel
theorem dX5_init_32 : decode cX5_init 32 = .ok (.newarray .int, 2) := by decide +kernel
theorem dX5_init_34 : decode cX5_init 34 = .ok (.putfield 21, 3) := by decide +kernel
theorem dX5_init_37 : decode cX5_init 37 = .ok (.aload_n 0, 1) := by decide +kernel
theorem dX5_init_38 : decode cX5_init 38 = .ok (.bipush 66, 2) := by decide +kernel
theorem dX5_init_40 : decode cX5_init 40 = .ok (.newarray .int, 2) := by decide +kernel
theorem dX5_init_42 : decode cX5_init 42 = .ok (.putfield 24, 3) := by decide +kernel
theorem dX5_init_45 : decode cX5_init 45 = .ok (.aload_n 0, 1) := by decide +kernel
theorem dX5_init_46 : decode cX5_init 46 = .ok (.bipush 66, 2) := by decide +kernel
theorem dX5_init_48 : decode cX5_init 48 = .ok (.newarray .int, 2) := by decide +kernel
theorem dX5_init_50 : decode cX5_init 50 = .ok (.putfield 27, 3) := by decide +kernel
theorem dX5_init_53 : decode cX5_init 53 = .ok (.aload_n 0, 1) := by decide +kernel
theorem dX5_init_54 : decode cX5_init 54 = .ok (.bipush 66, 2) := by decide +kernel
theorem dX5_init_56 : decode cX5_init 56 = .ok (.newarray .int, 2) := by decide +kernel
theorem dX5_init_58 : decode cX5_init 58 = .ok (.putfield 30, 3) := by decide +kernel
theorem dX5_init_61 : decode cX5_init 61 = .ok (.aload_n 0, 1) := by decide +kernel
theorem dX5_init_62 : decode cX5_init 62 = .ok (.bipush 66, 2) := by decide +kernel
theorem dX5_init_64 : decode cX5_init 64 = .ok (.newarray .int, 2) := by decide +kernel
theorem dX5_init_66 : decode cX5_init 66 = .ok (.putfield 33, 3) := by decide +kernel
theorem dX5_init_69 : decode cX5_init 69 = .ok (.aload_n 0, 1) := by decide +kernel
theorem dX5_init_70 : decode cX5_init 70 = .ok (.sipush 130, 3) := by decide +kernel
theorem dX5_init_73 : decode cX5_init 73 = .ok (.newarray .int, 2) := by decide +kernel
theorem dX5_init_75 : decode cX5_init 75 = .ok (.putfield 36, 3) := by decide +kernel
theorem dX5_init_78 : decode cX5_init 78 = .ok (.aload_n 0, 1) := by decide +kernel
theorem dX5_init_79 : decode cX5_init 79 = .ok (.bipush 65, 2) := by decide +kernel
theorem dX5_init_81 : decode cX5_init 81 = .ok (.newarray .int, 2) := by decide +kernel
theorem dX5_init_83 : decode cX5_init 83 = .ok (.putfield 39, 3) := by decide +kernel
theorem dX5_init_86 : decode cX5_init 86 = .ok (.aload_n 0, 1) := by decide +kernel
theorem dX5_init_87 : decode cX5_init 87 = .ok (.iload_n 1, 1) := by decide +kernel
theorem dX5_init_88 : decode cX5_init 88 = .ok (.newarray .int, 2) := by decide +kernel
theorem dX5_init_90 : decode cX5_init 90 = .ok (.putfield 42, 3) := by decide +kernel
theorem dX5_init_93 : decode cX5_init 93 = .ok (.aload_n 0, 1) := by decide +kernel
theorem dX5_init_94 : decode cX5_init 94 = .ok (.iload_n 1, 1) := by decide +kernel
theorem dX5_init_95 : decode cX5_init 95 = .ok (.anewarray 45, 3) := by decide +kernel
theorem dX5_init_98 : decode cX5_init 98 = .ok (.putfield 47, 3) := by decide +kernel
theorem dX5_init_101 : decode cX5_init 101 = .ok (.return_, 1) := by decide +kernel
theorem dX5_clear_0 : decode cX5_clear 0 = .ok (.aload_n 0, 1) := by decide +kernel
theorem dX5_clear_1 : decode cX5_clear 1 = .ok (.aload_n 1, 1) := by decide +kernel
theorem dX5_clear_2 : decode cX5_clear 2 = .ok (.putfield 51, 3) := by decide +kernel
theorem dX5_clear_5 : decode cX5_clear 5 = .ok (.aload_n 0, 1) := by decide +kernel
theorem dX5_clear_6 : decode cX5_clear 6 = .ok (.getfield 9, 3) := by decide +kernel
theorem dX5_clear_9 : decode cX5_clear 9 = .ok (.iconst 0, 1) := by decide +kernel
theorem dX5_clear_10 : decode cX5_clear 10 = .ok (.invokestatic 55, 3) := by decide +kernel
theorem dX5_clear_13 : decode cX5_clear 13 = .ok (.aload_n 0, 1) := by decide +kernel
theorem dX5_clear_14 : decode cX5_clear 14 = .ok (.getfield 9, 3) := by decide +kernel
theorem dX5_clear_17 : decode cX5_clear 17 = .ok (.iconst 0, 1) := by decide +kernel
theorem dX5_clear_18 : decode cX5_clear 18 = .ok (.iconst 4, 1) := by decide +kernel
theorem dX5_clear_19 : decode cX5_clear 19 = .ok (.iastore, 1) := by decide +kernel
theorem dX5_clear_20 : decode cX5_clear 20 = .ok (.aload_n 0, 1) := by decide +kernel
theorem dX5_clear_21 : decode cX5_clear 21 = .ok (.getfield 9, 3) := by decide +kernel
theorem dX5_clear_24 : decode cX5_clear 24 = .ok (.iconst 1, 1) := by decide +kernel
theorem dX5_clear_25 : decode cX5_clear 25 = .ok (.iconst 4, 1) := by decide +kernel
theorem dX5_clear_26 : decode cX5_clear 26 = .ok (.iastore, 1) := by decide +kernel
theorem dX5_clear_27 : decode cX5_clear 27 = .ok (.aload_n 0, 1) := by decide +kernel
theorem dX5_clear_28 : decode cX5_clear 28 = .ok (.iconst 0, 1) := by decide +kernel
theorem dX5_clear_29 : decode cX5_clear 29 = .ok (.putfield 61, 3) := by decide +kernel
theorem dX5_clear_32 : decode cX5_clear 32 = .ok (.aload_n 0, 1) := by decide +kernel
theorem dX5_clear_33 : decode cX5_clear 33 = .ok (.iconst 0, 1) := by decide +kernel
theorem dX5_clear_34 : decode cX5_clear 34 = .ok (.putfield 65, 3) := by decide +kernel
theorem dX5_clear_37 : decode cX5_clear 37 = .ok (.iconst 0, 1) := by decide +kernel
theorem dX5_clear_38 : decode cX5_clear 38 = .ok (.istore_n 2, 1) := by decide +kernel
theorem dX5_clear_39 : decode cX5_clear 39 = .ok (.iconst 0, 1) := by decide +kernel
theorem dX5_clear_40 : decode cX5_clear 40 = .ok (.istore_n 3, 1) := by decide +kernel
theorem dX5_clear_41 : decode cX5_clear 41 = .ok (.iload_n 3, 1) := by decide +kernel
theorem dX5_clear_42 : decode cX5_clear 42 = .ok (.aload_n 0, 1) := by decide +kernel
theorem dX5_clear_43 : decode cX5_clear 43 = .ok (.getfield 51, 3) := by decide +kernel
theorem dX5_clear_46 : decode cX5_clear 46 = .ok (.getfield 68, 3) := by decide +kernel
theorem dX5_clear_49 : decode cX5_clear 49 = .ok (.if_icmp .ge 39, 3) := by decide +kernel
theorem dX5_clear_52 : decode cX5_clear 52 = .ok (.aload_n 0, 1) := by decide +kernel
theorem dX5_clear_53 : decode cX5_clear 53 = .ok (.getfield 42, 3) := by decide +kernel
theorem dX5_clear_56 : decode cX5_clear 56 = .ok (.arraylength, 1) := by decide +kernel
theorem dX5_clear_57 : decode cX5_clear 57 = .ok (.ifCond .le 31, 3) := by decide +kernel
theorem dX5_clear_60 : decode cX5_clear 60 = .ok (.aload_n 0, 1) := by decide +kernel
theorem dX5_clear_61 : decode cX5_clear 61 = .ok (.getfield 39, 3) := by decide +kernel
theorem dX5_clear_64 : decode cX5_clear 64 = .ok (.iload_n 3, 1) := by decide +kernel
theorem dX5_clear_65 : decode cX5_clear 65 = .ok (.iload_n 2, 1) := by decide +kernel
theorem dX5_clear_66 : decode cX5_clear 66 = .ok (.iastore, 1) := by decide +kernel
theorem dX5_clear_67 : decode cX5_clear 67 = .ok (.iload_n 2, 1) := by decide +kernel
theorem dX5_clear_68 : decode cX5_clear 68 = .ok (.aload_n 0, 1) := by decide +kernel
theorem dX5_clear_69 : decode cX5_clear 69 = .ok (.getfield 51, 3) := by decide +kernel
theorem dX5_clear_72 : decode cX5_clear 72 = .ok (.getfield 73, 3) := by decide +kernel
theorem dX5_clear_75 : decode cX5_clear 75 = .ok (.iload_n 3, 1) := by decide +kernel
theorem dX5_clear_76 : decode cX5_clear 76 = .ok (.aaload, 1) := by decide +kernel
theorem dX5_clear_77 : decode cX5_clear 77 = .ok (.getfield 77, 3) := by decide +kernel
theorem dX5_clear_80 : decode cX5_clear 80 = .ok (.iadd, 1) := by decide +kernel
theorem dX5_clear_81 : decode cX5_clear 81 = .ok (.istore_n 2, 1) := by decide +kernel
theorem dX5_clear_82 : decode cX5_clear 82 = .ok (.iinc 3 1, 3) := by decide +kernel
theorem dX5_clear_85 : decode cX5_clear 85 = .ok (.goto (-44), 3) := by decide +kernel
theorem dX5_clear_88 : decode cX5_clear 88 = .ok (.iconst 0, 1) := by decide +kernel
theorem dX5_clear_89 : decode cX5_clear 89 = .ok (.istore_n 3, 1) := by decide +kernel
theorem dX5_clear_90 : decode cX5_clear 90 = .ok (.iload_n 3, 1) := by decide +kernel
theorem dX5_clear_91 : decode cX5_clear 91 = .ok (.iload_n 2, 1) := by decide +kernel
theorem dX5_clear_92 : decode cX5_clear 92 = .ok (.if_icmp .ge 25, 3) := by decide +kernel
theorem dX5_clear_95 : decode cX5_clear 95 = .ok (.iload_n 3, 1) := by decide +kernel
theorem dX5_clear_96 : decode cX5_clear 96 = .ok (.aload_n 0, 1) := by decide +kernel
theorem dX5_clear_97 : decode cX5_clear 97 = .ok (.getfield 42, 3) := by decide +kernel
theorem dX5_clear_100 : decode cX5_clear 100 = .ok (.arraylength, 1) := by decide +kernel
theorem dX5_clear_101 : decode cX5_clear 101 = .ok (.if_icmp .ge 16, 3) := by decide +kernel
theorem dX5_clear_104 : decode cX5_clear 104 = .ok (.aload_n 0, 1) := by decide +kernel
theorem dX5_clear_105 : decode cX5_clear 105 = .ok (.getfield 42, 3) := by decide +kernel
theorem dX5_clear_108 : decode cX5_clear 108 = .ok (.iload_n 3, 1) := by decide +kernel
theorem dX5_clear_109 : decode cX5_clear 109 = .ok (.iconst 0, 1) := by decide +kernel
theorem dX5_clear_110 : decode cX5_clear 110 = .ok (.iastore, 1) := by decide +kernel
theorem dX5_clear_111 : decode cX5_clear 111 = .ok (.iinc 3 1, 3) := by decide +kernel
theorem dX5_clear_114 : decode cX5_clear 114 = .ok (.goto (-24), 3) := by decide +kernel
theorem dX5_clear_117 : decode cX5_clear 117 = .ok (.return_, 1) := by decide +kernel
theorem dX5_recalls_0 : decode cX5_recalls 0 = .ok (.aload_n 0, 1) := by decide +kernel
theorem dX5_recalls_1 : decode cX5_recalls 1 = .ok (.getfield 39, 3) := by decide +kernel
theorem dX5_recalls_4 : decode cX5_recalls 4 = .ok (.iload_n 1, 1) := by decide +kernel
theorem dX5_recalls_5 : decode cX5_recalls 5 = .ok (.iaload, 1) := by decide +kernel
theorem dX5_recalls_6 : decode cX5_recalls 6 = .ok (.iload_n 2, 1) := by decide +kernel
theorem dX5_recalls_7 : decode cX5_recalls 7 = .ok (.iadd, 1) := by decide +kernel
theorem dX5_recalls_8 : decode cX5_recalls 8 = .ok (.istore_n 3, 1) := by decide +kernel
theorem dX5_recalls_9 : decode cX5_recalls 9 = .ok (.iload_n 3, 1) := by decide +kernel
theorem dX5_recalls_10 : decode cX5_recalls 10 = .ok (.ifCond .lt 21, 3) := by decide +kernel
theorem dX5_recalls_13 : decode cX5_recalls 13 = .ok (.iload_n 3, 1) := by decide +kernel
theorem dX5_recalls_14 : decode cX5_recalls 14 = .ok (.aload_n 0, 1) := by decide +kernel
theorem dX5_recalls_15 : decode cX5_recalls 15 = .ok (.getfield 42, 3) := by decide +kernel
theorem dX5_recalls_18 : decode cX5_recalls 18 = .ok (.arraylength, 1) := by decide +kernel
theorem dX5_recalls_19 : decode cX5_recalls 19 = .ok (.if_icmp .ge 12, 3) := by decide +kernel
theorem dX5_recalls_22 : decode cX5_recalls 22 = .ok (.aload_n 0, 1) := by decide +kernel
theorem dX5_recalls_23 : decode cX5_recalls 23 = .ok (.getfield 42, 3) := by decide +kernel
theorem dX5_recalls_26 : decode cX5_recalls 26 = .ok (.iload_n 3, 1) := by decide +kernel
theorem dX5_recalls_27 : decode cX5_recalls 27 = .ok (.iaload, 1) := by decide +kernel
theorem dX5_recalls_28 : decode cX5_recalls 28 = .ok (.ifCond .ne 5, 3) := by decide +kernel
theorem dX5_recalls_31 : decode cX5_recalls 31 = .ok (.iconst 0, 1) := by decide +kernel
theorem dX5_recalls_32 : decode cX5_recalls 32 = .ok (.ireturn, 1) := by decide +kernel
theorem dX5_recalls_33 : decode cX5_recalls 33 = .ok (.aload_n 0, 1) := by decide +kernel
theorem dX5_recalls_34 : decode cX5_recalls 34 = .ok (.aload_n 0, 1) := by decide +kernel
theorem dX5_recalls_35 : decode cX5_recalls 35 = .ok (.getfield 47, 3) := by decide +kernel
theorem dX5_recalls_38 : decode cX5_recalls 38 = .ok (.iload_n 3, 1) := by decide +kernel
theorem dX5_recalls_39 : decode cX5_recalls 39 = .ok (.aaload, 1) := by decide +kernel
theorem dX5_recalls_40 : decode cX5_recalls 40 = .ok (.putfield 82, 3) := by decide +kernel
theorem dX5_recalls_43 : decode cX5_recalls 43 = .ok (.aload_n 0, 1) := by decide +kernel
theorem dX5_recalls_44 : decode cX5_recalls 44 = .ok (.aload_n 0, 1) := by decide +kernel
theorem dX5_recalls_45 : decode cX5_recalls 45 = .ok (.getfield 42, 3) := by decide +kernel
theorem dX5_recalls_48 : decode cX5_recalls 48 = .ok (.iload_n 3, 1) := by decide +kernel
theorem dX5_recalls_49 : decode cX5_recalls 49 = .ok (.iaload, 1) := by decide +kernel
theorem dX5_recalls_50 : decode cX5_recalls 50 = .ok (.bipush 100, 2) := by decide +kernel
theorem dX5_recalls_52 : decode cX5_recalls 52 = .ok (.irem, 1) := by decide +kernel
theorem dX5_recalls_53 : decode cX5_recalls 53 = .ok (.iconst 3, 1) := by decide +kernel
theorem dX5_recalls_54 : decode cX5_recalls 54 = .ok (.isub, 1) := by decide +kernel
theorem dX5_recalls_55 : decode cX5_recalls 55 = .ok (.putfield 86, 3) := by decide +kernel
theorem dX5_recalls_58 : decode cX5_recalls 58 = .ok (.aload_n 0, 1) := by decide +kernel
theorem dX5_recalls_59 : decode cX5_recalls 59 = .ok (.aload_n 0, 1) := by decide +kernel
theorem dX5_recalls_60 : decode cX5_recalls 60 = .ok (.getfield 42, 3) := by decide +kernel
theorem dX5_recalls_63 : decode cX5_recalls 63 = .ok (.iload_n 3, 1) := by decide +kernel
theorem dX5_recalls_64 : decode cX5_recalls 64 = .ok (.iaload, 1) := by decide +kernel
theorem dX5_recalls_65 : decode cX5_recalls 65 = .ok (.bipush 100, 2) := by decide +kernel
theorem dX5_recalls_67 : decode cX5_recalls 67 = .ok (.idiv, 1) := by decide +kernel
theorem dX5_recalls_68 : decode cX5_recalls 68 = .ok (.iconst 3, 1) := by decide +kernel
theorem dX5_recalls_69 : decode cX5_recalls 69 = .ok (.isub, 1) := by decide +kernel
theorem dX5_recalls_70 : decode cX5_recalls 70 = .ok (.putfield 89, 3) := by decide +kernel
theorem dX5_recalls_73 : decode cX5_recalls 73 = .ok (.iconst 1, 1) := by decide +kernel
theorem dX5_recalls_74 : decode cX5_recalls 74 = .ok (.ireturn, 1) := by decide +kernel
theorem dX5_keep_0 : decode cX5_keep 0 = .ok (.aload_n 0, 1) := by decide +kernel
theorem dX5_keep_1 : decode cX5_keep 1 = .ok (.getfield 39, 3) := by decide +kernel
theorem dX5_keep_4 : decode cX5_keep 4 = .ok (.iload_n 1, 1) := by decide +kernel
theorem dX5_keep_5 : decode cX5_keep 5 = .ok (.iaload, 1) := by decide +kernel
theorem dX5_keep_6 : decode cX5_keep 6 = .ok (.iload_n 2, 1) := by decide +kernel
theorem dX5_keep_7 : decode cX5_keep 7 = .ok (.iadd, 1) := by decide +kernel
theorem dX5_keep_8 : decode cX5_keep 8 = .ok (.istore_n 3, 1) := by decide +kernel
theorem dX5_keep_9 : decode cX5_keep 9 = .ok (.iload_n 3, 1) := by decide +kernel
theorem dX5_keep_10 : decode cX5_keep 10 = .ok (.ifCond .lt 44, 3) := by decide +kernel
theorem dX5_keep_13 : decode cX5_keep 13 = .ok (.iload_n 3, 1) := by decide +kernel
theorem dX5_keep_14 : decode cX5_keep 14 = .ok (.aload_n 0, 1) := by decide +kernel
theorem dX5_keep_15 : decode cX5_keep 15 = .ok (.getfield 42, 3) := by decide +kernel
theorem dX5_keep_18 : decode cX5_keep 18 = .ok (.arraylength, 1) := by decide +kernel
theorem dX5_keep_19 : decode cX5_keep 19 = .ok (.if_icmp .ge 35, 3) := by decide +kernel

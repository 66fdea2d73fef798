theorem dX0_target_36 : decode cX0_target 36 = .ok (.astore_n 1, 1) := by decide +kernel
theorem dX0_target_37 : decode cX0_target 37 = .ok (.aload_n 1, 1) := by decide +kernel
theorem dX0_target_38 : decode cX0_target 38 = .ok (.astore_n 2, 1) := by decide +kernel
theorem dX0_target_39 : decode cX0_target 39 = .ok (.aload_n 2, 1) := by decide +kernel
theorem dX0_target_40 : decode cX0_target 40 = .ok (.ifnull 13, 3) := by decide +kernel
theorem dX0_target_43 : decode cX0_target 43 = .ok (.aload_n 2, 1) := by decide +kernel
theorem dX0_target_44 : decode cX0_target 44 = .ok (.astore_n 1, 1) := by decide +kernel
theorem dX0_target_45 : decode cX0_target 45 = .ok (.aload_n 2, 1) := by decide +kernel
theorem dX0_target_46 : decode cX0_target 46 = .ok (.getfield 191, 3) := by decide +kernel
theorem dX0_target_49 : decode cX0_target 49 = .ok (.astore_n 2, 1) := by decide +kernel
theorem dX0_target_50 : decode cX0_target 50 = .ok (.goto (-11), 3) := by decide +kernel
theorem dX0_target_53 : decode cX0_target 53 = .ok (.aload_n 1, 1) := by decide +kernel
theorem dX0_target_54 : decode cX0_target 54 = .ok (.ifnull 16, 3) := by decide +kernel
theorem dX0_target_57 : decode cX0_target 57 = .ok (.aload_n 1, 1) := by decide +kernel
theorem dX0_target_58 : decode cX0_target 58 = .ok (.getfield 144, 3) := by decide +kernel
theorem dX0_target_61 : decode cX0_target 61 = .ok (.bipush 14, 2) := by decide +kernel
theorem dX0_target_63 : decode cX0_target 63 = .ok (.if_icmp .ne 7, 3) := by decide +kernel
theorem dX0_target_66 : decode cX0_target 66 = .ok (.aload_n 1, 1) := by decide +kernel
theorem dX0_target_67 : decode cX0_target 67 = .ok (.goto 4, 3) := by decide +kernel
theorem dX0_target_70 : decode cX0_target 70 = .ok (.aconst_null, 1) := by decide +kernel
theorem dX0_target_71 : decode cX0_target 71 = .ok (.areturn, 1) := by decide +kernel
theorem dX0_put_0 : decode cX0_put 0 = .ok (.aload_n 1, 1) := by decide +kernel
theorem dX0_put_1 : decode cX0_put 1 = .ok (.getfield 150, 3) := by decide +kernel
theorem dX0_put_4 : decode cX0_put 4 = .ok (.ifnull 10, 3) := by decide +kernel
theorem dX0_put_7 : decode cX0_put 7 = .ok (.aload_n 1, 1) := by decide +kernel
theorem dX0_put_8 : decode cX0_put 8 = .ok (.getfield 185, 3) := by decide +kernel
theorem dX0_put_11 : decode cX0_put 11 = .ok (.ifnonnull 5, 3) := by decide +kernel
theorem dX0_put_14 : decode cX0_put 14 = .ok (.iconst 0, 1) := by decide +kernel
theorem dX0_put_15 : decode cX0_put 15 = .ok (.ireturn, 1) := by decide +kernel
theorem dX0_put_16 : decode cX0_put 16 = .ok (.aload_n 1, 1) := by decide +kernel
theorem dX0_put_17 : decode cX0_put 17 = .ok (.getfield 150, 3) := by decide +kernel
theorem dX0_put_20 : decode cX0_put 20 = .ok (.invokestatic 286, 3) := by decide +kernel
theorem dX0_put_23 : decode cX0_put 23 = .ok (.astore_n 2, 1) := by decide +kernel
theorem dX0_put_24 : decode cX0_put 24 = .ok (.aload_n 2, 1) := by decide +kernel
theorem dX0_put_25 : decode cX0_put 25 = .ok (.ifnonnull 14, 3) := by decide +kernel
theorem dX0_put_28 : decode cX0_put 28 = .ok (.aload_n 0, 1) := by decide +kernel
theorem dX0_put_29 : decode cX0_put 29 = .ok (.bipush 15, 2) := by decide +kernel
theorem dX0_put_31 : decode cX0_put 31 = .ok (.aload_n 1, 1) := by decide +kernel
theorem dX0_put_32 : decode cX0_put 32 = .ok (.getfield 162, 3) := by decide +kernel
theorem dX0_put_35 : decode cX0_put 35 = .ok (.invokevirtual 113, 3) := by decide +kernel
theorem dX0_put_38 : decode cX0_put 38 = .ok (.ireturn, 1) := by decide +kernel
theorem dX0_put_39 : decode cX0_put 39 = .ok (.aload_n 2, 1) := by decide +kernel
theorem dX0_put_40 : decode cX0_put 40 = .ok (.getfield 283, 3) := by decide +kernel
theorem dX0_put_43 : decode cX0_put 43 = .ok (.astore_n 3, 1) := by decide +kernel
theorem dX0_put_44 : decode cX0_put 44 = .ok (.aload_n 3, 1) := by decide +kernel
theorem dX0_put_45 : decode cX0_put 45 = .ok (.ifnull 88, 3) := by decide +kernel
theorem dX0_put_48 : decode cX0_put 48 = .ok (.aload_n 3, 1) := by decide +kernel
theorem dX0_put_49 : decode cX0_put 49 = .ok (.getfield 120, 3) := by decide +kernel
theorem dX0_put_52 : decode cX0_put 52 = .ok (.ifCond .eq 81, 3) := by decide +kernel
theorem dX0_put_55 : decode cX0_put 55 = .ok (.aload_n 3, 1) := by decide +kernel
theorem dX0_put_56 : decode cX0_put 56 = .ok (.getfield 117, 3) := by decide +kernel
theorem dX0_put_59 : decode cX0_put 59 = .ok (.ifCond .eq 22, 3) := by decide +kernel
theorem dX0_put_62 : decode cX0_put 62 = .ok (.aload_n 0, 1) := by decide +kernel
theorem dX0_put_63 : decode cX0_put 63 = .ok (.getfield 194, 3) := by decide +kernel
theorem dX0_put_66 : decode cX0_put 66 = .ok (.getfield 94, 3) := by decide +kernel
theorem dX0_put_69 : decode cX0_put 69 = .ok (.iconst 3, 1) := by decide +kernel
theorem dX0_put_70 : decode cX0_put 70 = .ok (.if_icmp .ne 7, 3) := by decide +kernel
theorem dX0_put_73 : decode cX0_put 73 = .ok (.iconst 1, 1) := by decide +kernel
theorem dX0_put_74 : decode cX0_put 74 = .ok (.goto 23, 3) := by decide +kernel
theorem dX0_put_77 : decode cX0_put 77 = .ok (.iconst 0, 1) := by decide +kernel
theorem dX0_put_78 : decode cX0_put 78 = .ok (.goto 19, 3) := by decide +kernel
theorem dX0_put_81 : decode cX0_put 81 = .ok (.aload_n 0, 1) := by decide +kernel
theorem dX0_put_82 : decode cX0_put 82 = .ok (.getfield 194, 3) := by decide +kernel
theorem dX0_put_85 : decode cX0_put 85 = .ok (.getfield 94, 3) := by decide +kernel
theorem dX0_put_88 : decode cX0_put 88 = .ok (.iconst 2, 1) := by decide +kernel
theorem dX0_put_89 : decode cX0_put 89 = .ok (.if_icmp .ne 7, 3) := by decide +kernel
theorem dX0_put_92 : decode cX0_put 92 = .ok (.iconst 1, 1) := by decide +kernel
theorem dX0_put_93 : decode cX0_put 93 = .ok (.goto 4, 3) := by decide +kernel
theorem dX0_put_96 : decode cX0_put 96 = .ok (.iconst 0, 1) := by decide +kernel
theorem dX0_put_97 : decode cX0_put 97 = .ok (.istore 4, 2) := by decide +kernel
theorem dX0_put_99 : decode cX0_put 99 = .ok (.iload 4, 2) := by decide +kernel
theorem dX0_put_101 : decode cX0_put 101 = .ok (.ifCond .eq 21, 3) := by decide +kernel
theorem dX0_put_104 : decode cX0_put 104 = .ok (.aload_n 0, 1) := by decide +kernel
theorem dX0_put_105 : decode cX0_put 105 = .ok (.getfield 56, 3) := by decide +kernel
theorem dX0_put_108 : decode cX0_put 108 = .ok (.aload_n 3, 1) := by decide +kernel
theorem dX0_put_109 : decode cX0_put 109 = .ok (.getfield 290, 3) := by decide +kernel
theorem dX0_put_112 : decode cX0_put 112 = .ok (.ldc2_w 104, 3) := by decide +kernel
theorem dX0_put_115 : decode cX0_put 115 = .ok (.invokevirtual 291, 3) := by decide +kernel
theorem dX0_put_118 : decode cX0_put 118 = .ok (.aload_n 3, 1) := by decide +kernel
theorem dX0_put_119 : decode cX0_put 119 = .ok (.if_acmp .eq 14, 3) := by decide +kernel
theorem dX0_put_122 : decode cX0_put 122 = .ok (.aload_n 0, 1) := by decide +kernel
theorem dX0_put_123 : decode cX0_put 123 = .ok (.bipush 15, 2) := by decide +kernel
theorem dX0_put_125 : decode cX0_put 125 = .ok (.aload_n 1, 1) := by decide +kernel
theorem dX0_put_126 : decode cX0_put 126 = .ok (.getfield 162, 3) := by decide +kernel
theorem dX0_put_129 : decode cX0_put 129 = .ok (.invokevirtual 113, 3) := by decide +kernel
theorem dX0_put_132 : decode cX0_put 132 = .ok (.ireturn, 1) := by decide +kernel
theorem dX0_put_133 : decode cX0_put 133 = .ok (.aload_n 0, 1) := by decide +kernel
theorem dX0_put_134 : decode cX0_put 134 = .ok (.aload_n 1, 1) := by decide +kernel
theorem dX0_put_135 : decode cX0_put 135 = .ok (.getfield 185, 3) := by decide +kernel
theorem dX0_put_138 : decode cX0_put 138 = .ok (.aload_n 1, 1) := by decide +kernel
theorem dX0_put_139 : decode cX0_put 139 = .ok (.getfield 150, 3) := by decide +kernel
theorem dX0_put_142 : decode cX0_put 142 = .ok (.getfield 245, 3) := by decide +kernel
theorem dX0_put_145 : decode cX0_put 145 = .ok (.invokevirtual 208, 3) := by decide +kernel
theorem dX0_put_148 : decode cX0_put 148 = .ok (.ireturn, 1) := by decide +kernel
theorem dX0_exprs_0 : decode cX0_exprs 0 = .ok (.aload_n 1, 1) := by decide +kernel
theorem dX0_exprs_1 : decode cX0_exprs 1 = .ok (.astore_n 2, 1) := by decide +kernel
theorem dX0_exprs_2 : decode cX0_exprs 2 = .ok (.aload_n 2, 1) := by decide +kernel
theorem dX0_exprs_3 : decode cX0_exprs 3 = .ok (.ifnull 21, 3) := by decide +kernel
theorem dX0_exprs_6 : decode cX0_exprs 6 = .ok (.aload_n 0, 1) := by decide +kernel
theorem dX0_exprs_7 : decode cX0_exprs 7 = .ok (.aload_n 2, 1) := by decide +kernel
theorem dX0_exprs_8 : decode cX0_exprs 8 = .ok (.invokevirtual 205, 3) := by decide +kernel
theorem dX0_exprs_11 : decode cX0_exprs 11 = .ok (.ifCond .ne 5, 3) := by decide +kernel
theorem dX0_exprs_14 : decode cX0_exprs 14 = .ok (.iconst 0, 1) := by decide +kernel
theorem dX0_exprs_15 : decode cX0_exprs 15 = .ok (.ireturn, 1) := by decide +kernel
theorem dX0_exprs_16 : decode cX0_exprs 16 = .ok (.aload_n 2, 1) := by decide +kernel
theorem dX0_exprs_17 : decode cX0_exprs 17 = .ok (.getfield 191, 3) := by decide +kernel
theorem dX0_exprs_20 : decode cX0_exprs 20 = .ok (.astore_n 2, 1) := by decide +kernel
theorem dX0_exprs_21 : decode cX0_exprs 21 = .ok (.goto (-19), 3) := by decide +kernel
theorem dX0_exprs_24 : decode cX0_exprs 24 = .ok (.iconst 1, 1) := by decide +kernel
theorem dX0_exprs_25 : decode cX0_exprs 25 = .ok (.ireturn, 1) := by decide +kernel
theorem dX0_expr_0 : decode cX0_expr 0 = .ok (.aload_n 1, 1) := by decide +kernel
theorem dX0_expr_1 : decode cX0_expr 1 = .ok (.ifnonnull 16, 3) := by decide +kernel
theorem dX0_expr_4 : decode cX0_expr 4 = .ok (.aload_n 0, 1) := by decide +kernel
theorem dX0_expr_5 : decode cX0_expr 5 = .ok (.getfield 28, 3) := by decide +kernel
theorem dX0_expr_8 : decode cX0_expr 8 = .ok (.ifCond .ne 7, 3) := by decide +kernel
theorem dX0_expr_11 : decode cX0_expr 11 = .ok (.iconst 1, 1) := by decide +kernel
theorem dX0_expr_12 : decode cX0_expr 12 = .ok (.goto 4, 3) := by decide +kernel
theorem dX0_expr_15 : decode cX0_expr 15 = .ok (.iconst 0, 1) := by decide +kernel
theorem dX0_expr_16 : decode cX0_expr 16 = .ok (.ireturn, 1) := by decide +kernel
theorem dX0_expr_17 : decode cX0_expr 17 = .ok (.aload_n 1, 1) := by decide +kernel
theorem dX0_expr_18 : decode cX0_expr 18 = .ok (.getfield 144, 3) := by decide +kernel
theorem dX0_expr_21 : decode cX0_expr 21 = .ok (.tableswitch 530 1 17 #[83, 92, 101, 138, 189, 256, 318, 401, 401, 407, 413, 481, 518, 530, 530, 530, 524], 83) := by decide +kernel
theorem dX0_expr_104 : decode cX0_expr 104 = .ok (.aload_n 1, 1) := by decide +kernel
theorem dX0_expr_105 : decode cX0_expr 105 = .ok (.ldc2_w 126, 3) := by decide +kernel
theorem dX0_expr_108 : decode cX0_expr 108 = .ok (.putfield 245, 3) := by decide +kernel
theorem dX0_expr_111 : decode cX0_expr 111 = .ok (.iconst 1, 1) := by decide +kernel
theorem dX0_expr_112 : decode cX0_expr 112 = .ok (.ireturn, 1) := by decide +kernel
theorem dX0_expr_113 : decode cX0_expr 113 = .ok (.aload_n 1, 1) := by decide +kernel
theorem dX0_expr_114 : decode cX0_expr 114 = .ok (.ldc2_w 295, 3) := by decide +kernel
theorem dX0_expr_117 : decode cX0_expr 117 = .ok (.putfield 245, 3) := by decide +kernel
theorem dX0_expr_120 : decode cX0_expr 120 = .ok (.iconst 1, 1) := by decide +kernel
theorem dX0_expr_121 : decode cX0_expr 121 = .ok (.ireturn, 1) := by decide +kernel
theorem dX0_expr_122 : decode cX0_expr 122 = .ok (.aload_n 1, 1) := by decide +kernel
theorem dX0_expr_123 : decode cX0_expr 123 = .ok (.aload_n 0, 1) := by decide +kernel
theorem dX0_expr_124 : decode cX0_expr 124 = .ok (.getfield 56, 3) := by decide +kernel
theorem dX0_expr_127 : decode cX0_expr 127 = .ok (.getfield 60, 3) := by decide +kernel
theorem dX0_expr_130 : decode cX0_expr 130 = .ok (.putfield 245, 3) := by decide +kernel
theorem dX0_expr_133 : decode cX0_expr 133 = .ok (.aload_n 0, 1) := by decide +kernel
theorem dX0_expr_134 : decode cX0_expr 134 = .ok (.getfield 198, 3) := by decide +kernel
theorem dX0_expr_137 : decode cX0_expr 137 = .ok (.ifCond .eq 16, 3) := by decide +kernel
theorem dX0_expr_140 : decode cX0_expr 140 = .ok (.aload_n 0, 1) := by decide +kernel
theorem dX0_expr_141 : decode cX0_expr 141 = .ok (.bipush 14, 2) := by decide +kernel
theorem dX0_expr_143 : decode cX0_expr 143 = .ok (.aload_n 1, 1) := by decide +kernel
theorem dX0_expr_144 : decode cX0_expr 144 = .ok (.getfield 162, 3) := by decide +kernel
theorem dX0_expr_147 : decode cX0_expr 147 = .ok (.invokevirtual 113, 3) := by decide +kernel
theorem dX0_expr_150 : decode cX0_expr 150 = .ok (.ifCond .eq 7, 3) := by decide +kernel
theorem dX0_expr_153 : decode cX0_expr 153 = .ok (.iconst 1, 1) := by decide +kernel
theorem dX0_expr_154 : decode cX0_expr 154 = .ok (.goto 4, 3) := by decide +kernel
theorem dX0_expr_157 : decode cX0_expr 157 = .ok (.iconst 0, 1) := by decide +kernel
theorem dX0_expr_158 : decode cX0_expr 158 = .ok (.ireturn, 1) := by decide +kernel
theorem dX0_expr_159 : decode cX0_expr 159 = .ok (.aload_n 0, 1) := by decide +kernel
theorem dX0_expr_160 : decode cX0_expr 160 = .ok (.aload_n 1, 1) := by decide +kernel
theorem dX0_expr_161 : decode cX0_expr 161 = .ok (.invokevirtual 297, 3) := by decide +kernel
theorem dX0_expr_164 : decode cX0_expr 164 = .ok (.ifCond .ne 40, 3) := by decide +kernel
theorem dX0_expr_167 : decode cX0_expr 167 = .ok (.aload_n 0, 1) := by decide +kernel
theorem dX0_expr_168 : decode cX0_expr 168 = .ok (.aload_n 1, 1) := by decide +kernel
theorem dX0_expr_169 : decode cX0_expr 169 = .ok (.aload_n 0, 1) := by decide +kernel
theorem dX0_expr_170 : decode cX0_expr 170 = .ok (.getfield 72, 3) := by decide +kernel
theorem dX0_expr_173 : decode cX0_expr 173 = .ok (.aload_n 0, 1) := by decide +kernel
theorem dX0_expr_174 : decode cX0_expr 174 = .ok (.getfield 43, 3) := by decide +kernel
theorem dX0_expr_177 : decode cX0_expr 177 = .ok (.getfield 157, 3) := by decide +kernel
theorem dX0_expr_180 : decode cX0_expr 180 = .ok (.aload_n 1, 1) := by decide +kernel
theorem dX0_expr_181 : decode cX0_expr 181 = .ok (.getfield 168, 3) := by decide +kernel
theorem dX0_expr_184 : decode cX0_expr 184 = .ok (.laload, 1) := by decide +kernel
theorem dX0_expr_185 : decode cX0_expr 185 = .ok (.invokevirtual 300, 3) := by decide +kernel
theorem dX0_expr_188 : decode cX0_expr 188 = .ok (.ifCond .eq 20, 3) := by decide +kernel
theorem dX0_expr_191 : decode cX0_expr 191 = .ok (.aload_n 0, 1) := by decide +kernel
theorem dX0_expr_192 : decode cX0_expr 192 = .ok (.aload_n 1, 1) := by decide +kernel
theorem dX0_expr_193 : decode cX0_expr 193 = .ok (.aload_n 0, 1) := by decide +kernel
theorem dX0_expr_194 : decode cX0_expr 194 = .ok (.getfield 198, 3) := by decide +kernel
theorem dX0_expr_197 : decode cX0_expr 197 = .ok (.iconst 0, 1) := by decide +kernel
theorem dX0_expr_198 : decode cX0_expr 198 = .ok (.invokevirtual 303, 3) := by decide +kernel
theorem dX0_expr_201 : decode cX0_expr 201 = .ok (.ifCond .eq 7, 3) := by decide +kernel
theorem dX0_expr_204 : decode cX0_expr 204 = .ok (.iconst 1, 1) := by decide +kernel
theorem dX0_expr_205 : decode cX0_expr 205 = .ok (.goto 4, 3) := by decide +kernel
theorem dX0_expr_208 : decode cX0_expr 208 = .ok (.iconst 0, 1) := by decide +kernel
theorem dX0_expr_209 : decode cX0_expr 209 = .ok (.ireturn, 1) := by decide +kernel
theorem dX0_expr_210 : decode cX0_expr 210 = .ok (.aload_n 0, 1) := by decide +kernel
theorem dX0_expr_211 : decode cX0_expr 211 = .ok (.aload_n 1, 1) := by decide +kernel
theorem dX0_expr_212 : decode cX0_expr 212 = .ok (.getfield 150, 3) := by decide +kernel
theorem dX0_expr_215 : decode cX0_expr 215 = .ok (.invokevirtual 268, 3) := by decide +kernel
theorem dX0_expr_218 : decode cX0_expr 218 = .ok (.ifCond .eq 57, 3) := by decide +kernel
theorem dX0_expr_221 : decode cX0_expr 221 = .ok (.aload_n 0, 1) := by decide +kernel
theorem dX0_expr_222 : decode cX0_expr 222 = .ok (.aload_n 1, 1) := by decide +kernel
theorem dX0_expr_223 : decode cX0_expr 223 = .ok (.aload_n 0, 1) := by decide +kernel
theorem dX0_expr_224 : decode cX0_expr 224 = .ok (.getfield 72, 3) := by decide +kernel
theorem dX0_expr_227 : decode cX0_expr 227 = .ok (.aload_n 0, 1) := by decide +kernel
theorem dX0_expr_228 : decode cX0_expr 228 = .ok (.aload_n 0, 1) := by decide +kernel
theorem dX0_expr_229 : decode cX0_expr 229 = .ok (.getfield 72, 3) := by decide +kernel
theorem dX0_expr_232 : decode cX0_expr 232 = .ok (.aload_n 0, 1) := by decide +kernel
theorem dX0_expr_233 : decode cX0_expr 233 = .ok (.getfield 43, 3) := by decide +kernel
theorem dX0_expr_236 : decode cX0_expr 236 = .ok (.getfield 157, 3) := by decide +kernel
theorem dX0_expr_239 : decode cX0_expr 239 = .ok (.aload_n 1, 1) := by decide +kernel
theorem dX0_expr_240 : decode cX0_expr 240 = .ok (.getfield 168, 3) := by decide +kernel
theorem dX0_expr_243 : decode cX0_expr 243 = .ok (.laload, 1) := by decide +kernel
theorem dX0_expr_244 : decode cX0_expr 244 = .ok (.aload_n 1, 1) := by decide +kernel
theorem dX0_expr_245 : decode cX0_expr 245 = .ok (.getfield 150, 3) := by decide +kernel
theorem dX0_expr_248 : decode cX0_expr 248 = .ok (.iconst 0, 1) := by decide +kernel
theorem dX0_expr_249 : decode cX0_expr 249 = .ok (.invokevirtual 106, 3) := by decide +kernel
theorem dX0_expr_252 : decode cX0_expr 252 = .ok (.invokevirtual 307, 3) := by decide +kernel
theorem dX0_expr_255 : decode cX0_expr 255 = .ok (.ifCond .eq 20, 3) := by decide +kernel
theorem dX0_expr_258 : decode cX0_expr 258 = .ok (.aload_n 0, 1) := by decide +kernel
theorem dX0_expr_259 : decode cX0_expr 259 = .ok (.aload_n 1, 1) := by decide +kernel
theorem dX0_expr_260 : decode cX0_expr 260 = .ok (.aload_n 0, 1) := by decide +kernel
theorem dX0_expr_261 : decode cX0_expr 261 = .ok (.getfield 198, 3) := by decide +kernel
theorem dX0_expr_264 : decode cX0_expr 264 = .ok (.iconst 0, 1) := by decide +kernel
theorem dX0_expr_265 : decode cX0_expr 265 = .ok (.invokevirtual 303, 3) := by decide +kernel
theorem dX0_expr_268 : decode cX0_expr 268 = .ok (.ifCond .eq 7, 3) := by decide +kernel
theorem dX0_expr_271 : decode cX0_expr 271 = .ok (.iconst 1, 1) := by decide +kernel
theorem dX0_expr_272 : decode cX0_expr 272 = .ok (.goto 4, 3) := by decide +kernel
theorem dX0_expr_275 : decode cX0_expr 275 = .ok (.iconst 0, 1) := by decide +kernel
theorem dX0_expr_276 : decode cX0_expr 276 = .ok (.ireturn, 1) := by decide +kernel
theorem dX0_expr_277 : decode cX0_expr 277 = .ok (.aload_n 0, 1) := by decide +kernel
theorem dX0_expr_278 : decode cX0_expr 278 = .ok (.aload_n 0, 1) := by decide +kernel
theorem dX0_expr_279 : decode cX0_expr 279 = .ok (.getfield 43, 3) := by decide +kernel
theorem dX0_expr_282 : decode cX0_expr 282 = .ok (.getfield 157, 3) := by decide +kernel
theorem dX0_expr_285 : decode cX0_expr 285 = .ok (.aload_n 1, 1) := by decide +kernel
theorem dX0_expr_286 : decode cX0_expr 286 = .ok (.getfield 162, 3) := by decide +kernel
theorem dX0_expr_289 : decode cX0_expr 289 = .ok (.laload, 1) := by decide +kernel
theorem dX0_expr_290 : decode cX0_expr 290 = .ok (.aload_n 1, 1) := by decide +kernel
theorem dX0_expr_291 : decode cX0_expr 291 = .ok (.getfield 162, 3) := by decide +kernel
theorem dX0_expr_294 : decode cX0_expr 294 = .ok (.invokevirtual 253, 3) := by decide +kernel
theorem dX0_expr_297 : decode cX0_expr 297 = .ok (.istore_n 2, 1) := by decide +kernel
theorem dX0_expr_298 : decode cX0_expr 298 = .ok (.iload_n 2, 1) := by decide +kernel
theorem dX0_expr_299 : decode cX0_expr 299 = .ok (.ifCond .lt 38, 3) := by decide +kernel
theorem dX0_expr_302 : decode cX0_expr 302 = .ok (.aload_n 0, 1) := by decide +kernel
theorem dX0_expr_303 : decode cX0_expr 303 = .ok (.aload_n 1, 1) := by decide +kernel
theorem dX0_expr_304 : decode cX0_expr 304 = .ok (.iload_n 2, 1) := by decide +kernel
theorem dX0_expr_305 : decode cX0_expr 305 = .ok (.aload_n 0, 1) := by decide +kernel
theorem dX0_expr_306 : decode cX0_expr 306 = .ok (.getfield 43, 3) := by decide +kernel
theorem dX0_expr_309 : decode cX0_expr 309 = .ok (.getfield 157, 3) := by decide +kernel
theorem dX0_expr_312 : decode cX0_expr 312 = .ok (.aload_n 1, 1) := by decide +kernel
theorem dX0_expr_313 : decode cX0_expr 313 = .ok (.getfield 168, 3) := by decide +kernel
theorem dX0_expr_316 : decode cX0_expr 316 = .ok (.laload, 1) := by decide +kernel
theorem dX0_expr_317 : decode cX0_expr 317 = .ok (.invokevirtual 300, 3) := by decide +kernel
theorem dX0_expr_320 : decode cX0_expr 320 = .ok (.ifCond .eq 17, 3) := by decide +kernel
theorem dX0_expr_323 : decode cX0_expr 323 = .ok (.aload_n 0, 1) := by decide +kernel
theorem dX0_expr_324 : decode cX0_expr 324 = .ok (.aload_n 1, 1) := by decide +kernel
theorem dX0_expr_325 : decode cX0_expr 325 = .ok (.iconst 1, 1) := by decide +kernel
theorem dX0_expr_326 : decode cX0_expr 326 = .ok (.iconst 0, 1) := by decide +kernel
theorem dX0_expr_327 : decode cX0_expr 327 = .ok (.invokevirtual 303, 3) := by decide +kernel
theorem dX0_expr_330 : decode cX0_expr 330 = .ok (.ifCond .eq 7, 3) := by decide +kernel
theorem dX0_expr_333 : decode cX0_expr 333 = .ok (.iconst 1, 1) := by decide +kernel
theorem dX0_expr_334 : decode cX0_expr 334 = .ok (.goto 4, 3) := by decide +kernel
theorem dX0_expr_337 : decode cX0_expr 337 = .ok (.iconst 0, 1) := by decide +kernel
theorem dX0_expr_338 : decode cX0_expr 338 = .ok (.ireturn, 1) := by decide +kernel
theorem dX0_expr_339 : decode cX0_expr 339 = .ok (.aload_n 0, 1) := by decide +kernel
theorem dX0_expr_340 : decode cX0_expr 340 = .ok (.aload_n 0, 1) := by decide +kernel
theorem dX0_expr_341 : decode cX0_expr 341 = .ok (.getfield 43, 3) := by decide +kernel
theorem dX0_expr_344 : decode cX0_expr 344 = .ok (.getfield 157, 3) := by decide +kernel
theorem dX0_expr_347 : decode cX0_expr 347 = .ok (.aload_n 1, 1) := by decide +kernel
theorem dX0_expr_348 : decode cX0_expr 348 = .ok (.getfield 162, 3) := by decide +kernel
theorem dX0_expr_351 : decode cX0_expr 351 = .ok (.laload, 1) := by decide +kernel
theorem dX0_expr_352 : decode cX0_expr 352 = .ok (.aload_n 1, 1) := by decide +kernel
theorem dX0_expr_353 : decode cX0_expr 353 = .ok (.getfield 162, 3) := by decide +kernel
theorem dX0_expr_356 : decode cX0_expr 356 = .ok (.invokevirtual 253, 3) := by decide +kernel
theorem dX0_expr_359 : decode cX0_expr 359 = .ok (.istore_n 3, 1) := by decide +kernel
theorem dX0_expr_360 : decode cX0_expr 360 = .ok (.iload_n 3, 1) := by decide +kernel
theorem dX0_expr_361 : decode cX0_expr 361 = .ok (.ifCond .lt 59, 3) := by decide +kernel
theorem dX0_expr_364 : decode cX0_expr 364 = .ok (.aload_n 0, 1) := by decide +kernel
theorem dX0_expr_365 : decode cX0_expr 365 = .ok (.aload_n 1, 1) := by decide +kernel
theorem dX0_expr_366 : decode cX0_expr 366 = .ok (.getfield 150, 3) := by decide +kernel
theorem dX0_expr_369 : decode cX0_expr 369 = .ok (.invokevirtual 268, 3) := by decide +kernel
theorem dX0_expr_372 : decode cX0_expr 372 = .ok (.ifCond .eq 48, 3) := by decide +kernel
theorem dX0_expr_375 : decode cX0_expr 375 = .ok (.aload_n 0, 1) := by decide +kernel
theorem dX0_expr_376 : decode cX0_expr 376 = .ok (.aload_n 1, 1) := by decide +kernel
theorem dX0_expr_377 : decode cX0_expr 377 = .ok (.iload_n 3, 1) := by decide +kernel
theorem dX0_expr_378 : decode cX0_expr 378 = .ok (.aload_n 0, 1) := by decide +kernel
theorem dX0_expr_379 : decode cX0_expr 379 = .ok (.iload_n 3, 1) := by decide +kernel
theorem dX0_expr_380 : decode cX0_expr 380 = .ok (.aload_n 0, 1) := by decide +kernel
theorem dX0_expr_381 : decode cX0_expr 381 = .ok (.getfield 43, 3) := by decide +kernel
theorem dX0_expr_384 : decode cX0_expr 384 = .ok (.getfield 157, 3) := by decide +kernel
theorem dX0_expr_387 : decode cX0_expr 387 = .ok (.aload_n 1, 1) := by decide +kernel
theorem dX0_expr_388 : decode cX0_expr 388 = .ok (.getfield 168, 3) := by decide +kernel
theorem dX0_expr_391 : decode cX0_expr 391 = .ok (.laload, 1) := by decide +kernel
theorem dX0_expr_392 : decode cX0_expr 392 = .ok (.aload_n 1, 1) := by decide +kernel
theorem dX0_expr_393 : decode cX0_expr 393 = .ok (.getfield 150, 3) := by decide +kernel
theorem dX0_expr_396 : decode cX0_expr 396 = .ok (.iconst 0, 1) := by decide +kernel
theorem dX0_expr_397 : decode cX0_expr 397 = .ok (.invokevirtual 106, 3) := by decide +kernel
theorem dX0_expr_400 : decode cX0_expr 400 = .ok (.invokevirtual 307, 3) := by decide +kernel
theorem dX0_expr_403 : decode cX0_expr 403 = .ok (.ifCond .eq 17, 3) := by decide +kernel
theorem dX0_expr_406 : decode cX0_expr 406 = .ok (.aload_n 0, 1) := by decide +kernel
theorem dX0_expr_407 : decode cX0_expr 407 = .ok (.aload_n 1, 1) := by decide +kernel
theorem dX0_expr_408 : decode cX0_expr 408 = .ok (.iconst 1, 1) := by decide +kernel
theorem dX0_expr_409 : decode cX0_expr 409 = .ok (.iconst 0, 1) := by decide +kernel
theorem dX0_expr_410 : decode cX0_expr 410 = .ok (.invokevirtual 303, 3) := by decide +kernel
theorem dX0_expr_413 : decode cX0_expr 413 = .ok (.ifCond .eq 7, 3) := by decide +kernel
theorem dX0_expr_416 : decode cX0_expr 416 = .ok (.iconst 1, 1) := by decide +kernel
theorem dX0_expr_417 : decode cX0_expr 417 = .ok (.goto 4, 3) := by decide +kernel
theorem dX0_expr_420 : decode cX0_expr 420 = .ok (.iconst 0, 1) := by decide +kernel
theorem dX0_expr_421 : decode cX0_expr 421 = .ok (.ireturn, 1) := by decide +kernel
theorem dX0_expr_422 : decode cX0_expr 422 = .ok (.aload_n 0, 1) := by decide +kernel
theorem dX0_expr_423 : decode cX0_expr 423 = .ok (.aload_n 1, 1) := by decide +kernel
theorem dX0_expr_424 : decode cX0_expr 424 = .ok (.invokevirtual 311, 3) := by decide +kernel
theorem dX0_expr_427 : decode cX0_expr 427 = .ok (.ireturn, 1) := by decide +kernel
theorem dX0_expr_428 : decode cX0_expr 428 = .ok (.aload_n 0, 1) := by decide +kernel
theorem dX0_expr_429 : decode cX0_expr 429 = .ok (.aload_n 1, 1) := by decide +kernel
theorem dX0_expr_430 : decode cX0_expr 430 = .ok (.invokevirtual 314, 3) := by decide +kernel
theorem dX0_expr_433 : decode cX0_expr 433 = .ok (.ireturn, 1) := by decide +kernel
theorem dX0_expr_434 : decode cX0_expr 434 = .ok (.aload_n 1, 1) := by decide +kernel
theorem dX0_expr_435 : decode cX0_expr 435 = .ok (.aload_n 1, 1) := by decide +kernel
theorem dX0_expr_436 : decode cX0_expr 436 = .ok (.getfield 147, 3) := by decide +kernel
theorem dX0_expr_439 : decode cX0_expr 439 = .ok (.putfield 245, 3) := by decide +kernel
theorem dX0_expr_442 : decode cX0_expr 442 = .ok (.aload_n 0, 1) := by decide +kernel
theorem dX0_expr_443 : decode cX0_expr 443 = .ok (.aload_n 1, 1) := by decide +kernel
theorem dX0_expr_444 : decode cX0_expr 444 = .ok (.getfield 147, 3) := by decide +kernel
theorem dX0_expr_447 : decode cX0_expr 447 = .ok (.aload_n 1, 1) := by decide +kernel
theorem dX0_expr_448 : decode cX0_expr 448 = .ok (.getfield 168, 3) := by decide +kernel
theorem dX0_expr_451 : decode cX0_expr 451 = .ok (.invokevirtual 253, 3) := by decide +kernel
theorem dX0_expr_454 : decode cX0_expr 454 = .ok (.ifCond .lt 46, 3) := by decide +kernel
theorem dX0_expr_457 : decode cX0_expr 457 = .ok (.aload_n 0, 1) := by decide +kernel
theorem dX0_expr_458 : decode cX0_expr 458 = .ok (.aload_n 1, 1) := by decide +kernel
theorem dX0_expr_459 : decode cX0_expr 459 = .ok (.getfield 150, 3) := by decide +kernel
theorem dX0_expr_462 : decode cX0_expr 462 = .ok (.invokevirtual 205, 3) := by decide +kernel
theorem dX0_expr_465 : decode cX0_expr 465 = .ok (.ifCond .eq 35, 3) := by decide +kernel
theorem dX0_expr_468 : decode cX0_expr 468 = .ok (.aload_n 1, 1) := by decide +kernel
theorem dX0_expr_469 : decode cX0_expr 469 = .ok (.getfield 150, 3) := by decide +kernel
theorem dX0_expr_472 : decode cX0_expr 472 = .ok (.ifnull 28, 3) := by decide +kernel
theorem dX0_expr_475 : decode cX0_expr 475 = .ok (.aload_n 0, 1) := by decide +kernel
theorem dX0_expr_476 : decode cX0_expr 476 = .ok (.aload_n 1, 1) := by decide +kernel
theorem dX0_expr_477 : decode cX0_expr 477 = .ok (.getfield 150, 3) := by decide +kernel
theorem dX0_expr_480 : decode cX0_expr 480 = .ok (.getfield 245, 3) := by decide +kernel
theorem dX0_expr_483 : decode cX0_expr 483 = .ok (.aload_n 1, 1) := by decide +kernel
theorem dX0_expr_484 : decode cX0_expr 484 = .ok (.getfield 150, 3) := by decide +kernel
theorem dX0_expr_487 : decode cX0_expr 487 = .ok (.getfield 162, 3) := by decide +kernel
theorem dX0_expr_490 : decode cX0_expr 490 = .ok (.invokevirtual 317, 3) := by decide +kernel
theorem dX0_expr_493 : decode cX0_expr 493 = .ok (.ifCond .eq 7, 3) := by decide +kernel
theorem dX0_expr_496 : decode cX0_expr 496 = .ok (.iconst 1, 1) := by decide +kernel
theorem dX0_expr_497 : decode cX0_expr 497 = .ok (.goto 4, 3) := by decide +kernel
theorem dX0_expr_500 : decode cX0_expr 500 = .ok (.iconst 0, 1) := by decide +kernel
theorem dX0_expr_501 : decode cX0_expr 501 = .ok (.ireturn, 1) := by decide +kernel
theorem dX0_expr_502 : decode cX0_expr 502 = .ok (.aload_n 0, 1) := by decide +kernel
theorem dX0_expr_503 : decode cX0_expr 503 = .ok (.aload_n 1, 1) := by decide +kernel
theorem dX0_expr_504 : decode cX0_expr 504 = .ok (.getfield 150, 3) := by decide +kernel
theorem dX0_expr_507 : decode cX0_expr 507 = .ok (.invokevirtual 205, 3) := by decide +kernel
theorem dX0_expr_510 : decode cX0_expr 510 = .ok (.istore 4, 2) := by decide +kernel
theorem dX0_expr_512 : decode cX0_expr 512 = .ok (.aload_n 1, 1) := by decide +kernel
theorem dX0_expr_513 : decode cX0_expr 513 = .ok (.aload_n 1, 1) := by decide +kernel
theorem dX0_expr_514 : decode cX0_expr 514 = .ok (.getfield 150, 3) := by decide +kernel
theorem dX0_expr_517 : decode cX0_expr 517 = .ok (.ifnonnull 9, 3) := by decide +kernel
theorem dX0_expr_520 : decode cX0_expr 520 = .ok (.ldc2_w 104, 3) := by decide +kernel
theorem dX0_expr_523 : decode cX0_expr 523 = .ok (.goto 10, 3) := by decide +kernel
theorem dX0_expr_526 : decode cX0_expr 526 = .ok (.aload_n 1, 1) := by decide +kernel
theorem dX0_expr_527 : decode cX0_expr 527 = .ok (.getfield 150, 3) := by decide +kernel
theorem dX0_expr_530 : decode cX0_expr 530 = .ok (.getfield 245, 3) := by decide +kernel
theorem dX0_expr_533 : decode cX0_expr 533 = .ok (.putfield 245, 3) := by decide +kernel
theorem dX0_expr_536 : decode cX0_expr 536 = .ok (.iload 4, 2) := by decide +kernel
theorem dX0_expr_538 : decode cX0_expr 538 = .ok (.ireturn, 1) := by decide +kernel
theorem dX0_expr_539 : decode cX0_expr 539 = .ok (.aload_n 0, 1) := by decide +kernel
theorem dX0_expr_540 : decode cX0_expr 540 = .ok (.aload_n 1, 1) := by decide +kernel
theorem dX0_expr_541 : decode cX0_expr 541 = .ok (.invokevirtual 321, 3) := by decide +kernel
theorem dX0_expr_544 : decode cX0_expr 544 = .ok (.ireturn, 1) := by decide +kernel
theorem dX0_expr_545 : decode cX0_expr 545 = .ok (.aload_n 0, 1) := by decide +kernel
theorem dX0_expr_546 : decode cX0_expr 546 = .ok (.aload_n 1, 1) := by decide +kernel
theorem dX0_expr_547 : decode cX0_expr 547 = .ok (.invokevirtual 324, 3) := by decide +kernel
theorem dX0_expr_550 : decode cX0_expr 550 = .ok (.ireturn, 1) := by decide +kernel
theorem dX0_expr_551 : decode cX0_expr 551 = .ok (.aload_n 0, 1) := by decide +kernel
theorem dX0_expr_552 : decode cX0_expr 552 = .ok (.aload_n 1, 1) := by decide +kernel
theorem dX0_expr_553 : decode cX0_expr 553 = .ok (.invokevirtual 327, 3) := by decide +kernel
theorem dX0_expr_556 : decode cX0_expr 556 = .ok (.ireturn, 1) := by decide +kernel
theorem dX0_statics_0 : decode cX0_statics 0 = .ok (.aload_n 1, 1) := by decide +kernel
theorem dX0_statics_1 : decode cX0_statics 1 = .ok (.getfield 283, 3) := by decide +kernel
theorem dX0_statics_4 : decode cX0_statics 4 = .ok (.astore 4, 2) := by decide +kernel
theorem dX0_statics_6 : decode cX0_statics 6 = .ok (.aload 4, 2) := by decide +kernel
theorem dX0_statics_8 : decode cX0_statics 8 = .ok (.ifnonnull 5, 3) := by decide +kernel
theorem dX0_statics_11 : decode cX0_statics 11 = .ok (.iconst 0, 1) := by decide +kernel
theorem dX0_statics_12 : decode cX0_statics 12 = .ok (.ireturn, 1) := by decide +kernel
theorem dX0_statics_13 : decode cX0_statics 13 = .ok (.iload_n 2, 1) := by decide +kernel
theorem dX0_statics_14 : decode cX0_statics 14 = .ok (.ifCond .eq 11, 3) := by decide +kernel
theorem dX0_statics_17 : decode cX0_statics 17 = .ok (.aload 4, 2) := by decide +kernel
theorem dX0_statics_19 : decode cX0_statics 19 = .ok (.getfield 117, 3) := by decide +kernel
theorem dX0_statics_22 : decode cX0_statics 22 = .ok (.ifCond .eq 15, 3) := by decide +kernel
theorem dX0_statics_25 : decode cX0_statics 25 = .ok (.iload_n 3, 1) := by decide +kernel
theorem dX0_statics_26 : decode cX0_statics 26 = .ok (.ifCond .eq 24, 3) := by decide +kernel
theorem dX0_statics_29 : decode cX0_statics 29 = .ok (.aload 4, 2) := by decide +kernel
theorem dX0_statics_31 : decode cX0_statics 31 = .ok (.getfield 117, 3) := by decide +kernel
theorem dX0_statics_34 : decode cX0_statics 34 = .ok (.ifCond .eq 16, 3) := by decide +kernel
theorem dX0_statics_37 : decode cX0_statics 37 = .ok (.aload_n 0, 1) := by decide +kernel
theorem dX0_statics_38 : decode cX0_statics 38 = .ok (.bipush 14, 2) := by decide +kernel
theorem dX0_statics_40 : decode cX0_statics 40 = .ok (.aload_n 1, 1) := by decide +kernel
theorem dX0_statics_41 : decode cX0_statics 41 = .ok (.getfield 168, 3) := by decide +kernel
theorem dX0_statics_44 : decode cX0_statics 44 = .ok (.invokevirtual 113, 3) := by decide +kernel
theorem dX0_statics_47 : decode cX0_statics 47 = .ok (.ifCond .eq 7, 3) := by decide +kernel
theorem dX0_statics_50 : decode cX0_statics 50 = .ok (.iconst 1, 1) := by decide +kernel
theorem dX0_statics_51 : decode cX0_statics 51 = .ok (.goto 4, 3) := by decide +kernel
theorem dX0_statics_54 : decode cX0_statics 54 = .ok (.iconst 0, 1) := by decide +kernel
theorem dX0_statics_55 : decode cX0_statics 55 = .ok (.ireturn, 1) := by decide +kernel
theorem dX0_isObject_0 : decode cX0_isObject 0 = .ok (.lload_n 1, 1) := by decide +kernel
theorem dX0_isObject_1 : decode cX0_isObject 1 = .ok (.ldc2_w 126, 3) := by decide +kernel
theorem dX0_isObject_4 : decode cX0_isObject 4 = .ok (.lcmp, 1) := by decide +kernel
theorem dX0_isObject_5 : decode cX0_isObject 5 = .ok (.ifCond .eq 11, 3) := by decide +kernel
theorem dX0_isObject_8 : decode cX0_isObject 8 = .ok (.lload_n 1, 1) := by decide +kernel
theorem dX0_isObject_9 : decode cX0_isObject 9 = .ok (.ldc2_w 230, 3) := by decide +kernel
theorem dX0_isObject_12 : decode cX0_isObject 12 = .ok (.lcmp, 1) := by decide +kernel
theorem dX0_isObject_13 : decode cX0_isObject 13 = .ok (.ifCond .ne 13, 3) := by decide +kernel
theorem dX0_isObject_16 : decode cX0_isObject 16 = .ok (.aload_n 0, 1) := by decide +kernel
theorem dX0_isObject_17 : decode cX0_isObject 17 = .ok (.bipush 13, 2) := by decide +kernel
theorem dX0_isObject_19 : decode cX0_isObject 19 = .ok (.iload_n 3, 1) := by decide +kernel
theorem dX0_isObject_20 : decode cX0_isObject 20 = .ok (.invokevirtual 113, 3) := by decide +kernel
theorem dX0_isObject_23 : decode cX0_isObject 23 = .ok (.ifCond .eq 7, 3) := by decide +kernel
theorem dX0_isObject_26 : decode cX0_isObject 26 = .ok (.iconst 1, 1) := by decide +kernel
theorem dX0_isObject_27 : decode cX0_isObject 27 = .ok (.goto 4, 3) := by decide +kernel
theorem dX0_isObject_30 : decode cX0_isObject 30 = .ok (.iconst 0, 1) := by decide +kernel
theorem dX0_isObject_31 : decode cX0_isObject 31 = .ok (.ireturn, 1) := by decide +kernel
theorem dX0_isLocal_0 : decode cX0_isLocal 0 = .ok (.aload_n 0, 1) := by decide +kernel
theorem dX0_isLocal_1 : decode cX0_isLocal 1 = .ok (.aload_n 0, 1) := by decide +kernel
theorem dX0_isLocal_2 : decode cX0_isLocal 2 = .ok (.getfield 43, 3) := by decide +kernel
theorem dX0_isLocal_5 : decode cX0_isLocal 5 = .ok (.getfield 157, 3) := by decide +kernel
theorem dX0_isLocal_8 : decode cX0_isLocal 8 = .ok (.aload_n 1, 1) := by decide +kernel
theorem dX0_isLocal_9 : decode cX0_isLocal 9 = .ok (.getfield 168, 3) := by decide +kernel
theorem dX0_isLocal_12 : decode cX0_isLocal 12 = .ok (.laload, 1) := by decide +kernel
theorem dX0_isLocal_13 : decode cX0_isLocal 13 = .ok (.invokevirtual 236, 3) := by decide +kernel
theorem dX0_isLocal_16 : decode cX0_isLocal 16 = .ok (.istore_n 2, 1) := by decide +kernel
theorem dX0_isLocal_17 : decode cX0_isLocal 17 = .ok (.iload_n 2, 1) := by decide +kernel
theorem dX0_isLocal_18 : decode cX0_isLocal 18 = .ok (.ifCond .ge 5, 3) := by decide +kernel
theorem dX0_isLocal_21 : decode cX0_isLocal 21 = .ok (.iconst 0, 1) := by decide +kernel
theorem dX0_isLocal_22 : decode cX0_isLocal 22 = .ok (.ireturn, 1) := by decide +kernel
theorem dX0_isLocal_23 : decode cX0_isLocal 23 = .ok (.aload_n 1, 1) := by decide +kernel
theorem dX0_isLocal_24 : decode cX0_isLocal 24 = .ok (.iload_n 2, 1) := by decide +kernel
theorem dX0_isLocal_25 : decode cX0_isLocal 25 = .ok (.aload_n 0, 1) := by decide +kernel
theorem dX0_isLocal_26 : decode cX0_isLocal 26 = .ok (.getfield 198, 3) := by decide +kernel
theorem dX0_isLocal_29 : decode cX0_isLocal 29 = .ok (.ifCond .eq 7, 3) := by decide +kernel
theorem dX0_isLocal_32 : decode cX0_isLocal 32 = .ok (.iconst 0, 1) := by decide +kernel
theorem dX0_isLocal_33 : decode cX0_isLocal 33 = .ok (.goto 4, 3) := by decide +kernel
theorem dX0_isLocal_36 : decode cX0_isLocal 36 = .ok (.iconst 1, 1) := by decide +kernel
theorem dX0_isLocal_37 : decode cX0_isLocal 37 = .ok (.iadd, 1) := by decide +kernel
theorem dX0_isLocal_38 : decode cX0_isLocal 38 = .ok (.putfield 280, 3) := by decide +kernel
theorem dX0_isLocal_41 : decode cX0_isLocal 41 = .ok (.aload_n 1, 1) := by decide +kernel
theorem dX0_isLocal_42 : decode cX0_isLocal 42 = .ok (.aload_n 0, 1) := by decide +kernel
theorem dX0_isLocal_43 : decode cX0_isLocal 43 = .ok (.getfield 15, 3) := by decide +kernel
theorem dX0_isLocal_46 : decode cX0_isLocal 46 = .ok (.iload_n 2, 1) := by decide +kernel
theorem dX0_isLocal_47 : decode cX0_isLocal 47 = .ok (.laload, 1) := by decide +kernel
theorem dX0_isLocal_48 : decode cX0_isLocal 48 = .ok (.putfield 245, 3) := by decide +kernel
theorem dX0_isLocal_51 : decode cX0_isLocal 51 = .ok (.iconst 1, 1) := by decide +kernel
theorem dX0_isLocal_52 : decode cX0_isLocal 52 = .ok (.ireturn, 1) := by decide +kernel
theorem dX0_field_0 : decode cX0_field 0 = .ok (.aload_n 0, 1) := by decide +kernel
theorem dX0_field_1 : decode cX0_field 1 = .ok (.getfield 35, 3) := by decide +kernel
theorem dX0_field_4 : decode cX0_field 4 = .ok (.iload_n 2, 1) := by decide +kernel
theorem dX0_field_5 : decode cX0_field 5 = .ok (.lload_n 3, 1) := by decide +kernel
theorem dX0_field_6 : decode cX0_field 6 = .ok (.ldc2_w 104, 3) := by decide +kernel
theorem dX0_field_9 : decode cX0_field 9 = .ok (.invokevirtual 175, 3) := by decide +kernel
theorem dX0_field_12 : decode cX0_field 12 = .ok (.astore 5, 2) := by decide +kernel
theorem dX0_field_14 : decode cX0_field 14 = .ok (.aload 5, 2) := by decide +kernel
theorem dX0_field_16 : decode cX0_field 16 = .ok (.ifnull 27, 3) := by decide +kernel
theorem dX0_field_19 : decode cX0_field 19 = .ok (.aload_n 0, 1) := by decide +kernel
theorem dX0_field_20 : decode cX0_field 20 = .ok (.getfield 35, 3) := by decide +kernel
theorem dX0_field_23 : decode cX0_field 23 = .ok (.aload 5, 2) := by decide +kernel
theorem dX0_field_25 : decode cX0_field 25 = .ok (.aload_n 0, 1) := by decide +kernel
theorem dX0_field_26 : decode cX0_field 26 = .ok (.getfield 35, 3) := by decide +kernel
theorem dX0_field_29 : decode cX0_field 29 = .ok (.getfield 179, 3) := by decide +kernel
theorem dX0_field_32 : decode cX0_field 32 = .ok (.iload_n 2, 1) := by decide +kernel
theorem dX0_field_33 : decode cX0_field 33 = .ok (.aload_n 0, 1) := by decide +kernel
theorem dX0_field_34 : decode cX0_field 34 = .ok (.getfield 72, 3) := by decide +kernel
theorem dX0_field_37 : decode cX0_field 37 = .ok (.invokevirtual 182, 3) := by decide +kernel
theorem dX0_field_40 : decode cX0_field 40 = .ok (.ifCond .ne 14, 3) := by decide +kernel
theorem dX0_field_43 : decode cX0_field 43 = .ok (.aload_n 0, 1) := by decide +kernel
theorem dX0_field_44 : decode cX0_field 44 = .ok (.bipush 11, 2) := by decide +kernel
theorem dX0_field_46 : decode cX0_field 46 = .ok (.aload_n 1, 1) := by decide +kernel
theorem dX0_field_47 : decode cX0_field 47 = .ok (.getfield 168, 3) := by decide +kernel
theorem dX0_field_50 : decode cX0_field 50 = .ok (.invokevirtual 113, 3) := by decide +kernel
theorem dX0_field_53 : decode cX0_field 53 = .ok (.ireturn, 1) := by decide +kernel
theorem dX0_field_54 : decode cX0_field 54 = .ok (.aload_n 1, 1) := by decide +kernel
theorem dX0_field_55 : decode cX0_field 55 = .ok (.aload 5, 2) := by decide +kernel
theorem dX0_field_57 : decode cX0_field 57 = .ok (.putfield 283, 3) := by decide +kernel
theorem dX0_field_60 : decode cX0_field 60 = .ok (.aload_n 1, 1) := by decide +kernel
theorem dX0_field_61 : decode cX0_field 61 = .ok (.aload 5, 2) := by decide +kernel
theorem dX0_field_63 : decode cX0_field 63 = .ok (.getfield 123, 3) := by decide +kernel
theorem dX0_field_66 : decode cX0_field 66 = .ok (.putfield 245, 3) := by decide +kernel
theorem dX0_field_69 : decode cX0_field 69 = .ok (.aload_n 1, 1) := by decide +kernel
theorem dX0_field_70 : decode cX0_field 70 = .ok (.aload_n 0, 1) := by decide +kernel
theorem dX0_field_71 : decode cX0_field 71 = .ok (.getfield 35, 3) := by decide +kernel
theorem dX0_field_74 : decode cX0_field 74 = .ok (.getfield 330, 3) := by decide +kernel
theorem dX0_field_77 : decode cX0_field 77 = .ok (.iload_n 2, 1) := by decide +kernel
theorem dX0_field_78 : decode cX0_field 78 = .ok (.aaload, 1) := by decide +kernel
theorem dX0_field_79 : decode cX0_field 79 = .ok (.getfield 60, 3) := by decide +kernel
theorem dX0_field_82 : decode cX0_field 82 = .ok (.putfield 147, 3) := by decide +kernel
theorem dX0_field_85 : decode cX0_field 85 = .ok (.iconst 1, 1) := by decide +kernel
theorem dX0_field_86 : decode cX0_field 86 = .ok (.ireturn, 1) := by decide +kernel
theorem dX0_calls_0 : decode cX0_calls 0 = .ok (.aload_n 3, 1) := by decide +kernel
theorem dX0_calls_1 : decode cX0_calls 1 = .ok (.ifnonnull 14, 3) := by decide +kernel
theorem dX0_calls_4 : decode cX0_calls 4 = .ok (.aload_n 0, 1) := by decide +kernel
theorem dX0_calls_5 : decode cX0_calls 5 = .ok (.bipush 12, 2) := by decide +kernel
theorem dX0_calls_7 : decode cX0_calls 7 = .ok (.aload_n 1, 1) := by decide +kernel
theorem dX0_calls_8 : decode cX0_calls 8 = .ok (.getfield 168, 3) := by decide +kernel
theorem dX0_calls_11 : decode cX0_calls 11 = .ok (.invokevirtual 113, 3) := by decide +kernel
theorem dX0_calls_14 : decode cX0_calls 14 = .ok (.ireturn, 1) := by decide +kernel
theorem dX0_calls_15 : decode cX0_calls 15 = .ok (.aload_n 1, 1) := by decide +kernel
theorem dX0_calls_16 : decode cX0_calls 16 = .ok (.aload_n 3, 1) := by decide +kernel
theorem dX0_calls_17 : decode cX0_calls 17 = .ok (.putfield 283, 3) := by decide +kernel
theorem dX0_calls_20 : decode cX0_calls 20 = .ok (.aload_n 1, 1) := by decide +kernel
theorem dX0_calls_21 : decode cX0_calls 21 = .ok (.aload_n 3, 1) := by decide +kernel
theorem dX0_calls_22 : decode cX0_calls 22 = .ok (.getfield 123, 3) := by decide +kernel
theorem dX0_calls_25 : decode cX0_calls 25 = .ok (.putfield 245, 3) := by decide +kernel
theorem dX0_calls_28 : decode cX0_calls 28 = .ok (.aload_n 1, 1) := by decide +kernel
theorem dX0_calls_29 : decode cX0_calls 29 = .ok (.aload_n 0, 1) := by decide +kernel
theorem dX0_calls_30 : decode cX0_calls 30 = .ok (.getfield 35, 3) := by decide +kernel
theorem dX0_calls_33 : decode cX0_calls 33 = .ok (.getfield 330, 3) := by decide +kernel
theorem dX0_calls_36 : decode cX0_calls 36 = .ok (.iload_n 2, 1) := by decide +kernel
theorem dX0_calls_37 : decode cX0_calls 37 = .ok (.aaload, 1) := by decide +kernel
theorem dX0_calls_38 : decode cX0_calls 38 = .ok (.getfield 60, 3) := by decide +kernel
theorem dX0_calls_41 : decode cX0_calls 41 = .ok (.putfield 147, 3) := by decide +kernel
theorem dX0_calls_44 : decode cX0_calls 44 = .ok (.iconst 1, 1) := by decide +kernel
theorem dX0_calls_45 : decode cX0_calls 45 = .ok (.ireturn, 1) := by decide +kernel
theorem dX0_superCall_0 : decode cX0_superCall 0 = .ok (.aload_n 1, 1) := by decide +kernel
theorem dX0_superCall_1 : decode cX0_superCall 1 = .ok (.getfield 144, 3) := by decide +kernel
theorem dX0_superCall_4 : decode cX0_superCall 4 = .ok (.bipush 8, 2) := by decide +kernel
theorem dX0_superCall_6 : decode cX0_superCall 6 = .ok (.if_icmp .ne 7, 3) := by decide +kernel
theorem dX0_superCall_9 : decode cX0_superCall 9 = .ok (.iconst 1, 1) := by decide +kernel
theorem dX0_superCall_10 : decode cX0_superCall 10 = .ok (.goto 4, 3) := by decide +kernel
theorem dX0_superCall_13 : decode cX0_superCall 13 = .ok (.iconst 0, 1) := by decide +kernel
theorem dX0_superCall_14 : decode cX0_superCall 14 = .ok (.istore_n 2, 1) := by decide +kernel
theorem dX0_superCall_15 : decode cX0_superCall 15 = .ok (.iload_n 2, 1) := by decide +kernel
theorem dX0_superCall_16 : decode cX0_superCall 16 = .ok (.ifCond .eq 26, 3) := by decide +kernel
theorem dX0_superCall_19 : decode cX0_superCall 19 = .ok (.aload_n 0, 1) := by decide +kernel
theorem dX0_superCall_20 : decode cX0_superCall 20 = .ok (.aload_n 0, 1) := by decide +kernel
theorem dX0_superCall_21 : decode cX0_superCall 21 = .ok (.getfield 43, 3) := by decide +kernel
theorem dX0_superCall_24 : decode cX0_superCall 24 = .ok (.getfield 157, 3) := by decide +kernel
theorem dX0_superCall_27 : decode cX0_superCall 27 = .ok (.aload_n 1, 1) := by decide +kernel
theorem dX0_superCall_28 : decode cX0_superCall 28 = .ok (.getfield 162, 3) := by decide +kernel
theorem dX0_superCall_31 : decode cX0_superCall 31 = .ok (.laload, 1) := by decide +kernel
theorem dX0_superCall_32 : decode cX0_superCall 32 = .ok (.aload_n 1, 1) := by decide +kernel
theorem dX0_superCall_33 : decode cX0_superCall 33 = .ok (.getfield 162, 3) := by decide +kernel
theorem dX0_superCall_36 : decode cX0_superCall 36 = .ok (.invokevirtual 253, 3) := by decide +kernel
theorem dX0_superCall_39 : decode cX0_superCall 39 = .ok (.goto 15, 3) := by decide +kernel
theorem dX0_superCall_42 : decode cX0_superCall 42 = .ok (.aload_n 0, 1) := by decide +kernel
theorem dX0_superCall_43 : decode cX0_superCall 43 = .ok (.getfield 35, 3) := by decide +kernel
theorem dX0_superCall_46 : decode cX0_superCall 46 = .ok (.getfield 101, 3) := by decide +kernel
theorem dX0_superCall_49 : decode cX0_superCall 49 = .ok (.aload_n 0, 1) := by decide +kernel
theorem dX0_superCall_50 : decode cX0_superCall 50 = .ok (.getfield 72, 3) := by decide +kernel
theorem dX0_superCall_53 : decode cX0_superCall 53 = .ok (.iaload, 1) := by decide +kernel
theorem dX0_superCall_54 : decode cX0_superCall 54 = .ok (.istore_n 3, 1) := by decide +kernel
theorem dX0_superCall_55 : decode cX0_superCall 55 = .ok (.aload_n 0, 1) := by decide +kernel
theorem dX0_superCall_56 : decode cX0_superCall 56 = .ok (.getfield 28, 3) := by decide +kernel
theorem dX0_superCall_59 : decode cX0_superCall 59 = .ok (.ifCond .ne 14, 3) := by decide +kernel
theorem dX0_superCall_62 : decode cX0_superCall 62 = .ok (.aload_n 0, 1) := by decide +kernel
theorem dX0_superCall_63 : decode cX0_superCall 63 = .ok (.aload_n 1, 1) := by decide +kernel
theorem dX0_superCall_64 : decode cX0_superCall 64 = .ok (.getfield 150, 3) := by decide +kernel
theorem dX0_superCall_67 : decode cX0_superCall 67 = .ok (.invokevirtual 268, 3) := by decide +kernel
theorem dX0_superCall_70 : decode cX0_superCall 70 = .ok (.ifCond .ne 5, 3) := by decide +kernel
theorem dX0_superCall_73 : decode cX0_superCall 73 = .ok (.iconst 0, 1) := by decide +kernel
theorem dX0_superCall_74 : decode cX0_superCall 74 = .ok (.ireturn, 1) := by decide +kernel
theorem dX0_superCall_75 : decode cX0_superCall 75 = .ok (.iload_n 2, 1) := by decide +kernel
theorem dX0_superCall_76 : decode cX0_superCall 76 = .ok (.ifCond .eq 34, 3) := by decide +kernel
theorem dX0_superCall_79 : decode cX0_superCall 79 = .ok (.aload_n 0, 1) := by decide +kernel
theorem dX0_superCall_80 : decode cX0_superCall 80 = .ok (.getfield 56, 3) := by decide +kernel
theorem dX0_superCall_83 : decode cX0_superCall 83 = .ok (.iconst 0, 1) := by decide +kernel
theorem dX0_superCall_84 : decode cX0_superCall 84 = .ok (.aload_n 0, 1) := by decide +kernel
theorem dX0_superCall_85 : decode cX0_superCall 85 = .ok (.getfield 43, 3) := by decide +kernel
theorem dX0_superCall_88 : decode cX0_superCall 88 = .ok (.getfield 157, 3) := by decide +kernel
theorem dX0_superCall_91 : decode cX0_superCall 91 = .ok (.aload_n 1, 1) := by decide +kernel
theorem dX0_superCall_92 : decode cX0_superCall 92 = .ok (.getfield 162, 3) := by decide +kernel
theorem dX0_superCall_95 : decode cX0_superCall 95 = .ok (.laload, 1) := by decide +kernel
theorem dX0_superCall_96 : decode cX0_superCall 96 = .ok (.invokevirtual 332, 3) := by decide +kernel
theorem dX0_superCall_99 : decode cX0_superCall 99 = .ok (.ifCond .ne 7, 3) := by decide +kernel
theorem dX0_superCall_102 : decode cX0_superCall 102 = .ok (.iconst 1, 1) := by decide +kernel
theorem dX0_superCall_103 : decode cX0_superCall 103 = .ok (.goto 14, 3) := by decide +kernel
theorem dX0_superCall_106 : decode cX0_superCall 106 = .ok (.iconst 0, 1) := by decide +kernel
theorem dX0_superCall_107 : decode cX0_superCall 107 = .ok (.goto 10, 3) := by decide +kernel
theorem dX0_superCall_110 : decode cX0_superCall 110 = .ok (.aload_n 0, 1) := by decide +kernel
theorem dX0_superCall_111 : decode cX0_superCall 111 = .ok (.getfield 56, 3) := by decide +kernel
theorem dX0_superCall_114 : decode cX0_superCall 114 = .ok (.getfield 335, 3) := by decide +kernel
theorem dX0_superCall_117 : decode cX0_superCall 117 = .ok (.istore 4, 2) := by decide +kernel
theorem dX0_superCall_119 : decode cX0_superCall 119 = .ok (.iload 4, 2) := by decide +kernel
theorem dX0_superCall_121 : decode cX0_superCall 121 = .ok (.ifCond .eq 7, 3) := by decide +kernel
theorem dX0_superCall_124 : decode cX0_superCall 124 = .ok (.aconst_null, 1) := by decide +kernel
theorem dX0_superCall_125 : decode cX0_superCall 125 = .ok (.goto 25, 3) := by decide +kernel
theorem dX0_superCall_128 : decode cX0_superCall 128 = .ok (.aload_n 0, 1) := by decide +kernel
theorem dX0_superCall_129 : decode cX0_superCall 129 = .ok (.iload_n 3, 1) := by decide +kernel
theorem dX0_superCall_130 : decode cX0_superCall 130 = .ok (.aload_n 0, 1) := by decide +kernel
theorem dX0_superCall_131 : decode cX0_superCall 131 = .ok (.getfield 43, 3) := by decide +kernel
theorem dX0_superCall_134 : decode cX0_superCall 134 = .ok (.getfield 157, 3) := by decide +kernel
theorem dX0_superCall_137 : decode cX0_superCall 137 = .ok (.aload_n 1, 1) := by decide +kernel
theorem dX0_superCall_138 : decode cX0_superCall 138 = .ok (.getfield 168, 3) := by decide +kernel
theorem dX0_superCall_141 : decode cX0_superCall 141 = .ok (.laload, 1) := by decide +kernel
theorem dX0_superCall_142 : decode cX0_superCall 142 = .ok (.aload_n 1, 1) := by decide +kernel
theorem dX0_superCall_143 : decode cX0_superCall 143 = .ok (.getfield 150, 3) := by decide +kernel
theorem dX0_superCall_146 : decode cX0_superCall 146 = .ok (.iconst 0, 1) := by decide +kernel
theorem dX0_superCall_147 : decode cX0_superCall 147 = .ok (.invokevirtual 106, 3) := by decide +kernel
theorem dX0_superCall_150 : decode cX0_superCall 150 = .ok (.astore 5, 2) := by decide +kernel
theorem dX0_superCall_152 : decode cX0_superCall 152 = .ok (.aload 5, 2) := by decide +kernel
theorem dX0_superCall_154 : decode cX0_superCall 154 = .ok (.ifnull 22, 3) := by decide +kernel
theorem dX0_superCall_157 : decode cX0_superCall 157 = .ok (.aload 5, 2) := by decide +kernel
theorem dX0_superCall_159 : decode cX0_superCall 159 = .ok (.getfield 338, 3) := by decide +kernel
theorem dX0_superCall_162 : decode cX0_superCall 162 = .ok (.ifCond .ne 14, 3) := by decide +kernel
theorem dX0_superCall_165 : decode cX0_superCall 165 = .ok (.aload_n 0, 1) := by decide +kernel
theorem dX0_superCall_166 : decode cX0_superCall 166 = .ok (.aload_n 1, 1) := by decide +kernel
theorem dX0_superCall_167 : decode cX0_superCall 167 = .ok (.iload_n 3, 1) := by decide +kernel
theorem dX0_superCall_168 : decode cX0_superCall 168 = .ok (.aload 5, 2) := by decide +kernel
theorem dX0_superCall_170 : decode cX0_superCall 170 = .ok (.invokevirtual 307, 3) := by decide +kernel
theorem dX0_superCall_173 : decode cX0_superCall 173 = .ok (.ifCond .ne 14, 3) := by decide +kernel
theorem dX0_superCall_176 : decode cX0_superCall 176 = .ok (.aload_n 0, 1) := by decide +kernel
theorem dX0_superCall_177 : decode cX0_superCall 177 = .ok (.bipush 12, 2) := by decide +kernel
theorem dX0_superCall_179 : decode cX0_superCall 179 = .ok (.aload_n 1, 1) := by decide +kernel
theorem dX0_superCall_180 : decode cX0_superCall 180 = .ok (.getfield 168, 3) := by decide +kernel
theorem dX0_superCall_183 : decode cX0_superCall 183 = .ok (.invokevirtual 113, 3) := by decide +kernel
theorem dX0_superCall_186 : decode cX0_superCall 186 = .ok (.ireturn, 1) := by decide +kernel
theorem dX0_superCall_187 : decode cX0_superCall 187 = .ok (.aload_n 0, 1) := by decide +kernel
theorem dX0_superCall_188 : decode cX0_superCall 188 = .ok (.getfield 198, 3) := by decide +kernel
theorem dX0_superCall_191 : decode cX0_superCall 191 = .ok (.ifCond .eq 27, 3) := by decide +kernel
theorem dX0_superCall_194 : decode cX0_superCall 194 = .ok (.aload_n 0, 1) := by decide +kernel
theorem dX0_superCall_195 : decode cX0_superCall 195 = .ok (.bipush 14, 2) := by decide +kernel
theorem dX0_superCall_197 : decode cX0_superCall 197 = .ok (.iload_n 2, 1) := by decide +kernel
theorem dX0_superCall_198 : decode cX0_superCall 198 = .ok (.ifCond .eq 12, 3) := by decide +kernel
theorem dX0_superCall_201 : decode cX0_superCall 201 = .ok (.aload_n 1, 1) := by decide +kernel
theorem dX0_superCall_202 : decode cX0_superCall 202 = .ok (.getfield 162, 3) := by decide +kernel
theorem dX0_superCall_205 : decode cX0_superCall 205 = .ok (.iconst 2, 1) := by decide +kernel
theorem dX0_superCall_206 : decode cX0_superCall 206 = .ok (.iadd, 1) := by decide +kernel
theorem dX0_superCall_207 : decode cX0_superCall 207 = .ok (.goto 7, 3) := by decide +kernel
theorem dX0_superCall_210 : decode cX0_superCall 210 = .ok (.aload_n 1, 1) := by decide +kernel
theorem dX0_superCall_211 : decode cX0_superCall 211 = .ok (.getfield 162, 3) := by decide +kernel
theorem dX0_superCall_214 : decode cX0_superCall 214 = .ok (.invokevirtual 113, 3) := by decide +kernel
theorem dX0_superCall_217 : decode cX0_superCall 217 = .ok (.ireturn, 1) := by decide +kernel
theorem dX0_superCall_218 : decode cX0_superCall 218 = .ok (.aload_n 0, 1) := by decide +kernel
theorem dX0_superCall_219 : decode cX0_superCall 219 = .ok (.aload_n 1, 1) := by decide +kernel
theorem dX0_superCall_220 : decode cX0_superCall 220 = .ok (.iconst 0, 1) := by decide +kernel
theorem dX0_superCall_221 : decode cX0_superCall 221 = .ok (.iconst 1, 1) := by decide +kernel
theorem dX0_superCall_222 : decode cX0_superCall 222 = .ok (.invokevirtual 303, 3) := by decide +kernel
theorem dX0_superCall_225 : decode cX0_superCall 225 = .ok (.ireturn, 1) := by decide +kernel
theorem dX0_made_0 : decode cX0_made 0 = .ok (.aload_n 0, 1) := by decide +kernel
theorem dX0_made_1 : decode cX0_made 1 = .ok (.aload_n 1, 1) := by decide +kernel
theorem dX0_made_2 : decode cX0_made 2 = .ok (.getfield 147, 3) := by decide +kernel
theorem dX0_made_5 : decode cX0_made 5 = .ok (.aload_n 1, 1) := by decide +kernel
theorem dX0_made_6 : decode cX0_made 6 = .ok (.getfield 168, 3) := by decide +kernel
theorem dX0_made_9 : decode cX0_made 9 = .ok (.invokevirtual 253, 3) := by decide +kernel
theorem dX0_made_12 : decode cX0_made 12 = .ok (.istore_n 2, 1) := by decide +kernel
theorem dX0_made_13 : decode cX0_made 13 = .ok (.iload_n 2, 1) := by decide +kernel
theorem dX0_made_14 : decode cX0_made 14 = .ok (.ifCond .lt 14, 3) := by decide +kernel
theorem dX0_made_17 : decode cX0_made 17 = .ok (.aload_n 0, 1) := by decide +kernel
theorem dX0_made_18 : decode cX0_made 18 = .ok (.aload_n 1, 1) := by decide +kernel
theorem dX0_made_19 : decode cX0_made 19 = .ok (.getfield 150, 3) := by decide +kernel
theorem dX0_made_22 : decode cX0_made 22 = .ok (.invokevirtual 268, 3) := by decide +kernel
theorem dX0_made_25 : decode cX0_made 25 = .ok (.ifCond .ne 5, 3) := by decide +kernel
theorem dX0_made_28 : decode cX0_made 28 = .ok (.iconst 0, 1) := by decide +kernel
theorem dX0_made_29 : decode cX0_made 29 = .ok (.ireturn, 1) := by decide +kernel
theorem dX0_made_30 : decode cX0_made 30 = .ok (.aload_n 1, 1) := by decide +kernel
theorem dX0_made_31 : decode cX0_made 31 = .ok (.aload_n 1, 1) := by decide +kernel
theorem dX0_made_32 : decode cX0_made 32 = .ok (.getfield 147, 3) := by decide +kernel
theorem dX0_made_35 : decode cX0_made 35 = .ok (.putfield 245, 3) := by decide +kernel
theorem dX0_made_38 : decode cX0_made 38 = .ok (.aload_n 0, 1) := by decide +kernel
theorem dX0_made_39 : decode cX0_made 39 = .ok (.getfield 35, 3) := by decide +kernel
theorem dX0_made_42 : decode cX0_made 42 = .ok (.getfield 330, 3) := by decide +kernel
theorem dX0_made_45 : decode cX0_made 45 = .ok (.iload_n 2, 1) := by decide +kernel
theorem dX0_made_46 : decode cX0_made 46 = .ok (.aaload, 1) := by decide +kernel
theorem dX0_made_47 : decode cX0_made 47 = .ok (.astore_n 3, 1) := by decide +kernel
theorem dX0_made_48 : decode cX0_made 48 = .ok (.aload_n 1, 1) := by decide +kernel
theorem dX0_made_49 : decode cX0_made 49 = .ok (.aload_n 3, 1) := by decide +kernel
theorem dX0_made_50 : decode cX0_made 50 = .ok (.getfield 335, 3) := by decide +kernel
theorem dX0_made_53 : decode cX0_made 53 = .ok (.ifCond .ne 10, 3) := by decide +kernel
theorem dX0_made_56 : decode cX0_made 56 = .ok (.aload_n 3, 1) := by decide +kernel
theorem dX0_made_57 : decode cX0_made 57 = .ok (.getfield 341, 3) := by decide +kernel
theorem dX0_made_60 : decode cX0_made 60 = .ok (.ifCond .eq 7, 3) := by decide +kernel
theorem dX0_made_63 : decode cX0_made 63 = .ok (.aconst_null, 1) := by decide +kernel
theorem dX0_made_64 : decode cX0_made 64 = .ok (.goto 16, 3) := by decide +kernel
theorem dX0_made_67 : decode cX0_made 67 = .ok (.aload_n 0, 1) := by decide +kernel
theorem dX0_made_68 : decode cX0_made 68 = .ok (.iload_n 2, 1) := by decide +kernel
theorem dX0_made_69 : decode cX0_made 69 = .ok (.ldc2_w 104, 3) := by decide +kernel
theorem dX0_made_72 : decode cX0_made 72 = .ok (.aload_n 1, 1) := by decide +kernel
theorem dX0_made_73 : decode cX0_made 73 = .ok (.getfield 150, 3) := by decide +kernel
theorem dX0_made_76 : decode cX0_made 76 = .ok (.iconst 1, 1) := by decide +kernel
theorem dX0_made_77 : decode cX0_made 77 = .ok (.invokevirtual 106, 3) := by decide +kernel
theorem dX0_made_80 : decode cX0_made 80 = .ok (.putfield 283, 3) := by decide +kernel
theorem dX0_made_83 : decode cX0_made 83 = .ok (.aload_n 1, 1) := by decide +kernel
theorem dX0_made_84 : decode cX0_made 84 = .ok (.getfield 283, 3) := by decide +kernel
theorem dX0_made_87 : decode cX0_made 87 = .ok (.ifnonnull 16, 3) := by decide +kernel
theorem dX0_made_90 : decode cX0_made 90 = .ok (.aload_n 0, 1) := by decide +kernel
theorem dX0_made_91 : decode cX0_made 91 = .ok (.bipush 18, 2) := by decide +kernel
theorem dX0_made_93 : decode cX0_made 93 = .ok (.aload_n 1, 1) := by decide +kernel
theorem dX0_made_94 : decode cX0_made 94 = .ok (.getfield 168, 3) := by decide +kernel
theorem dX0_made_97 : decode cX0_made 97 = .ok (.invokevirtual 113, 3) := by decide +kernel
theorem dX0_made_100 : decode cX0_made 100 = .ok (.ifCond .eq 7, 3) := by decide +kernel
theorem dX0_made_103 : decode cX0_made 103 = .ok (.iconst 1, 1) := by decide +kernel
theorem dX0_made_104 : decode cX0_made 104 = .ok (.goto 4, 3) := by decide +kernel
theorem dX0_made_107 : decode cX0_made 107 = .ok (.iconst 0, 1) := by decide +kernel
theorem dX0_made_108 : decode cX0_made 108 = .ok (.ireturn, 1) := by decide +kernel
theorem dX0_unit_0 : decode cX0_unit 0 = .ok (.aload_n 0, 1) := by decide +kernel
theorem dX0_unit_1 : decode cX0_unit 1 = .ok (.aload_n 1, 1) := by decide +kernel
theorem dX0_unit_2 : decode cX0_unit 2 = .ok (.getfield 150, 3) := by decide +kernel
theorem dX0_unit_5 : decode cX0_unit 5 = .ok (.invokevirtual 205, 3) := by decide +kernel
theorem dX0_unit_8 : decode cX0_unit 8 = .ok (.ifCond .ne 5, 3) := by decide +kernel
theorem dX0_unit_11 : decode cX0_unit 11 = .ok (.iconst 0, 1) := by decide +kernel
theorem dX0_unit_12 : decode cX0_unit 12 = .ok (.ireturn, 1) := by decide +kernel
theorem dX0_unit_13 : decode cX0_unit 13 = .ok (.aload_n 1, 1) := by decide +kernel
theorem dX0_unit_14 : decode cX0_unit 14 = .ok (.getfield 150, 3) := by decide +kernel
theorem dX0_unit_17 : decode cX0_unit 17 = .ok (.ifnonnull 9, 3) := by decide +kernel
theorem dX0_unit_20 : decode cX0_unit 20 = .ok (.ldc2_w 104, 3) := by decide +kernel
theorem dX0_unit_23 : decode cX0_unit 23 = .ok (.goto 10, 3) := by decide +kernel
theorem dX0_unit_26 : decode cX0_unit 26 = .ok (.aload_n 1, 1) := by decide +kernel
theorem dX0_unit_27 : decode cX0_unit 27 = .ok (.getfield 150, 3) := by decide +kernel
theorem dX0_unit_30 : decode cX0_unit 30 = .ok (.getfield 245, 3) := by decide +kernel
theorem dX0_unit_33 : decode cX0_unit 33 = .ok (.lstore_n 2, 1) := by decide +kernel
theorem dX0_unit_34 : decode cX0_unit 34 = .ok (.aload_n 1, 1) := by decide +kernel
theorem dX0_unit_35 : decode cX0_unit 35 = .ok (.getfield 185, 3) := by decide +kernel
theorem dX0_unit_38 : decode cX0_unit 38 = .ok (.astore 4, 2) := by decide +kernel
theorem dX0_unit_40 : decode cX0_unit 40 = .ok (.aload 4, 2) := by decide +kernel
theorem dX0_unit_42 : decode cX0_unit 42 = .ok (.ifnull 32, 3) := by decide +kernel
theorem dX0_unit_45 : decode cX0_unit 45 = .ok (.aload_n 0, 1) := by decide +kernel
theorem dX0_unit_46 : decode cX0_unit 46 = .ok (.aload_n 1, 1) := by decide +kernel
theorem dX0_unit_47 : decode cX0_unit 47 = .ok (.aload 4, 2) := by decide +kernel
theorem dX0_unit_49 : decode cX0_unit 49 = .ok (.lload_n 2, 1) := by decide +kernel
theorem dX0_unit_50 : decode cX0_unit 50 = .ok (.invokevirtual 342, 3) := by decide +kernel
theorem dX0_unit_53 : decode cX0_unit 53 = .ok (.ifCond .ne 5, 3) := by decide +kernel
theorem dX0_unit_56 : decode cX0_unit 56 = .ok (.iconst 0, 1) := by decide +kernel
theorem dX0_unit_57 : decode cX0_unit 57 = .ok (.ireturn, 1) := by decide +kernel
theorem dX0_unit_58 : decode cX0_unit 58 = .ok (.aload 4, 2) := by decide +kernel
theorem dX0_unit_60 : decode cX0_unit 60 = .ok (.getfield 245, 3) := by decide +kernel
theorem dX0_unit_63 : decode cX0_unit 63 = .ok (.lstore_n 2, 1) := by decide +kernel
theorem dX0_unit_64 : decode cX0_unit 64 = .ok (.aload 4, 2) := by decide +kernel
theorem dX0_unit_66 : decode cX0_unit 66 = .ok (.getfield 191, 3) := by decide +kernel
theorem dX0_unit_69 : decode cX0_unit 69 = .ok (.astore 4, 2) := by decide +kernel
theorem dX0_unit_71 : decode cX0_unit 71 = .ok (.goto (-31), 3) := by decide +kernel
theorem dX0_unit_74 : decode cX0_unit 74 = .ok (.aload_n 1, 1) := by decide +kernel
theorem dX0_unit_75 : decode cX0_unit 75 = .ok (.lload_n 2, 1) := by decide +kernel
theorem dX0_unit_76 : decode cX0_unit 76 = .ok (.putfield 245, 3) := by decide +kernel
theorem dX0_unit_79 : decode cX0_unit 79 = .ok (.iconst 1, 1) := by decide +kernel
theorem dX0_unit_80 : decode cX0_unit 80 = .ok (.ireturn, 1) := by decide +kernel
theorem dX0_behind_0 : decode cX0_behind 0 = .ok (.aload_n 2, 1) := by decide +kernel
theorem dX0_behind_1 : decode cX0_behind 1 = .ok (.getfield 144, 3) := by decide +kernel
theorem dX0_behind_4 : decode cX0_behind 4 = .ok (.bipush 16, 2) := by decide +kernel
theorem dX0_behind_6 : decode cX0_behind 6 = .ok (.if_icmp .ne 43, 3) := by decide +kernel
theorem dX0_behind_9 : decode cX0_behind 9 = .ok (.aload_n 2, 1) := by decide +kernel
theorem dX0_behind_10 : decode cX0_behind 10 = .ok (.ldc2_w 126, 3) := by decide +kernel
theorem dX0_behind_13 : decode cX0_behind 13 = .ok (.putfield 245, 3) := by decide +kernel
theorem dX0_behind_16 : decode cX0_behind 16 = .ok (.aload_n 0, 1) := by decide +kernel
theorem dX0_behind_17 : decode cX0_behind 17 = .ok (.aload_n 2, 1) := by decide +kernel
theorem dX0_behind_18 : decode cX0_behind 18 = .ok (.getfield 147, 3) := by decide +kernel
theorem dX0_behind_21 : decode cX0_behind 21 = .ok (.aload_n 2, 1) := by decide +kernel
theorem dX0_behind_22 : decode cX0_behind 22 = .ok (.getfield 168, 3) := by decide +kernel
theorem dX0_behind_25 : decode cX0_behind 25 = .ok (.invokevirtual 253, 3) := by decide +kernel
theorem dX0_behind_28 : decode cX0_behind 28 = .ok (.ifCond .lt 19, 3) := by decide +kernel
theorem dX0_behind_31 : decode cX0_behind 31 = .ok (.aload_n 0, 1) := by decide +kernel
theorem dX0_behind_32 : decode cX0_behind 32 = .ok (.lload_n 3, 1) := by decide +kernel
theorem dX0_behind_33 : decode cX0_behind 33 = .ok (.aload_n 1, 1) := by decide +kernel
theorem dX0_behind_34 : decode cX0_behind 34 = .ok (.getfield 162, 3) := by decide +kernel
theorem dX0_behind_37 : decode cX0_behind 37 = .ok (.invokevirtual 317, 3) := by decide +kernel
theorem dX0_behind_40 : decode cX0_behind 40 = .ok (.ifCond .eq 7, 3) := by decide +kernel
theorem dX0_behind_43 : decode cX0_behind 43 = .ok (.iconst 1, 1) := by decide +kernel
theorem dX0_behind_44 : decode cX0_behind 44 = .ok (.goto 4, 3) := by decide +kernel
theorem dX0_behind_47 : decode cX0_behind 47 = .ok (.iconst 0, 1) := by decide +kernel
theorem dX0_behind_48 : decode cX0_behind 48 = .ok (.ireturn, 1) := by decide +kernel
theorem dX0_behind_49 : decode cX0_behind 49 = .ok (.aload_n 0, 1) := by decide +kernel
theorem dX0_behind_50 : decode cX0_behind 50 = .ok (.aload_n 2, 1) := by decide +kernel
theorem dX0_behind_51 : decode cX0_behind 51 = .ok (.getfield 150, 3) := by decide +kernel
theorem dX0_behind_54 : decode cX0_behind 54 = .ok (.invokevirtual 268, 3) := by decide +kernel
theorem dX0_behind_57 : decode cX0_behind 57 = .ok (.ifCond .ne 5, 3) := by decide +kernel
theorem dX0_behind_60 : decode cX0_behind 60 = .ok (.iconst 0, 1) := by decide +kernel
theorem dX0_behind_61 : decode cX0_behind 61 = .ok (.ireturn, 1) := by decide +kernel
theorem dX0_behind_62 : decode cX0_behind 62 = .ok (.lload_n 3, 1) := by decide +kernel
theorem dX0_behind_63 : decode cX0_behind 63 = .ok (.ldc2_w 126, 3) := by decide +kernel
theorem dX0_behind_66 : decode cX0_behind 66 = .ok (.lcmp, 1) := by decide +kernel
theorem dX0_behind_67 : decode cX0_behind 67 = .ok (.ifCond .eq 19, 3) := by decide +kernel
theorem dX0_behind_70 : decode cX0_behind 70 = .ok (.lload_n 3, 1) := by decide +kernel
theorem dX0_behind_71 : decode cX0_behind 71 = .ok (.ldc2_w 230, 3) := by decide +kernel
theorem dX0_behind_74 : decode cX0_behind 74 = .ok (.lcmp, 1) := by decide +kernel
theorem dX0_behind_75 : decode cX0_behind 75 = .ok (.ifCond .eq 11, 3) := by decide +kernel
theorem dX0_behind_78 : decode cX0_behind 78 = .ok (.lload_n 3, 1) := by decide +kernel
theorem dX0_behind_79 : decode cX0_behind 79 = .ok (.ldc2_w 295, 3) := by decide +kernel
theorem dX0_behind_82 : decode cX0_behind 82 = .ok (.lcmp, 1) := by decide +kernel
theorem dX0_behind_83 : decode cX0_behind 83 = .ok (.ifCond .ne 14, 3) := by decide +kernel
theorem dX0_behind_86 : decode cX0_behind 86 = .ok (.aload_n 0, 1) := by decide +kernel
theorem dX0_behind_87 : decode cX0_behind 87 = .ok (.bipush 13, 2) := by decide +kernel
theorem dX0_behind_89 : decode cX0_behind 89 = .ok (.aload_n 1, 1) := by decide +kernel
theorem dX0_behind_90 : decode cX0_behind 90 = .ok (.getfield 162, 3) := by decide +kernel
theorem dX0_behind_93 : decode cX0_behind 93 = .ok (.invokevirtual 113, 3) := by decide +kernel
theorem dX0_behind_96 : decode cX0_behind 96 = .ok (.ireturn, 1) := by decide +kernel
theorem dX0_behind_97 : decode cX0_behind 97 = .ok (.aload_n 0, 1) := by decide +kernel
theorem dX0_behind_98 : decode cX0_behind 98 = .ok (.getfield 35, 3) := by decide +kernel
theorem dX0_behind_101 : decode cX0_behind 101 = .ok (.lload_n 3, 1) := by decide +kernel
theorem dX0_behind_102 : decode cX0_behind 102 = .ok (.invokevirtual 66, 3) := by decide +kernel
theorem dX0_behind_105 : decode cX0_behind 105 = .ok (.istore 5, 2) := by decide +kernel
theorem dX0_behind_107 : decode cX0_behind 107 = .ok (.aload_n 0, 1) := by decide +kernel
theorem dX0_behind_108 : decode cX0_behind 108 = .ok (.getfield 43, 3) := by decide +kernel
theorem dX0_behind_111 : decode cX0_behind 111 = .ok (.getfield 157, 3) := by decide +kernel
theorem dX0_behind_114 : decode cX0_behind 114 = .ok (.aload_n 2, 1) := by decide +kernel
theorem dX0_behind_115 : decode cX0_behind 115 = .ok (.getfield 168, 3) := by decide +kernel
theorem dX0_behind_118 : decode cX0_behind 118 = .ok (.laload, 1) := by decide +kernel
theorem dX0_behind_119 : decode cX0_behind 119 = .ok (.lstore 6, 2) := by decide +kernel
theorem dX0_behind_121 : decode cX0_behind 121 = .ok (.aload_n 2, 1) := by decide +kernel
theorem dX0_behind_122 : decode cX0_behind 122 = .ok (.getfield 144, 3) := by decide +kernel
theorem dX0_behind_125 : decode cX0_behind 125 = .ok (.bipush 14, 2) := by decide +kernel
theorem dX0_behind_127 : decode cX0_behind 127 = .ok (.if_icmp .ne 52, 3) := by decide +kernel
theorem dX0_behind_130 : decode cX0_behind 130 = .ok (.iload 5, 2) := by decide +kernel
theorem dX0_behind_132 : decode cX0_behind 132 = .ok (.ifCond .ge 19, 3) := by decide +kernel
theorem dX0_behind_135 : decode cX0_behind 135 = .ok (.aload_n 0, 1) := by decide +kernel
theorem dX0_behind_136 : decode cX0_behind 136 = .ok (.bipush 11, 2) := by decide +kernel
theorem dX0_behind_138 : decode cX0_behind 138 = .ok (.aload_n 2, 1) := by decide +kernel
theorem dX0_behind_139 : decode cX0_behind 139 = .ok (.getfield 168, 3) := by decide +kernel
theorem dX0_behind_142 : decode cX0_behind 142 = .ok (.invokevirtual 113, 3) := by decide +kernel
theorem dX0_behind_145 : decode cX0_behind 145 = .ok (.ifCond .eq 32, 3) := by decide +kernel
theorem dX0_behind_148 : decode cX0_behind 148 = .ok (.goto 15, 3) := by decide +kernel
theorem dX0_behind_151 : decode cX0_behind 151 = .ok (.aload_n 0, 1) := by decide +kernel
theorem dX0_behind_152 : decode cX0_behind 152 = .ok (.aload_n 2, 1) := by decide +kernel
theorem dX0_behind_153 : decode cX0_behind 153 = .ok (.iload 5, 2) := by decide +kernel
theorem dX0_behind_155 : decode cX0_behind 155 = .ok (.lload 6, 2) := by decide +kernel
theorem dX0_behind_157 : decode cX0_behind 157 = .ok (.invokevirtual 300, 3) := by decide +kernel
theorem dX0_behind_160 : decode cX0_behind 160 = .ok (.ifCond .eq 17, 3) := by decide +kernel
theorem dX0_behind_163 : decode cX0_behind 163 = .ok (.aload_n 0, 1) := by decide +kernel
theorem dX0_behind_164 : decode cX0_behind 164 = .ok (.aload_n 2, 1) := by decide +kernel
theorem dX0_behind_165 : decode cX0_behind 165 = .ok (.iconst 0, 1) := by decide +kernel
theorem dX0_behind_166 : decode cX0_behind 166 = .ok (.iconst 1, 1) := by decide +kernel
theorem dX0_behind_167 : decode cX0_behind 167 = .ok (.invokevirtual 303, 3) := by decide +kernel
theorem dX0_behind_170 : decode cX0_behind 170 = .ok (.ifCond .eq 7, 3) := by decide +kernel
theorem dX0_behind_173 : decode cX0_behind 173 = .ok (.iconst 1, 1) := by decide +kernel
theorem dX0_behind_174 : decode cX0_behind 174 = .ok (.goto 4, 3) := by decide +kernel
theorem dX0_behind_177 : decode cX0_behind 177 = .ok (.iconst 0, 1) := by decide +kernel
theorem dX0_behind_178 : decode cX0_behind 178 = .ok (.ireturn, 1) := by decide +kernel
theorem dX0_behind_179 : decode cX0_behind 179 = .ok (.aload_n 0, 1) := by decide +kernel
theorem dX0_behind_180 : decode cX0_behind 180 = .ok (.aload_n 2, 1) := by decide +kernel
theorem dX0_behind_181 : decode cX0_behind 181 = .ok (.iload 5, 2) := by decide +kernel
theorem dX0_behind_183 : decode cX0_behind 183 = .ok (.aload_n 0, 1) := by decide +kernel
theorem dX0_behind_184 : decode cX0_behind 184 = .ok (.iload 5, 2) := by decide +kernel
theorem dX0_behind_186 : decode cX0_behind 186 = .ok (.lload 6, 2) := by decide +kernel
theorem dX0_behind_188 : decode cX0_behind 188 = .ok (.aload_n 2, 1) := by decide +kernel
theorem dX0_behind_189 : decode cX0_behind 189 = .ok (.getfield 150, 3) := by decide +kernel
theorem dX0_behind_192 : decode cX0_behind 192 = .ok (.iconst 0, 1) := by decide +kernel
theorem dX0_behind_193 : decode cX0_behind 193 = .ok (.invokevirtual 106, 3) := by decide +kernel
theorem dX0_behind_196 : decode cX0_behind 196 = .ok (.invokevirtual 307, 3) := by decide +kernel
theorem dX0_behind_199 : decode cX0_behind 199 = .ok (.ifCond .eq 17, 3) := by decide +kernel
theorem dX0_behind_202 : decode cX0_behind 202 = .ok (.aload_n 0, 1) := by decide +kernel
theorem dX0_behind_203 : decode cX0_behind 203 = .ok (.aload_n 2, 1) := by decide +kernel
theorem dX0_behind_204 : decode cX0_behind 204 = .ok (.iconst 0, 1) := by decide +kernel
theorem dX0_behind_205 : decode cX0_behind 205 = .ok (.iconst 1, 1) := by decide +kernel
theorem dX0_behind_206 : decode cX0_behind 206 = .ok (.invokevirtual 303, 3) := by decide +kernel
theorem dX0_behind_209 : decode cX0_behind 209 = .ok (.ifCond .eq 7, 3) := by decide +kernel
theorem dX0_behind_212 : decode cX0_behind 212 = .ok (.iconst 1, 1) := by decide +kernel
theorem dX0_behind_213 : decode cX0_behind 213 = .ok (.goto 4, 3) := by decide +kernel
theorem dX0_behind_216 : decode cX0_behind 216 = .ok (.iconst 0, 1) := by decide +kernel
theorem dX0_behind_217 : decode cX0_behind 217 = .ok (.ireturn, 1) := by decide +kernel
theorem dX0_chain_0 : decode cX0_chain 0 = .ok (.aload_n 1, 1) := by decide +kernel
theorem dX0_chain_1 : decode cX0_chain 1 = .ok (.ldc2_w 126, 3) := by decide +kernel
theorem dX0_chain_4 : decode cX0_chain 4 = .ok (.putfield 245, 3) := by decide +kernel
theorem dX0_chain_7 : decode cX0_chain 7 = .ok (.aload_n 1, 1) := by decide +kernel
theorem dX0_chain_8 : decode cX0_chain 8 = .ok (.getfield 150, 3) := by decide +kernel
theorem dX0_chain_11 : decode cX0_chain 11 = .ok (.ifnull 14, 3) := by decide +kernel
theorem dX0_chain_14 : decode cX0_chain 14 = .ok (.aload_n 0, 1) := by decide +kernel
theorem dX0_chain_15 : decode cX0_chain 15 = .ok (.aload_n 1, 1) := by decide +kernel
theorem dX0_chain_16 : decode cX0_chain 16 = .ok (.getfield 150, 3) := by decide +kernel
theorem dX0_chain_19 : decode cX0_chain 19 = .ok (.invokevirtual 205, 3) := by decide +kernel
theorem dX0_chain_22 : decode cX0_chain 22 = .ok (.ifCond .ne 5, 3) := by decide +kernel
theorem dX0_chain_25 : decode cX0_chain 25 = .ok (.iconst 0, 1) := by decide +kernel
theorem dX0_chain_26 : decode cX0_chain 26 = .ok (.ireturn, 1) := by decide +kernel
theorem dX0_chain_27 : decode cX0_chain 27 = .ok (.iconst 1, 1) := by decide +kernel
theorem dX0_chain_28 : decode cX0_chain 28 = .ok (.istore_n 2, 1) := by decide +kernel
theorem dX0_chain_29 : decode cX0_chain 29 = .ok (.aload_n 1, 1) := by decide +kernel
theorem dX0_chain_30 : decode cX0_chain 30 = .ok (.getfield 150, 3) := by decide +kernel
theorem dX0_chain_33 : decode cX0_chain 33 = .ok (.getfield 191, 3) := by decide +kernel
theorem dX0_chain_36 : decode cX0_chain 36 = .ok (.astore_n 3, 1) := by decide +kernel
theorem dX0_chain_37 : decode cX0_chain 37 = .ok (.aload_n 3, 1) := by decide +kernel
theorem dX0_chain_38 : decode cX0_chain 38 = .ok (.ifnull 56, 3) := by decide +kernel
theorem dX0_chain_41 : decode cX0_chain 41 = .ok (.aload_n 0, 1) := by decide +kernel
theorem dX0_chain_42 : decode cX0_chain 42 = .ok (.aload_n 3, 1) := by decide +kernel
theorem dX0_chain_43 : decode cX0_chain 43 = .ok (.invokevirtual 205, 3) := by decide +kernel
theorem dX0_chain_46 : decode cX0_chain 46 = .ok (.ifCond .ne 5, 3) := by decide +kernel
theorem dX0_chain_49 : decode cX0_chain 49 = .ok (.iconst 0, 1) := by decide +kernel
theorem dX0_chain_50 : decode cX0_chain 50 = .ok (.ireturn, 1) := by decide +kernel
theorem dX0_chain_51 : decode cX0_chain 51 = .ok (.iload_n 2, 1) := by decide +kernel
theorem dX0_chain_52 : decode cX0_chain 52 = .ok (.ifCond .eq 19, 3) := by decide +kernel
theorem dX0_chain_55 : decode cX0_chain 55 = .ok (.aload_n 0, 1) := by decide +kernel
theorem dX0_chain_56 : decode cX0_chain 56 = .ok (.aload_n 1, 1) := by decide +kernel
theorem dX0_chain_57 : decode cX0_chain 57 = .ok (.getfield 150, 3) := by decide +kernel
theorem dX0_chain_60 : decode cX0_chain 60 = .ok (.ldc2_w 126, 3) := by decide +kernel
theorem dX0_chain_63 : decode cX0_chain 63 = .ok (.invokevirtual 208, 3) := by decide +kernel
theorem dX0_chain_66 : decode cX0_chain 66 = .ok (.ifCond .ne 5, 3) := by decide +kernel
theorem dX0_chain_69 : decode cX0_chain 69 = .ok (.iconst 0, 1) := by decide +kernel
theorem dX0_chain_70 : decode cX0_chain 70 = .ok (.ireturn, 1) := by decide +kernel
theorem dX0_chain_71 : decode cX0_chain 71 = .ok (.iconst 0, 1) := by decide +kernel
theorem dX0_chain_72 : decode cX0_chain 72 = .ok (.istore_n 2, 1) := by decide +kernel
theorem dX0_chain_73 : decode cX0_chain 73 = .ok (.aload_n 0, 1) := by decide +kernel
theorem dX0_chain_74 : decode cX0_chain 74 = .ok (.aload_n 3, 1) := by decide +kernel
theorem dX0_chain_75 : decode cX0_chain 75 = .ok (.ldc2_w 126, 3) := by decide +kernel
theorem dX0_chain_78 : decode cX0_chain 78 = .ok (.invokevirtual 208, 3) := by decide +kernel
theorem dX0_chain_81 : decode cX0_chain 81 = .ok (.ifCond .ne 5, 3) := by decide +kernel
theorem dX0_chain_84 : decode cX0_chain 84 = .ok (.iconst 0, 1) := by decide +kernel
theorem dX0_chain_85 : decode cX0_chain 85 = .ok (.ireturn, 1) := by decide +kernel
theorem dX0_chain_86 : decode cX0_chain 86 = .ok (.aload_n 3, 1) := by decide +kernel
theorem dX0_chain_87 : decode cX0_chain 87 = .ok (.getfield 191, 3) := by decide +kernel
theorem dX0_chain_90 : decode cX0_chain 90 = .ok (.astore_n 3, 1) := by decide +kernel
theorem dX0_chain_91 : decode cX0_chain 91 = .ok (.goto (-54), 3) := by decide +kernel
theorem dX0_chain_94 : decode cX0_chain 94 = .ok (.iconst 1, 1) := by decide +kernel
theorem dX0_chain_95 : decode cX0_chain 95 = .ok (.ireturn, 1) := by decide +kernel
theorem dX0_compare_0 : decode cX0_compare 0 = .ok (.aload_n 1, 1) := by decide +kernel
theorem dX0_compare_1 : decode cX0_compare 1 = .ok (.ldc2_w 126, 3) := by decide +kernel
theorem dX0_compare_4 : decode cX0_compare 4 = .ok (.putfield 245, 3) := by decide +kernel
theorem dX0_compare_7 : decode cX0_compare 7 = .ok (.aload_n 0, 1) := by decide +kernel
theorem dX0_compare_8 : decode cX0_compare 8 = .ok (.aload_n 1, 1) := by decide +kernel
theorem dX0_compare_9 : decode cX0_compare 9 = .ok (.getfield 150, 3) := by decide +kernel
theorem dX0_compare_12 : decode cX0_compare 12 = .ok (.invokevirtual 205, 3) := by decide +kernel
theorem dX0_compare_15 : decode cX0_compare 15 = .ok (.ifCond .eq 28, 3) := by decide +kernel
theorem dX0_compare_18 : decode cX0_compare 18 = .ok (.aload_n 0, 1) := by decide +kernel
theorem dX0_compare_19 : decode cX0_compare 19 = .ok (.aload_n 1, 1) := by decide +kernel
theorem dX0_compare_20 : decode cX0_compare 20 = .ok (.getfield 185, 3) := by decide +kernel
theorem dX0_compare_23 : decode cX0_compare 23 = .ok (.invokevirtual 205, 3) := by decide +kernel
theorem dX0_compare_26 : decode cX0_compare 26 = .ok (.ifCond .eq 17, 3) := by decide +kernel
theorem dX0_compare_29 : decode cX0_compare 29 = .ok (.aload_n 1, 1) := by decide +kernel
theorem dX0_compare_30 : decode cX0_compare 30 = .ok (.getfield 150, 3) := by decide +kernel
theorem dX0_compare_33 : decode cX0_compare 33 = .ok (.ifnull 10, 3) := by decide +kernel
theorem dX0_compare_36 : decode cX0_compare 36 = .ok (.aload_n 1, 1) := by decide +kernel
theorem dX0_compare_37 : decode cX0_compare 37 = .ok (.getfield 185, 3) := by decide +kernel
theorem dX0_compare_40 : decode cX0_compare 40 = .ok (.ifnonnull 5, 3) := by decide +kernel
theorem dX0_compare_43 : decode cX0_compare 43 = .ok (.iconst 0, 1) := by decide +kernel
theorem dX0_compare_44 : decode cX0_compare 44 = .ok (.ireturn, 1) := by decide +kernel
theorem dX0_compare_45 : decode cX0_compare 45 = .ok (.aload_n 1, 1) := by decide +kernel
theorem dX0_compare_46 : decode cX0_compare 46 = .ok (.getfield 188, 3) := by decide +kernel
theorem dX0_compare_49 : decode cX0_compare 49 = .ok (.sipush 160, 3) := by decide +kernel
theorem dX0_compare_52 : decode cX0_compare 52 = .ok (.if_icmp .ne 37, 3) := by decide +kernel
theorem dX0_compare_55 : decode cX0_compare 55 = .ok (.aload_n 0, 1) := by decide +kernel
theorem dX0_compare_56 : decode cX0_compare 56 = .ok (.aload_n 1, 1) := by decide +kernel
theorem dX0_compare_57 : decode cX0_compare 57 = .ok (.getfield 150, 3) := by decide +kernel
theorem dX0_compare_60 : decode cX0_compare 60 = .ok (.ldc2_w 126, 3) := by decide +kernel
theorem dX0_compare_63 : decode cX0_compare 63 = .ok (.invokevirtual 208, 3) := by decide +kernel
theorem dX0_compare_66 : decode cX0_compare 66 = .ok (.ifCond .eq 21, 3) := by decide +kernel
theorem dX0_compare_69 : decode cX0_compare 69 = .ok (.aload_n 0, 1) := by decide +kernel
theorem dX0_compare_70 : decode cX0_compare 70 = .ok (.aload_n 1, 1) := by decide +kernel
theorem dX0_compare_71 : decode cX0_compare 71 = .ok (.getfield 185, 3) := by decide +kernel
theorem dX0_compare_74 : decode cX0_compare 74 = .ok (.ldc2_w 126, 3) := by decide +kernel
theorem dX0_compare_77 : decode cX0_compare 77 = .ok (.invokevirtual 208, 3) := by decide +kernel
theorem dX0_compare_80 : decode cX0_compare 80 = .ok (.ifCond .eq 7, 3) := by decide +kernel
theorem dX0_compare_83 : decode cX0_compare 83 = .ok (.iconst 1, 1) := by decide +kernel
theorem dX0_compare_84 : decode cX0_compare 84 = .ok (.goto 4, 3) := by decide +kernel
theorem dX0_compare_87 : decode cX0_compare 87 = .ok (.iconst 0, 1) := by decide +kernel
theorem dX0_compare_88 : decode cX0_compare 88 = .ok (.ireturn, 1) := by decide +kernel
theorem dX0_compare_89 : decode cX0_compare 89 = .ok (.aload_n 1, 1) := by decide +kernel
theorem dX0_compare_90 : decode cX0_compare 90 = .ok (.getfield 150, 3) := by decide +kernel
theorem dX0_compare_93 : decode cX0_compare 93 = .ok (.getfield 245, 3) := by decide +kernel
theorem dX0_compare_96 : decode cX0_compare 96 = .ok (.ldc2_w 230, 3) := by decide +kernel
theorem dX0_compare_99 : decode cX0_compare 99 = .ok (.lcmp, 1) := by decide +kernel
theorem dX0_compare_100 : decode cX0_compare 100 = .ok (.ifCond .ne 17, 3) := by decide +kernel
theorem dX0_compare_103 : decode cX0_compare 103 = .ok (.aload_n 0, 1) := by decide +kernel
theorem dX0_compare_104 : decode cX0_compare 104 = .ok (.bipush 13, 2) := by decide +kernel
theorem dX0_compare_106 : decode cX0_compare 106 = .ok (.aload_n 1, 1) := by decide +kernel
theorem dX0_compare_107 : decode cX0_compare 107 = .ok (.getfield 150, 3) := by decide +kernel
theorem dX0_compare_110 : decode cX0_compare 110 = .ok (.getfield 162, 3) := by decide +kernel
theorem dX0_compare_113 : decode cX0_compare 113 = .ok (.invokevirtual 113, 3) := by decide +kernel
theorem dX0_compare_116 : decode cX0_compare 116 = .ok (.ireturn, 1) := by decide +kernel
theorem dX0_compare_117 : decode cX0_compare 117 = .ok (.aload_n 1, 1) := by decide +kernel
theorem dX0_compare_118 : decode cX0_compare 118 = .ok (.getfield 185, 3) := by decide +kernel
theorem dX0_compare_121 : decode cX0_compare 121 = .ok (.getfield 245, 3) := by decide +kernel
theorem dX0_compare_124 : decode cX0_compare 124 = .ok (.ldc2_w 230, 3) := by decide +kernel
theorem dX0_compare_127 : decode cX0_compare 127 = .ok (.lcmp, 1) := by decide +kernel
theorem dX0_compare_128 : decode cX0_compare 128 = .ok (.ifCond .eq 44, 3) := by decide +kernel
theorem dX0_compare_131 : decode cX0_compare 131 = .ok (.aload_n 1, 1) := by decide +kernel
theorem dX0_compare_132 : decode cX0_compare 132 = .ok (.getfield 185, 3) := by decide +kernel
theorem dX0_compare_135 : decode cX0_compare 135 = .ok (.getfield 245, 3) := by decide +kernel
theorem dX0_compare_138 : decode cX0_compare 138 = .ok (.ldc2_w 126, 3) := by decide +kernel
theorem dX0_compare_141 : decode cX0_compare 141 = .ok (.lcmp, 1) := by decide +kernel
theorem dX0_compare_142 : decode cX0_compare 142 = .ok (.ifCond .ne 7, 3) := by decide +kernel
theorem dX0_compare_145 : decode cX0_compare 145 = .ok (.iconst 1, 1) := by decide +kernel
theorem dX0_compare_146 : decode cX0_compare 146 = .ok (.goto 4, 3) := by decide +kernel
theorem dX0_compare_149 : decode cX0_compare 149 = .ok (.iconst 0, 1) := by decide +kernel
theorem dX0_compare_150 : decode cX0_compare 150 = .ok (.aload_n 1, 1) := by decide +kernel
theorem dX0_compare_151 : decode cX0_compare 151 = .ok (.getfield 150, 3) := by decide +kernel
theorem dX0_compare_154 : decode cX0_compare 154 = .ok (.getfield 245, 3) := by decide +kernel
theorem dX0_compare_157 : decode cX0_compare 157 = .ok (.ldc2_w 126, 3) := by decide +kernel
theorem dX0_compare_160 : decode cX0_compare 160 = .ok (.lcmp, 1) := by decide +kernel
theorem dX0_compare_161 : decode cX0_compare 161 = .ok (.ifCond .ne 7, 3) := by decide +kernel
theorem dX0_compare_164 : decode cX0_compare 164 = .ok (.iconst 1, 1) := by decide +kernel
theorem dX0_compare_165 : decode cX0_compare 165 = .ok (.goto 4, 3) := by decide +kernel
theorem dX0_compare_168 : decode cX0_compare 168 = .ok (.iconst 0, 1) := by decide +kernel
theorem dX0_compare_169 : decode cX0_compare 169 = .ok (.if_icmp .eq 19, 3) := by decide +kernel
theorem dX0_compare_172 : decode cX0_compare 172 = .ok (.aload_n 0, 1) := by decide +kernel
theorem dX0_compare_173 : decode cX0_compare 173 = .ok (.bipush 13, 2) := by decide +kernel
theorem dX0_compare_175 : decode cX0_compare 175 = .ok (.aload_n 1, 1) := by decide +kernel
theorem dX0_compare_176 : decode cX0_compare 176 = .ok (.getfield 185, 3) := by decide +kernel
theorem dX0_compare_179 : decode cX0_compare 179 = .ok (.getfield 162, 3) := by decide +kernel
theorem dX0_compare_182 : decode cX0_compare 182 = .ok (.invokevirtual 113, 3) := by decide +kernel
theorem dX0_compare_185 : decode cX0_compare 185 = .ok (.ifCond .eq 7, 3) := by decide +kernel
theorem dX0_compare_188 : decode cX0_compare 188 = .ok (.iconst 1, 1) := by decide +kernel
theorem dX0_compare_189 : decode cX0_compare 189 = .ok (.goto 4, 3) := by decide +kernel
theorem dX0_compare_192 : decode cX0_compare 192 = .ok (.iconst 0, 1) := by decide +kernel
theorem dX0_compare_193 : decode cX0_compare 193 = .ok (.ireturn, 1) := by decide +kernel
theorem dX0_meant_0 : decode cX0_meant 0 = .ok (.iload_n 1, 1) := by decide +kernel
theorem dX0_meant_1 : decode cX0_meant 1 = .ok (.ifCond .ge 5, 3) := by decide +kernel
theorem dX0_meant_4 : decode cX0_meant 4 = .ok (.aconst_null, 1) := by decide +kernel
theorem dX0_meant_5 : decode cX0_meant 5 = .ok (.areturn, 1) := by decide +kernel
theorem dX0_meant_6 : decode cX0_meant 6 = .ok (.iconst 0, 1) := by decide +kernel
theorem dX0_meant_7 : decode cX0_meant 7 = .ok (.istore 6, 2) := by decide +kernel
theorem dX0_meant_9 : decode cX0_meant 9 = .ok (.aload 4, 2) := by decide +kernel
theorem dX0_meant_11 : decode cX0_meant 11 = .ok (.astore 7, 2) := by decide +kernel
theorem dX0_meant_13 : decode cX0_meant 13 = .ok (.aload 7, 2) := by decide +kernel
theorem dX0_meant_15 : decode cX0_meant 15 = .ok (.ifnull 16, 3) := by decide +kernel
theorem dX0_meant_18 : decode cX0_meant 18 = .ok (.iinc 6 1, 3) := by decide +kernel
theorem dX0_meant_21 : decode cX0_meant 21 = .ok (.aload 7, 2) := by decide +kernel
theorem dX0_meant_23 : decode cX0_meant 23 = .ok (.getfield 191, 3) := by decide +kernel
theorem dX0_meant_26 : decode cX0_meant 26 = .ok (.astore 7, 2) := by decide +kernel
theorem dX0_meant_28 : decode cX0_meant 28 = .ok (.goto (-15), 3) := by decide +kernel
theorem dX0_meant_31 : decode cX0_meant 31 = .ok (.aload_n 0, 1) := by decide +kernel
theorem dX0_meant_32 : decode cX0_meant 32 = .ok (.iload_n 1, 1) := by decide +kernel
theorem dX0_meant_33 : decode cX0_meant 33 = .ok (.iload 5, 2) := by decide +kernel
theorem dX0_meant_35 : decode cX0_meant 35 = .ok (.invokevirtual 346, 3) := by decide +kernel
theorem dX0_meant_38 : decode cX0_meant 38 = .ok (.istore 7, 2) := by decide +kernel
theorem dX0_meant_40 : decode cX0_meant 40 = .ok (.aload_n 0, 1) := by decide +kernel
theorem dX0_meant_41 : decode cX0_meant 41 = .ok (.iconst 0, 1) := by decide +kernel
theorem dX0_meant_42 : decode cX0_meant 42 = .ok (.putfield 350, 3) := by decide +kernel
theorem dX0_meant_45 : decode cX0_meant 45 = .ok (.iconst 0, 1) := by decide +kernel
theorem dX0_meant_46 : decode cX0_meant 46 = .ok (.istore 8, 2) := by decide +kernel
theorem dX0_meant_48 : decode cX0_meant 48 = .ok (.iload 8, 2) := by decide +kernel
theorem dX0_meant_50 : decode cX0_meant 50 = .ok (.iload 7, 2) := by decide +kernel
theorem dX0_meant_52 : decode cX0_meant 52 = .ok (.if_icmp .ge 197, 3) := by decide +kernel
theorem dX0_meant_55 : decode cX0_meant 55 = .ok (.aload_n 0, 1) := by decide +kernel
theorem dX0_meant_56 : decode cX0_meant 56 = .ok (.getfield 35, 3) := by decide +kernel
theorem dX0_meant_59 : decode cX0_meant 59 = .ok (.getfield 330, 3) := by decide +kernel
theorem dX0_meant_62 : decode cX0_meant 62 = .ok (.aload_n 0, 1) := by decide +kernel
theorem dX0_meant_63 : decode cX0_meant 63 = .ok (.getfield 24, 3) := by decide +kernel
theorem dX0_meant_66 : decode cX0_meant 66 = .ok (.iload 8, 2) := by decide +kernel
theorem dX0_meant_68 : decode cX0_meant 68 = .ok (.iaload, 1) := by decide +kernel
theorem dX0_meant_69 : decode cX0_meant 69 = .ok (.aaload, 1) := by decide +kernel
theorem dX0_meant_70 : decode cX0_meant 70 = .ok (.astore 9, 2) := by decide +kernel
theorem dX0_meant_72 : decode cX0_meant 72 = .ok (.aload 9, 2) := by decide +kernel
theorem dX0_meant_74 : decode cX0_meant 74 = .ok (.getfield 335, 3) := by decide +kernel
theorem dX0_meant_77 : decode cX0_meant 77 = .ok (.ifCond .eq 18, 3) := by decide +kernel
theorem dX0_meant_80 : decode cX0_meant 80 = .ok (.aload_n 0, 1) := by decide +kernel
theorem dX0_meant_81 : decode cX0_meant 81 = .ok (.getfield 24, 3) := by decide +kernel
theorem dX0_meant_84 : decode cX0_meant 84 = .ok (.iload 8, 2) := by decide +kernel
theorem dX0_meant_86 : decode cX0_meant 86 = .ok (.iaload, 1) := by decide +kernel
theorem dX0_meant_87 : decode cX0_meant 87 = .ok (.iload_n 1, 1) := by decide +kernel
theorem dX0_meant_88 : decode cX0_meant 88 = .ok (.if_icmp .eq 7, 3) := by decide +kernel
theorem dX0_meant_91 : decode cX0_meant 91 = .ok (.iconst 1, 1) := by decide +kernel
theorem dX0_meant_92 : decode cX0_meant 92 = .ok (.goto 4, 3) := by decide +kernel
theorem dX0_meant_95 : decode cX0_meant 95 = .ok (.iconst 0, 1) := by decide +kernel
theorem dX0_meant_96 : decode cX0_meant 96 = .ok (.istore 10, 2) := by decide +kernel
theorem dX0_meant_98 : decode cX0_meant 98 = .ok (.iconst 0, 1) := by decide +kernel
theorem dX0_meant_99 : decode cX0_meant 99 = .ok (.istore 11, 2) := by decide +kernel
theorem dX0_meant_101 : decode cX0_meant 101 = .ok (.iload 11, 2) := by decide +kernel
theorem dX0_meant_103 : decode cX0_meant 103 = .ok (.aload 9, 2) := by decide +kernel
theorem dX0_meant_105 : decode cX0_meant 105 = .ok (.getfield 88, 3) := by decide +kernel
theorem dX0_meant_108 : decode cX0_meant 108 = .ok (.if_icmp .ge 135, 3) := by decide +kernel
theorem dX0_meant_111 : decode cX0_meant 111 = .ok (.aload 9, 2) := by decide +kernel
theorem dX0_meant_113 : decode cX0_meant 113 = .ok (.getfield 91, 3) := by decide +kernel
theorem dX0_meant_116 : decode cX0_meant 116 = .ok (.iload 11, 2) := by decide +kernel
theorem dX0_meant_118 : decode cX0_meant 118 = .ok (.aaload, 1) := by decide +kernel
theorem dX0_meant_119 : decode cX0_meant 119 = .ok (.astore 12, 2) := by decide +kernel
theorem dX0_meant_121 : decode cX0_meant 121 = .ok (.iload 5, 2) := by decide +kernel
theorem dX0_meant_123 : decode cX0_meant 123 = .ok (.ifCond .eq 20, 3) := by decide +kernel
theorem dX0_meant_126 : decode cX0_meant 126 = .ok (.aload 12, 2) := by decide +kernel
theorem dX0_meant_128 : decode cX0_meant 128 = .ok (.getfield 94, 3) := by decide +kernel
theorem dX0_meant_131 : decode cX0_meant 131 = .ok (.iconst 2, 1) := by decide +kernel
theorem dX0_meant_132 : decode cX0_meant 132 = .ok (.if_icmp .ne 7, 3) := by decide +kernel
theorem dX0_meant_135 : decode cX0_meant 135 = .ok (.iconst 1, 1) := by decide +kernel
theorem dX0_meant_136 : decode cX0_meant 136 = .ok (.goto 39, 3) := by decide +kernel
theorem dX0_meant_139 : decode cX0_meant 139 = .ok (.iconst 0, 1) := by decide +kernel
theorem dX0_meant_140 : decode cX0_meant 140 = .ok (.goto 35, 3) := by decide +kernel
theorem dX0_meant_143 : decode cX0_meant 143 = .ok (.aload 12, 2) := by decide +kernel
theorem dX0_meant_145 : decode cX0_meant 145 = .ok (.getfield 94, 3) := by decide +kernel
theorem dX0_meant_148 : decode cX0_meant 148 = .ok (.iconst 1, 1) := by decide +kernel
theorem dX0_meant_149 : decode cX0_meant 149 = .ok (.if_icmp .ne 25, 3) := by decide +kernel
theorem dX0_meant_152 : decode cX0_meant 152 = .ok (.aload 12, 2) := by decide +kernel
theorem dX0_meant_154 : decode cX0_meant 154 = .ok (.getfield 290, 3) := by decide +kernel
theorem dX0_meant_157 : decode cX0_meant 157 = .ok (.lload_n 2, 1) := by decide +kernel
theorem dX0_meant_158 : decode cX0_meant 158 = .ok (.lcmp, 1) := by decide +kernel
theorem dX0_meant_159 : decode cX0_meant 159 = .ok (.ifCond .ne 15, 3) := by decide +kernel
theorem dX0_meant_162 : decode cX0_meant 162 = .ok (.aload 12, 2) := by decide +kernel
theorem dX0_meant_164 : decode cX0_meant 164 = .ok (.getfield 353, 3) := by decide +kernel
theorem dX0_meant_167 : decode cX0_meant 167 = .ok (.ifCond .ne 7, 3) := by decide +kernel
theorem dX0_meant_170 : decode cX0_meant 170 = .ok (.iconst 1, 1) := by decide +kernel
theorem dX0_meant_171 : decode cX0_meant 171 = .ok (.goto 4, 3) := by decide +kernel
theorem dX0_meant_174 : decode cX0_meant 174 = .ok (.iconst 0, 1) := by decide +kernel
theorem dX0_meant_175 : decode cX0_meant 175 = .ok (.istore 13, 2) := by decide +kernel
theorem dX0_meant_177 : decode cX0_meant 177 = .ok (.iload 13, 2) := by decide +kernel
theorem dX0_meant_179 : decode cX0_meant 179 = .ok (.ifCond .eq 58, 3) := by decide +kernel
theorem dX0_meant_182 : decode cX0_meant 182 = .ok (.aload 12, 2) := by decide +kernel
theorem dX0_meant_184 : decode cX0_meant 184 = .ok (.getfield 212, 3) := by decide +kernel
theorem dX0_meant_187 : decode cX0_meant 187 = .ok (.iload 6, 2) := by decide +kernel
theorem dX0_meant_189 : decode cX0_meant 189 = .ok (.if_icmp .ne 48, 3) := by decide +kernel
theorem dX0_meant_192 : decode cX0_meant 192 = .ok (.aload 12, 2) := by decide +kernel
theorem dX0_meant_194 : decode cX0_meant 194 = .ok (.getfield 117, 3) := by decide +kernel
theorem dX0_meant_197 : decode cX0_meant 197 = .ok (.ifCond .eq 8, 3) := by decide +kernel
theorem dX0_meant_200 : decode cX0_meant 200 = .ok (.iload 10, 2) := by decide +kernel
theorem dX0_meant_202 : decode cX0_meant 202 = .ok (.ifCond .ne 35, 3) := by decide +kernel
theorem dX0_meant_205 : decode cX0_meant 205 = .ok (.aload_n 0, 1) := by decide +kernel
theorem dX0_meant_206 : decode cX0_meant 206 = .ok (.getfield 35, 3) := by decide +kernel
theorem dX0_meant_209 : decode cX0_meant 209 = .ok (.aload 12, 2) := by decide +kernel
theorem dX0_meant_211 : decode cX0_meant 211 = .ok (.aload_n 0, 1) := by decide +kernel
theorem dX0_meant_212 : decode cX0_meant 212 = .ok (.getfield 24, 3) := by decide +kernel
theorem dX0_meant_215 : decode cX0_meant 215 = .ok (.iload 8, 2) := by decide +kernel
theorem dX0_meant_217 : decode cX0_meant 217 = .ok (.iaload, 1) := by decide +kernel
theorem dX0_meant_218 : decode cX0_meant 218 = .ok (.iload_n 1, 1) := by decide +kernel
theorem dX0_meant_219 : decode cX0_meant 219 = .ok (.aload_n 0, 1) := by decide +kernel
theorem dX0_meant_220 : decode cX0_meant 220 = .ok (.getfield 72, 3) := by decide +kernel
theorem dX0_meant_223 : decode cX0_meant 223 = .ok (.invokevirtual 182, 3) := by decide +kernel
theorem dX0_meant_226 : decode cX0_meant 226 = .ok (.ifCond .eq 11, 3) := by decide +kernel
theorem dX0_meant_229 : decode cX0_meant 229 = .ok (.aload_n 0, 1) := by decide +kernel
theorem dX0_meant_230 : decode cX0_meant 230 = .ok (.aload 12, 2) := by decide +kernel
theorem dX0_meant_232 : decode cX0_meant 232 = .ok (.aload 4, 2) := by decide +kernel
theorem dX0_meant_234 : decode cX0_meant 234 = .ok (.invokevirtual 356, 3) := by decide +kernel
theorem dX0_meant_237 : decode cX0_meant 237 = .ok (.iinc 11 1, 3) := by decide +kernel
theorem dX0_meant_240 : decode cX0_meant 240 = .ok (.goto (-139), 3) := by decide +kernel
theorem dX0_meant_243 : decode cX0_meant 243 = .ok (.iinc 8 1, 3) := by decide +kernel
theorem dX0_meant_246 : decode cX0_meant 246 = .ok (.goto (-198), 3) := by decide +kernel
theorem dX0_meant_249 : decode cX0_meant 249 = .ok (.iconst 0, 1) := by decide +kernel
theorem dX0_meant_250 : decode cX0_meant 250 = .ok (.istore 8, 2) := by decide +kernel
theorem dX0_meant_252 : decode cX0_meant 252 = .ok (.iload 8, 2) := by decide +kernel
theorem dX0_meant_254 : decode cX0_meant 254 = .ok (.aload_n 0, 1) := by decide +kernel
theorem dX0_meant_255 : decode cX0_meant 255 = .ok (.getfield 350, 3) := by decide +kernel
theorem dX0_meant_258 : decode cX0_meant 258 = .ok (.if_icmp .ge 104, 3) := by decide +kernel
theorem dX0_meant_261 : decode cX0_meant 261 = .ok (.iconst 1, 1) := by decide +kernel
theorem dX0_meant_262 : decode cX0_meant 262 = .ok (.istore 9, 2) := by decide +kernel
theorem dX0_meant_264 : decode cX0_meant 264 = .ok (.iconst 0, 1) := by decide +kernel
theorem dX0_meant_265 : decode cX0_meant 265 = .ok (.istore 10, 2) := by decide +kernel
theorem dX0_meant_267 : decode cX0_meant 267 = .ok (.iload 10, 2) := by decide +kernel
theorem dX0_meant_269 : decode cX0_meant 269 = .ok (.aload_n 0, 1) := by decide +kernel
theorem dX0_meant_270 : decode cX0_meant 270 = .ok (.getfield 350, 3) := by decide +kernel
theorem dX0_meant_273 : decode cX0_meant 273 = .ok (.if_icmp .ge 70, 3) := by decide +kernel
theorem dX0_meant_276 : decode cX0_meant 276 = .ok (.iload 9, 2) := by decide +kernel
theorem dX0_meant_278 : decode cX0_meant 278 = .ok (.ifCond .eq 65, 3) := by decide +kernel
theorem dX0_meant_281 : decode cX0_meant 281 = .ok (.iconst 0, 1) := by decide +kernel
theorem dX0_meant_282 : decode cX0_meant 282 = .ok (.istore 11, 2) := by decide +kernel
theorem dX0_meant_284 : decode cX0_meant 284 = .ok (.iload 11, 2) := by decide +kernel
theorem dX0_meant_286 : decode cX0_meant 286 = .ok (.iload 6, 2) := by decide +kernel
theorem dX0_meant_288 : decode cX0_meant 288 = .ok (.if_icmp .ge 49, 3) := by decide +kernel
theorem dX0_meant_291 : decode cX0_meant 291 = .ok (.iload 9, 2) := by decide +kernel
theorem dX0_meant_293 : decode cX0_meant 293 = .ok (.ifCond .eq 44, 3) := by decide +kernel
theorem dX0_meant_296 : decode cX0_meant 296 = .ok (.aload_n 0, 1) := by decide +kernel
theorem dX0_meant_297 : decode cX0_meant 297 = .ok (.getfield 35, 3) := by decide +kernel
theorem dX0_meant_300 : decode cX0_meant 300 = .ok (.aload_n 0, 1) := by decide +kernel
theorem dX0_meant_301 : decode cX0_meant 301 = .ok (.getfield 20, 3) := by decide +kernel
theorem dX0_meant_304 : decode cX0_meant 304 = .ok (.iload 8, 2) := by decide +kernel
theorem dX0_meant_306 : decode cX0_meant 306 = .ok (.aaload, 1) := by decide +kernel
theorem dX0_meant_307 : decode cX0_meant 307 = .ok (.getfield 216, 3) := by decide +kernel
theorem dX0_meant_310 : decode cX0_meant 310 = .ok (.iload 11, 2) := by decide +kernel
theorem dX0_meant_312 : decode cX0_meant 312 = .ok (.laload, 1) := by decide +kernel
theorem dX0_meant_313 : decode cX0_meant 313 = .ok (.aload_n 0, 1) := by decide +kernel
theorem dX0_meant_314 : decode cX0_meant 314 = .ok (.getfield 20, 3) := by decide +kernel
theorem dX0_meant_317 : decode cX0_meant 317 = .ok (.iload 10, 2) := by decide +kernel
theorem dX0_meant_319 : decode cX0_meant 319 = .ok (.aaload, 1) := by decide +kernel
theorem dX0_meant_320 : decode cX0_meant 320 = .ok (.getfield 216, 3) := by decide +kernel
theorem dX0_meant_323 : decode cX0_meant 323 = .ok (.iload 11, 2) := by decide +kernel
theorem dX0_meant_325 : decode cX0_meant 325 = .ok (.laload, 1) := by decide +kernel
theorem dX0_meant_326 : decode cX0_meant 326 = .ok (.invokevirtual 246, 3) := by decide +kernel
theorem dX0_meant_329 : decode cX0_meant 329 = .ok (.istore 9, 2) := by decide +kernel
theorem dX0_meant_331 : decode cX0_meant 331 = .ok (.iinc 11 1, 3) := by decide +kernel
theorem dX0_meant_334 : decode cX0_meant 334 = .ok (.goto (-50), 3) := by decide +kernel
theorem dX0_meant_337 : decode cX0_meant 337 = .ok (.iinc 10 1, 3) := by decide +kernel
theorem dX0_meant_340 : decode cX0_meant 340 = .ok (.goto (-73), 3) := by decide +kernel
theorem dX0_meant_343 : decode cX0_meant 343 = .ok (.iload 9, 2) := by decide +kernel
theorem dX0_meant_345 : decode cX0_meant 345 = .ok (.ifCond .eq 11, 3) := by decide +kernel
theorem dX0_meant_348 : decode cX0_meant 348 = .ok (.aload_n 0, 1) := by decide +kernel
theorem dX0_meant_349 : decode cX0_meant 349 = .ok (.getfield 20, 3) := by decide +kernel
theorem dX0_meant_352 : decode cX0_meant 352 = .ok (.iload 8, 2) := by decide +kernel
theorem dX0_meant_354 : decode cX0_meant 354 = .ok (.aaload, 1) := by decide +kernel
theorem dX0_meant_355 : decode cX0_meant 355 = .ok (.areturn, 1) := by decide +kernel
theorem dX0_meant_356 : decode cX0_meant 356 = .ok (.iinc 8 1, 3) := by decide +kernel
theorem dX0_meant_359 : decode cX0_meant 359 = .ok (.goto (-107), 3) := by decide +kernel
theorem dX0_meant_362 : decode cX0_meant 362 = .ok (.aconst_null, 1) := by decide +kernel
theorem dX0_meant_363 : decode cX0_meant 363 = .ok (.areturn, 1) := by decide +kernel
theorem dX0_whereLooked_0 : decode cX0_whereLooked 0 = .ok (.aload_n 0, 1) := by decide +kernel
theorem dX0_whereLooked_1 : decode cX0_whereLooked 1 = .ok (.getfield 24, 3) := by decide +kernel
theorem dX0_whereLooked_4 : decode cX0_whereLooked 4 = .ok (.iconst 0, 1) := by decide +kernel
theorem dX0_whereLooked_5 : decode cX0_whereLooked 5 = .ok (.iload_n 1, 1) := by decide +kernel
theorem dX0_whereLooked_6 : decode cX0_whereLooked 6 = .ok (.iastore, 1) := by decide +kernel
theorem dX0_whereLooked_7 : decode cX0_whereLooked 7 = .ok (.iconst 1, 1) := by decide +kernel
theorem dX0_whereLooked_8 : decode cX0_whereLooked 8 = .ok (.istore_n 3, 1) := by decide +kernel
theorem dX0_whereLooked_9 : decode cX0_whereLooked 9 = .ok (.aload_n 0, 1) := by decide +kernel
theorem dX0_whereLooked_10 : decode cX0_whereLooked 10 = .ok (.getfield 35, 3) := by decide +kernel
theorem dX0_whereLooked_13 : decode cX0_whereLooked 13 = .ok (.getfield 101, 3) := by decide +kernel
theorem dX0_whereLooked_16 : decode cX0_whereLooked 16 = .ok (.iload_n 1, 1) := by decide +kernel
theorem dX0_whereLooked_17 : decode cX0_whereLooked 17 = .ok (.iaload, 1) := by decide +kernel
theorem dX0_whereLooked_18 : decode cX0_whereLooked 18 = .ok (.istore 4, 2) := by decide +kernel
theorem dX0_whereLooked_20 : decode cX0_whereLooked 20 = .ok (.iconst 0, 1) := by decide +kernel
theorem dX0_whereLooked_21 : decode cX0_whereLooked 21 = .ok (.istore 5, 2) := by decide +kernel
theorem dX0_whereLooked_23 : decode cX0_whereLooked 23 = .ok (.iload 5, 2) := by decide +kernel
theorem dX0_whereLooked_25 : decode cX0_whereLooked 25 = .ok (.aload_n 0, 1) := by decide +kernel
theorem dX0_whereLooked_26 : decode cX0_whereLooked 26 = .ok (.getfield 35, 3) := by decide +kernel
theorem dX0_whereLooked_29 : decode cX0_whereLooked 29 = .ok (.getfield 360, 3) := by decide +kernel
theorem dX0_whereLooked_32 : decode cX0_whereLooked 32 = .ok (.iload_n 1, 1) := by decide +kernel
theorem dX0_whereLooked_33 : decode cX0_whereLooked 33 = .ok (.iaload, 1) := by decide +kernel
theorem dX0_whereLooked_34 : decode cX0_whereLooked 34 = .ok (.if_icmp .ge 41, 3) := by decide +kernel
theorem dX0_whereLooked_37 : decode cX0_whereLooked 37 = .ok (.iload 4, 2) := by decide +kernel
theorem dX0_whereLooked_39 : decode cX0_whereLooked 39 = .ok (.ifCond .lt 36, 3) := by decide +kernel
theorem dX0_whereLooked_42 : decode cX0_whereLooked 42 = .ok (.iload_n 2, 1) := by decide +kernel
theorem dX0_whereLooked_43 : decode cX0_whereLooked 43 = .ok (.ifCond .ne 32, 3) := by decide +kernel
theorem dX0_whereLooked_46 : decode cX0_whereLooked 46 = .ok (.aload_n 0, 1) := by decide +kernel
theorem dX0_whereLooked_47 : decode cX0_whereLooked 47 = .ok (.getfield 24, 3) := by decide +kernel
theorem dX0_whereLooked_50 : decode cX0_whereLooked 50 = .ok (.iload_n 3, 1) := by decide +kernel
theorem dX0_whereLooked_51 : decode cX0_whereLooked 51 = .ok (.iload 4, 2) := by decide +kernel
theorem dX0_whereLooked_53 : decode cX0_whereLooked 53 = .ok (.iastore, 1) := by decide +kernel
theorem dX0_whereLooked_54 : decode cX0_whereLooked 54 = .ok (.iinc 3 1, 3) := by decide +kernel
theorem dX0_whereLooked_57 : decode cX0_whereLooked 57 = .ok (.aload_n 0, 1) := by decide +kernel
theorem dX0_whereLooked_58 : decode cX0_whereLooked 58 = .ok (.getfield 35, 3) := by decide +kernel
theorem dX0_whereLooked_61 : decode cX0_whereLooked 61 = .ok (.getfield 101, 3) := by decide +kernel
theorem dX0_whereLooked_64 : decode cX0_whereLooked 64 = .ok (.iload 4, 2) := by decide +kernel
theorem dX0_whereLooked_66 : decode cX0_whereLooked 66 = .ok (.iaload, 1) := by decide +kernel
theorem dX0_whereLooked_67 : decode cX0_whereLooked 67 = .ok (.istore 4, 2) := by decide +kernel
theorem dX0_whereLooked_69 : decode cX0_whereLooked 69 = .ok (.iinc 5 1, 3) := by decide +kernel
theorem dX0_whereLooked_72 : decode cX0_whereLooked 72 = .ok (.goto (-49), 3) := by decide +kernel
theorem dX0_whereLooked_75 : decode cX0_whereLooked 75 = .ok (.iload_n 2, 1) := by decide +kernel
theorem dX0_whereLooked_76 : decode cX0_whereLooked 76 = .ok (.ifCond .eq 7, 3) := by decide +kernel
theorem dX0_whereLooked_79 : decode cX0_whereLooked 79 = .ok (.iconst 0, 1) := by decide +kernel
theorem dX0_whereLooked_80 : decode cX0_whereLooked 80 = .ok (.goto 11, 3) := by decide +kernel
theorem dX0_whereLooked_83 : decode cX0_whereLooked 83 = .ok (.aload_n 0, 1) := by decide +kernel
theorem dX0_whereLooked_84 : decode cX0_whereLooked 84 = .ok (.getfield 35, 3) := by decide +kernel
theorem dX0_whereLooked_87 : decode cX0_whereLooked 87 = .ok (.iload_n 1, 1) := by decide +kernel
theorem dX0_whereLooked_88 : decode cX0_whereLooked 88 = .ok (.invokevirtual 362, 3) := by decide +kernel
theorem dX0_whereLooked_91 : decode cX0_whereLooked 91 = .ok (.istore 5, 2) := by decide +kernel
theorem dX0_whereLooked_93 : decode cX0_whereLooked 93 = .ok (.iconst 0, 1) := by decide +kernel
theorem dX0_whereLooked_94 : decode cX0_whereLooked 94 = .ok (.istore 6, 2) := by decide +kernel
theorem dX0_whereLooked_96 : decode cX0_whereLooked 96 = .ok (.iload 6, 2) := by decide +kernel
theorem dX0_whereLooked_98 : decode cX0_whereLooked 98 = .ok (.iload 5, 2) := by decide +kernel
theorem dX0_whereLooked_100 : decode cX0_whereLooked 100 = .ok (.if_icmp .ge 33, 3) := by decide +kernel
theorem dX0_whereLooked_103 : decode cX0_whereLooked 103 = .ok (.aload_n 0, 1) := by decide +kernel
theorem dX0_whereLooked_104 : decode cX0_whereLooked 104 = .ok (.getfield 24, 3) := by decide +kernel
theorem dX0_whereLooked_107 : decode cX0_whereLooked 107 = .ok (.iload_n 3, 1) := by decide +kernel

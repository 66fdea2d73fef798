theorem dX0_init_0 : decode cX0_init 0 = .ok (.aload_n 0, 1) := by decide +kernel
theorem dX0_init_1 : decode cX0_init 1 = .ok (.invokespecial 3, 3) := by decide +kernel
theorem dX0_init_4 : decode cX0_init 4 = .ok (.aload_n 0, 1) := by decide +kernel
theorem dX0_init_5 : decode cX0_init 5 = .ok (.sipush 700, 3) := by decide +kernel
theorem dX0_init_8 : decode cX0_init 8 = .ok (.newarray .long, 2) := by decide +kernel
theorem dX0_init_10 : decode cX0_init 10 = .ok (.putfield 9, 3) := by decide +kernel
theorem dX0_init_13 : decode cX0_init 13 = .ok (.aload_n 0, 1) := by decide +kernel
theorem dX0_init_14 : decode cX0_init 14 = .ok (.sipush 700, 3) := by decide +kernel
theorem dX0_init_17 : decode cX0_init 17 = .ok (.newarray .long, 2) := by decide +kernel
theorem dX0_init_19 : decode cX0_init 19 = .ok (.putfield 15, 3) := by decide +kernel
theorem dX0_init_22 : decode cX0_init 22 = .ok (.aload_n 0, 1) := by decide +kernel
theorem dX0_init_23 : decode cX0_init 23 = .ok (.sipush 1280, 3) := by decide +kernel
theorem dX0_init_26 : decode cX0_init 26 = .ok (.anewarray 18, 3) := by decide +kernel
theorem dX0_init_29 : decode cX0_init 29 = .ok (.putfield 20, 3) := by decide +kernel
theorem dX0_init_32 : decode cX0_init 32 = .ok (.aload_n 0, 1) := by decide +kernel
theorem dX0_init_33 : decode cX0_init 33 = .ok (.sipush 130, 3) := by decide +kernel
theorem dX0_init_36 : decode cX0_init 36 = .ok (.newarray .int, 2) := by decide +kernel
theorem dX0_init_38 : decode cX0_init 38 = .ok (.putfield 24, 3) := by decide +kernel
theorem dX0_init_41 : decode cX0_init 41 = .ok (.return_, 1) := by decide +kernel
theorem dX0_fail_0 : decode cX0_fail 0 = .ok (.aload_n 0, 1) := by decide +kernel
theorem dX0_fail_1 : decode cX0_fail 1 = .ok (.getfield 28, 3) := by decide +kernel
theorem dX0_fail_4 : decode cX0_fail 4 = .ok (.ifCond .ne 13, 3) := by decide +kernel
theorem dX0_fail_7 : decode cX0_fail 7 = .ok (.aload_n 0, 1) := by decide +kernel
theorem dX0_fail_8 : decode cX0_fail 8 = .ok (.iload_n 1, 1) := by decide +kernel
theorem dX0_fail_9 : decode cX0_fail 9 = .ok (.putfield 28, 3) := by decide +kernel
theorem dX0_fail_12 : decode cX0_fail 12 = .ok (.aload_n 0, 1) := by decide +kernel
theorem dX0_fail_13 : decode cX0_fail 13 = .ok (.iload_n 2, 1) := by decide +kernel
theorem dX0_fail_14 : decode cX0_fail 14 = .ok (.putfield 32, 3) := by decide +kernel
theorem dX0_fail_17 : decode cX0_fail 17 = .ok (.iconst 0, 1) := by decide +kernel
theorem dX0_fail_18 : decode cX0_fail 18 = .ok (.ireturn, 1) := by decide +kernel
theorem dX0_judge_0 : decode cX0_judge 0 = .ok (.aload_n 0, 1) := by decide +kernel
theorem dX0_judge_1 : decode cX0_judge 1 = .ok (.aload_n 1, 1) := by decide +kernel
theorem dX0_judge_2 : decode cX0_judge 2 = .ok (.putfield 35, 3) := by decide +kernel
theorem dX0_judge_5 : decode cX0_judge 5 = .ok (.aload_n 0, 1) := by decide +kernel
theorem dX0_judge_6 : decode cX0_judge 6 = .ok (.aload_n 2, 1) := by decide +kernel
theorem dX0_judge_7 : decode cX0_judge 7 = .ok (.putfield 39, 3) := by decide +kernel
theorem dX0_judge_10 : decode cX0_judge 10 = .ok (.aload_n 0, 1) := by decide +kernel
theorem dX0_judge_11 : decode cX0_judge 11 = .ok (.aload_n 3, 1) := by decide +kernel
theorem dX0_judge_12 : decode cX0_judge 12 = .ok (.putfield 43, 3) := by decide +kernel
theorem dX0_judge_15 : decode cX0_judge 15 = .ok (.aload_n 0, 1) := by decide +kernel
theorem dX0_judge_16 : decode cX0_judge 16 = .ok (.iconst 0, 1) := by decide +kernel
theorem dX0_judge_17 : decode cX0_judge 17 = .ok (.putfield 28, 3) := by decide +kernel
theorem dX0_judge_20 : decode cX0_judge 20 = .ok (.iconst 0, 1) := by decide +kernel
theorem dX0_judge_21 : decode cX0_judge 21 = .ok (.istore 4, 2) := by decide +kernel
theorem dX0_judge_23 : decode cX0_judge 23 = .ok (.iload 4, 2) := by decide +kernel
theorem dX0_judge_25 : decode cX0_judge 25 = .ok (.aload_n 0, 1) := by decide +kernel
theorem dX0_judge_26 : decode cX0_judge 26 = .ok (.getfield 39, 3) := by decide +kernel
theorem dX0_judge_29 : decode cX0_judge 29 = .ok (.getfield 47, 3) := by decide +kernel
theorem dX0_judge_32 : decode cX0_judge 32 = .ok (.if_icmp .ge 45, 3) := by decide +kernel
theorem dX0_judge_35 : decode cX0_judge 35 = .ok (.aload_n 0, 1) := by decide +kernel
theorem dX0_judge_36 : decode cX0_judge 36 = .ok (.aload_n 0, 1) := by decide +kernel
theorem dX0_judge_37 : decode cX0_judge 37 = .ok (.getfield 39, 3) := by decide +kernel
theorem dX0_judge_40 : decode cX0_judge 40 = .ok (.getfield 52, 3) := by decide +kernel
theorem dX0_judge_43 : decode cX0_judge 43 = .ok (.iload 4, 2) := by decide +kernel
theorem dX0_judge_45 : decode cX0_judge 45 = .ok (.aaload, 1) := by decide +kernel
theorem dX0_judge_46 : decode cX0_judge 46 = .ok (.putfield 56, 3) := by decide +kernel
theorem dX0_judge_49 : decode cX0_judge 49 = .ok (.aload_n 0, 1) := by decide +kernel
theorem dX0_judge_50 : decode cX0_judge 50 = .ok (.aload_n 0, 1) := by decide +kernel
theorem dX0_judge_51 : decode cX0_judge 51 = .ok (.getfield 35, 3) := by decide +kernel
theorem dX0_judge_54 : decode cX0_judge 54 = .ok (.aload_n 0, 1) := by decide +kernel
theorem dX0_judge_55 : decode cX0_judge 55 = .ok (.getfield 56, 3) := by decide +kernel
theorem dX0_judge_58 : decode cX0_judge 58 = .ok (.getfield 60, 3) := by decide +kernel
theorem dX0_judge_61 : decode cX0_judge 61 = .ok (.invokevirtual 66, 3) := by decide +kernel
theorem dX0_judge_64 : decode cX0_judge 64 = .ok (.putfield 72, 3) := by decide +kernel
theorem dX0_judge_67 : decode cX0_judge 67 = .ok (.aload_n 0, 1) := by decide +kernel
theorem dX0_judge_68 : decode cX0_judge 68 = .ok (.invokevirtual 75, 3) := by decide +kernel
theorem dX0_judge_71 : decode cX0_judge 71 = .ok (.iinc 4 1, 3) := by decide +kernel
theorem dX0_judge_74 : decode cX0_judge 74 = .ok (.goto (-51), 3) := by decide +kernel
theorem dX0_judge_77 : decode cX0_judge 77 = .ok (.iconst 0, 1) := by decide +kernel
theorem dX0_judge_78 : decode cX0_judge 78 = .ok (.istore 4, 2) := by decide +kernel
theorem dX0_judge_80 : decode cX0_judge 80 = .ok (.iload 4, 2) := by decide +kernel
theorem dX0_judge_82 : decode cX0_judge 82 = .ok (.aload_n 0, 1) := by decide +kernel
theorem dX0_judge_83 : decode cX0_judge 83 = .ok (.getfield 39, 3) := by decide +kernel
theorem dX0_judge_86 : decode cX0_judge 86 = .ok (.getfield 47, 3) := by decide +kernel
theorem dX0_judge_89 : decode cX0_judge 89 = .ok (.if_icmp .ge 185, 3) := by decide +kernel
theorem dX0_judge_92 : decode cX0_judge 92 = .ok (.aload_n 0, 1) := by decide +kernel
theorem dX0_judge_93 : decode cX0_judge 93 = .ok (.getfield 28, 3) := by decide +kernel
theorem dX0_judge_96 : decode cX0_judge 96 = .ok (.ifCond .ne 178, 3) := by decide +kernel
theorem dX0_judge_99 : decode cX0_judge 99 = .ok (.aload_n 0, 1) := by decide +kernel
theorem dX0_judge_100 : decode cX0_judge 100 = .ok (.aload_n 0, 1) := by decide +kernel
theorem dX0_judge_101 : decode cX0_judge 101 = .ok (.getfield 39, 3) := by decide +kernel
theorem dX0_judge_104 : decode cX0_judge 104 = .ok (.getfield 52, 3) := by decide +kernel
theorem dX0_judge_107 : decode cX0_judge 107 = .ok (.iload 4, 2) := by decide +kernel
theorem dX0_judge_109 : decode cX0_judge 109 = .ok (.aaload, 1) := by decide +kernel
theorem dX0_judge_110 : decode cX0_judge 110 = .ok (.putfield 56, 3) := by decide +kernel
theorem dX0_judge_113 : decode cX0_judge 113 = .ok (.aload_n 0, 1) := by decide +kernel
theorem dX0_judge_114 : decode cX0_judge 114 = .ok (.aload_n 0, 1) := by decide +kernel
theorem dX0_judge_115 : decode cX0_judge 115 = .ok (.getfield 35, 3) := by decide +kernel
theorem dX0_judge_118 : decode cX0_judge 118 = .ok (.aload_n 0, 1) := by decide +kernel
theorem dX0_judge_119 : decode cX0_judge 119 = .ok (.getfield 56, 3) := by decide +kernel
theorem dX0_judge_122 : decode cX0_judge 122 = .ok (.getfield 60, 3) := by decide +kernel
theorem dX0_judge_125 : decode cX0_judge 125 = .ok (.invokevirtual 66, 3) := by decide +kernel
theorem dX0_judge_128 : decode cX0_judge 128 = .ok (.putfield 72, 3) := by decide +kernel
theorem dX0_judge_131 : decode cX0_judge 131 = .ok (.iconst 0, 1) := by decide +kernel
theorem dX0_judge_132 : decode cX0_judge 132 = .ok (.istore 5, 2) := by decide +kernel
theorem dX0_judge_134 : decode cX0_judge 134 = .ok (.iload 5, 2) := by decide +kernel
theorem dX0_judge_136 : decode cX0_judge 136 = .ok (.aload_n 0, 1) := by decide +kernel
theorem dX0_judge_137 : decode cX0_judge 137 = .ok (.getfield 56, 3) := by decide +kernel
theorem dX0_judge_140 : decode cX0_judge 140 = .ok (.getfield 78, 3) := by decide +kernel
theorem dX0_judge_143 : decode cX0_judge 143 = .ok (.if_icmp .ge 30, 3) := by decide +kernel
theorem dX0_judge_146 : decode cX0_judge 146 = .ok (.aload_n 0, 1) := by decide +kernel
theorem dX0_judge_147 : decode cX0_judge 147 = .ok (.getfield 28, 3) := by decide +kernel
theorem dX0_judge_150 : decode cX0_judge 150 = .ok (.ifCond .ne 23, 3) := by decide +kernel
theorem dX0_judge_153 : decode cX0_judge 153 = .ok (.aload_n 0, 1) := by decide +kernel
theorem dX0_judge_154 : decode cX0_judge 154 = .ok (.aload_n 0, 1) := by decide +kernel
theorem dX0_judge_155 : decode cX0_judge 155 = .ok (.getfield 56, 3) := by decide +kernel
theorem dX0_judge_158 : decode cX0_judge 158 = .ok (.getfield 81, 3) := by decide +kernel
theorem dX0_judge_161 : decode cX0_judge 161 = .ok (.iload 5, 2) := by decide +kernel
theorem dX0_judge_163 : decode cX0_judge 163 = .ok (.aaload, 1) := by decide +kernel
theorem dX0_judge_164 : decode cX0_judge 164 = .ok (.invokevirtual 84, 3) := by decide +kernel
theorem dX0_judge_167 : decode cX0_judge 167 = .ok (.iinc 5 1, 3) := by decide +kernel
theorem dX0_judge_170 : decode cX0_judge 170 = .ok (.goto (-36), 3) := by decide +kernel
theorem dX0_judge_173 : decode cX0_judge 173 = .ok (.iconst 0, 1) := by decide +kernel
theorem dX0_judge_174 : decode cX0_judge 174 = .ok (.istore 5, 2) := by decide +kernel
theorem dX0_judge_176 : decode cX0_judge 176 = .ok (.iload 5, 2) := by decide +kernel
theorem dX0_judge_178 : decode cX0_judge 178 = .ok (.aload_n 0, 1) := by decide +kernel
theorem dX0_judge_179 : decode cX0_judge 179 = .ok (.getfield 56, 3) := by decide +kernel
theorem dX0_judge_182 : decode cX0_judge 182 = .ok (.getfield 88, 3) := by decide +kernel
theorem dX0_judge_185 : decode cX0_judge 185 = .ok (.if_icmp .ge 83, 3) := by decide +kernel
theorem dX0_judge_188 : decode cX0_judge 188 = .ok (.aload_n 0, 1) := by decide +kernel
theorem dX0_judge_189 : decode cX0_judge 189 = .ok (.getfield 28, 3) := by decide +kernel
theorem dX0_judge_192 : decode cX0_judge 192 = .ok (.ifCond .ne 76, 3) := by decide +kernel
theorem dX0_judge_195 : decode cX0_judge 195 = .ok (.aload_n 0, 1) := by decide +kernel
theorem dX0_judge_196 : decode cX0_judge 196 = .ok (.getfield 56, 3) := by decide +kernel
theorem dX0_judge_199 : decode cX0_judge 199 = .ok (.getfield 91, 3) := by decide +kernel
theorem dX0_judge_202 : decode cX0_judge 202 = .ok (.iload 5, 2) := by decide +kernel
theorem dX0_judge_204 : decode cX0_judge 204 = .ok (.aaload, 1) := by decide +kernel
theorem dX0_judge_205 : decode cX0_judge 205 = .ok (.astore 6, 2) := by decide +kernel
theorem dX0_judge_207 : decode cX0_judge 207 = .ok (.aload 6, 2) := by decide +kernel
theorem dX0_judge_209 : decode cX0_judge 209 = .ok (.getfield 94, 3) := by decide +kernel
theorem dX0_judge_212 : decode cX0_judge 212 = .ok (.iconst 2, 1) := by decide +kernel
theorem dX0_judge_213 : decode cX0_judge 213 = .ok (.if_icmp .ne 49, 3) := by decide +kernel
theorem dX0_judge_216 : decode cX0_judge 216 = .ok (.aload 6, 2) := by decide +kernel
theorem dX0_judge_218 : decode cX0_judge 218 = .ok (.getfield 97, 3) := by decide +kernel
theorem dX0_judge_221 : decode cX0_judge 221 = .ok (.ifCond .ne 41, 3) := by decide +kernel
theorem dX0_judge_224 : decode cX0_judge 224 = .ok (.aload_n 0, 1) := by decide +kernel
theorem dX0_judge_225 : decode cX0_judge 225 = .ok (.aload_n 0, 1) := by decide +kernel
theorem dX0_judge_226 : decode cX0_judge 226 = .ok (.getfield 35, 3) := by decide +kernel
theorem dX0_judge_229 : decode cX0_judge 229 = .ok (.getfield 101, 3) := by decide +kernel
theorem dX0_judge_232 : decode cX0_judge 232 = .ok (.aload_n 0, 1) := by decide +kernel
theorem dX0_judge_233 : decode cX0_judge 233 = .ok (.getfield 72, 3) := by decide +kernel
theorem dX0_judge_236 : decode cX0_judge 236 = .ok (.iaload, 1) := by decide +kernel
theorem dX0_judge_237 : decode cX0_judge 237 = .ok (.ldc2_w 104, 3) := by decide +kernel
theorem dX0_judge_240 : decode cX0_judge 240 = .ok (.aconst_null, 1) := by decide +kernel
theorem dX0_judge_241 : decode cX0_judge 241 = .ok (.iconst 1, 1) := by decide +kernel
theorem dX0_judge_242 : decode cX0_judge 242 = .ok (.invokevirtual 106, 3) := by decide +kernel
theorem dX0_judge_245 : decode cX0_judge 245 = .ok (.ifnonnull 17, 3) := by decide +kernel
theorem dX0_judge_248 : decode cX0_judge 248 = .ok (.aload_n 0, 1) := by decide +kernel
theorem dX0_judge_249 : decode cX0_judge 249 = .ok (.bipush 18, 2) := by decide +kernel
theorem dX0_judge_251 : decode cX0_judge 251 = .ok (.aload_n 0, 1) := by decide +kernel
theorem dX0_judge_252 : decode cX0_judge 252 = .ok (.getfield 56, 3) := by decide +kernel
theorem dX0_judge_255 : decode cX0_judge 255 = .ok (.getfield 110, 3) := by decide +kernel
theorem dX0_judge_258 : decode cX0_judge 258 = .ok (.invokevirtual 113, 3) := by decide +kernel
theorem dX0_judge_261 : decode cX0_judge 261 = .ok (.pop, 1) := by decide +kernel
theorem dX0_judge_262 : decode cX0_judge 262 = .ok (.iinc 5 1, 3) := by decide +kernel
theorem dX0_judge_265 : decode cX0_judge 265 = .ok (.goto (-89), 3) := by decide +kernel
theorem dX0_judge_268 : decode cX0_judge 268 = .ok (.iinc 4 1, 3) := by decide +kernel
theorem dX0_judge_271 : decode cX0_judge 271 = .ok (.goto (-191), 3) := by decide +kernel
theorem dX0_judge_274 : decode cX0_judge 274 = .ok (.aload_n 0, 1) := by decide +kernel
theorem dX0_judge_275 : decode cX0_judge 275 = .ok (.getfield 28, 3) := by decide +kernel
theorem dX0_judge_278 : decode cX0_judge 278 = .ok (.ifCond .ne 7, 3) := by decide +kernel
theorem dX0_judge_281 : decode cX0_judge 281 = .ok (.iconst 1, 1) := by decide +kernel
theorem dX0_judge_282 : decode cX0_judge 282 = .ok (.goto 4, 3) := by decide +kernel
theorem dX0_judge_285 : decode cX0_judge 285 = .ok (.iconst 0, 1) := by decide +kernel
theorem dX0_judge_286 : decode cX0_judge 286 = .ok (.ireturn, 1) := by decide +kernel
theorem dX0_constants_0 : decode cX0_constants 0 = .ok (.iconst 0, 1) := by decide +kernel
theorem dX0_constants_1 : decode cX0_constants 1 = .ok (.istore_n 1, 1) := by decide +kernel
theorem dX0_constants_2 : decode cX0_constants 2 = .ok (.iload_n 1, 1) := by decide +kernel
theorem dX0_constants_3 : decode cX0_constants 3 = .ok (.aload_n 0, 1) := by decide +kernel
theorem dX0_constants_4 : decode cX0_constants 4 = .ok (.getfield 56, 3) := by decide +kernel
theorem dX0_constants_7 : decode cX0_constants 7 = .ok (.getfield 88, 3) := by decide +kernel
theorem dX0_constants_10 : decode cX0_constants 10 = .ok (.if_icmp .ge 82, 3) := by decide +kernel
theorem dX0_constants_13 : decode cX0_constants 13 = .ok (.aload_n 0, 1) := by decide +kernel
theorem dX0_constants_14 : decode cX0_constants 14 = .ok (.getfield 56, 3) := by decide +kernel
theorem dX0_constants_17 : decode cX0_constants 17 = .ok (.getfield 91, 3) := by decide +kernel
theorem dX0_constants_20 : decode cX0_constants 20 = .ok (.iload_n 1, 1) := by decide +kernel
theorem dX0_constants_21 : decode cX0_constants 21 = .ok (.aaload, 1) := by decide +kernel
theorem dX0_constants_22 : decode cX0_constants 22 = .ok (.astore_n 2, 1) := by decide +kernel
theorem dX0_constants_23 : decode cX0_constants 23 = .ok (.aload_n 2, 1) := by decide +kernel
theorem dX0_constants_24 : decode cX0_constants 24 = .ok (.getfield 94, 3) := by decide +kernel
theorem dX0_constants_27 : decode cX0_constants 27 = .ok (.ifCond .ne 59, 3) := by decide +kernel
theorem dX0_constants_30 : decode cX0_constants 30 = .ok (.aload_n 2, 1) := by decide +kernel
theorem dX0_constants_31 : decode cX0_constants 31 = .ok (.getfield 117, 3) := by decide +kernel
theorem dX0_constants_34 : decode cX0_constants 34 = .ok (.ifCond .eq 52, 3) := by decide +kernel
theorem dX0_constants_37 : decode cX0_constants 37 = .ok (.aload_n 2, 1) := by decide +kernel
theorem dX0_constants_38 : decode cX0_constants 38 = .ok (.getfield 120, 3) := by decide +kernel
theorem dX0_constants_41 : decode cX0_constants 41 = .ok (.ifCond .eq 45, 3) := by decide +kernel
theorem dX0_constants_44 : decode cX0_constants 44 = .ok (.aload_n 2, 1) := by decide +kernel
theorem dX0_constants_45 : decode cX0_constants 45 = .ok (.getfield 123, 3) := by decide +kernel
theorem dX0_constants_48 : decode cX0_constants 48 = .ok (.ldc2_w 126, 3) := by decide +kernel
theorem dX0_constants_51 : decode cX0_constants 51 = .ok (.lcmp, 1) := by decide +kernel
theorem dX0_constants_52 : decode cX0_constants 52 = .ok (.ifCond .ne 34, 3) := by decide +kernel
theorem dX0_constants_55 : decode cX0_constants 55 = .ok (.aload_n 2, 1) := by decide +kernel
theorem dX0_constants_56 : decode cX0_constants 56 = .ok (.getfield 128, 3) := by decide +kernel
theorem dX0_constants_59 : decode cX0_constants 59 = .ok (.ifnull 27, 3) := by decide +kernel
theorem dX0_constants_62 : decode cX0_constants 62 = .ok (.aload_n 0, 1) := by decide +kernel
theorem dX0_constants_63 : decode cX0_constants 63 = .ok (.aload_n 2, 1) := by decide +kernel
theorem dX0_constants_64 : decode cX0_constants 64 = .ok (.getfield 128, 3) := by decide +kernel
theorem dX0_constants_67 : decode cX0_constants 67 = .ok (.invokevirtual 131, 3) := by decide +kernel
theorem dX0_constants_70 : decode cX0_constants 70 = .ok (.ifCond .eq 16, 3) := by decide +kernel
theorem dX0_constants_73 : decode cX0_constants 73 = .ok (.aload_n 2, 1) := by decide +kernel
theorem dX0_constants_74 : decode cX0_constants 74 = .ok (.iconst 1, 1) := by decide +kernel
theorem dX0_constants_75 : decode cX0_constants 75 = .ok (.putfield 135, 3) := by decide +kernel
theorem dX0_constants_78 : decode cX0_constants 78 = .ok (.aload_n 2, 1) := by decide +kernel
theorem dX0_constants_79 : decode cX0_constants 79 = .ok (.aload_n 0, 1) := by decide +kernel
theorem dX0_constants_80 : decode cX0_constants 80 = .ok (.getfield 138, 3) := by decide +kernel
theorem dX0_constants_83 : decode cX0_constants 83 = .ok (.putfield 141, 3) := by decide +kernel
theorem dX0_constants_86 : decode cX0_constants 86 = .ok (.iinc 1 1, 3) := by decide +kernel
theorem dX0_constants_89 : decode cX0_constants 89 = .ok (.goto (-87), 3) := by decide +kernel
theorem dX0_constants_92 : decode cX0_constants 92 = .ok (.return_, 1) := by decide +kernel
theorem dX0_fold_0 : decode cX0_fold 0 = .ok (.aload_n 1, 1) := by decide +kernel
theorem dX0_fold_1 : decode cX0_fold 1 = .ok (.ifnonnull 5, 3) := by decide +kernel
theorem dX0_fold_4 : decode cX0_fold 4 = .ok (.iconst 0, 1) := by decide +kernel
theorem dX0_fold_5 : decode cX0_fold 5 = .ok (.ireturn, 1) := by decide +kernel
theorem dX0_fold_6 : decode cX0_fold 6 = .ok (.aload_n 1, 1) := by decide +kernel
theorem dX0_fold_7 : decode cX0_fold 7 = .ok (.getfield 144, 3) := by decide +kernel
theorem dX0_fold_10 : decode cX0_fold 10 = .ok (.tableswitch 196 1 18 #[86, 196, 196, 106, 196, 119, 196, 196, 196, 196, 196, 97, 196, 196, 196, 196, 190, 184], 86) := by decide +kernel
theorem dX0_fold_96 : decode cX0_fold 96 = .ok (.aload_n 0, 1) := by decide +kernel
theorem dX0_fold_97 : decode cX0_fold 97 = .ok (.aload_n 1, 1) := by decide +kernel
theorem dX0_fold_98 : decode cX0_fold 98 = .ok (.getfield 147, 3) := by decide +kernel
theorem dX0_fold_101 : decode cX0_fold 101 = .ok (.l2i, 1) := by decide +kernel
theorem dX0_fold_102 : decode cX0_fold 102 = .ok (.putfield 138, 3) := by decide +kernel
theorem dX0_fold_105 : decode cX0_fold 105 = .ok (.iconst 1, 1) := by decide +kernel
theorem dX0_fold_106 : decode cX0_fold 106 = .ok (.ireturn, 1) := by decide +kernel
theorem dX0_fold_107 : decode cX0_fold 107 = .ok (.aload_n 0, 1) := by decide +kernel
theorem dX0_fold_108 : decode cX0_fold 108 = .ok (.aload_n 1, 1) := by decide +kernel
theorem dX0_fold_109 : decode cX0_fold 109 = .ok (.getfield 150, 3) := by decide +kernel
theorem dX0_fold_112 : decode cX0_fold 112 = .ok (.invokevirtual 131, 3) := by decide +kernel
theorem dX0_fold_115 : decode cX0_fold 115 = .ok (.ireturn, 1) := by decide +kernel
theorem dX0_fold_116 : decode cX0_fold 116 = .ok (.aload_n 0, 1) := by decide +kernel
theorem dX0_fold_117 : decode cX0_fold 117 = .ok (.aload_n 0, 1) := by decide +kernel
theorem dX0_fold_118 : decode cX0_fold 118 = .ok (.getfield 72, 3) := by decide +kernel
theorem dX0_fold_121 : decode cX0_fold 121 = .ok (.aload_n 1, 1) := by decide +kernel
theorem dX0_fold_122 : decode cX0_fold 122 = .ok (.getfield 147, 3) := by decide +kernel
theorem dX0_fold_125 : decode cX0_fold 125 = .ok (.invokevirtual 153, 3) := by decide +kernel
theorem dX0_fold_128 : decode cX0_fold 128 = .ok (.ireturn, 1) := by decide +kernel
theorem dX0_fold_129 : decode cX0_fold 129 = .ok (.aload_n 0, 1) := by decide +kernel
theorem dX0_fold_130 : decode cX0_fold 130 = .ok (.getfield 35, 3) := by decide +kernel
theorem dX0_fold_133 : decode cX0_fold 133 = .ok (.aload_n 0, 1) := by decide +kernel
theorem dX0_fold_134 : decode cX0_fold 134 = .ok (.getfield 43, 3) := by decide +kernel
theorem dX0_fold_137 : decode cX0_fold 137 = .ok (.getfield 157, 3) := by decide +kernel
theorem dX0_fold_140 : decode cX0_fold 140 = .ok (.aload_n 1, 1) := by decide +kernel
theorem dX0_fold_141 : decode cX0_fold 141 = .ok (.getfield 162, 3) := by decide +kernel
theorem dX0_fold_144 : decode cX0_fold 144 = .ok (.laload, 1) := by decide +kernel
theorem dX0_fold_145 : decode cX0_fold 145 = .ok (.invokevirtual 66, 3) := by decide +kernel
theorem dX0_fold_148 : decode cX0_fold 148 = .ok (.istore_n 2, 1) := by decide +kernel
theorem dX0_fold_149 : decode cX0_fold 149 = .ok (.iload_n 2, 1) := by decide +kernel
theorem dX0_fold_150 : decode cX0_fold 150 = .ok (.ifCond .lt 42, 3) := by decide +kernel
theorem dX0_fold_153 : decode cX0_fold 153 = .ok (.aload_n 0, 1) := by decide +kernel
theorem dX0_fold_154 : decode cX0_fold 154 = .ok (.getfield 35, 3) := by decide +kernel
theorem dX0_fold_157 : decode cX0_fold 157 = .ok (.iload_n 2, 1) := by decide +kernel
theorem dX0_fold_158 : decode cX0_fold 158 = .ok (.aload_n 0, 1) := by decide +kernel
theorem dX0_fold_159 : decode cX0_fold 159 = .ok (.getfield 72, 3) := by decide +kernel
theorem dX0_fold_162 : decode cX0_fold 162 = .ok (.invokevirtual 165, 3) := by decide +kernel
theorem dX0_fold_165 : decode cX0_fold 165 = .ok (.ifCond .eq 27, 3) := by decide +kernel
theorem dX0_fold_168 : decode cX0_fold 168 = .ok (.aload_n 0, 1) := by decide +kernel
theorem dX0_fold_169 : decode cX0_fold 169 = .ok (.iload_n 2, 1) := by decide +kernel
theorem dX0_fold_170 : decode cX0_fold 170 = .ok (.aload_n 0, 1) := by decide +kernel
theorem dX0_fold_171 : decode cX0_fold 171 = .ok (.getfield 43, 3) := by decide +kernel
theorem dX0_fold_174 : decode cX0_fold 174 = .ok (.getfield 157, 3) := by decide +kernel
theorem dX0_fold_177 : decode cX0_fold 177 = .ok (.aload_n 1, 1) := by decide +kernel
theorem dX0_fold_178 : decode cX0_fold 178 = .ok (.getfield 168, 3) := by decide +kernel
theorem dX0_fold_181 : decode cX0_fold 181 = .ok (.laload, 1) := by decide +kernel
theorem dX0_fold_182 : decode cX0_fold 182 = .ok (.invokevirtual 153, 3) := by decide +kernel
theorem dX0_fold_185 : decode cX0_fold 185 = .ok (.ifCond .eq 7, 3) := by decide +kernel
theorem dX0_fold_188 : decode cX0_fold 188 = .ok (.iconst 1, 1) := by decide +kernel
theorem dX0_fold_189 : decode cX0_fold 189 = .ok (.goto 4, 3) := by decide +kernel
theorem dX0_fold_192 : decode cX0_fold 192 = .ok (.iconst 0, 1) := by decide +kernel
theorem dX0_fold_193 : decode cX0_fold 193 = .ok (.ireturn, 1) := by decide +kernel
theorem dX0_fold_194 : decode cX0_fold 194 = .ok (.aload_n 0, 1) := by decide +kernel
theorem dX0_fold_195 : decode cX0_fold 195 = .ok (.aload_n 1, 1) := by decide +kernel
theorem dX0_fold_196 : decode cX0_fold 196 = .ok (.invokevirtual 169, 3) := by decide +kernel
theorem dX0_fold_199 : decode cX0_fold 199 = .ok (.ireturn, 1) := by decide +kernel
theorem dX0_fold_200 : decode cX0_fold 200 = .ok (.aload_n 0, 1) := by decide +kernel
theorem dX0_fold_201 : decode cX0_fold 201 = .ok (.aload_n 1, 1) := by decide +kernel
theorem dX0_fold_202 : decode cX0_fold 202 = .ok (.invokevirtual 172, 3) := by decide +kernel
theorem dX0_fold_205 : decode cX0_fold 205 = .ok (.ireturn, 1) := by decide +kernel
theorem dX0_fold_206 : decode cX0_fold 206 = .ok (.iconst 0, 1) := by decide +kernel
theorem dX0_fold_207 : decode cX0_fold 207 = .ok (.ireturn, 1) := by decide +kernel
theorem dX0_foldField_0 : decode cX0_foldField 0 = .ok (.aload_n 0, 1) := by decide +kernel
theorem dX0_foldField_1 : decode cX0_foldField 1 = .ok (.getfield 35, 3) := by decide +kernel
theorem dX0_foldField_4 : decode cX0_foldField 4 = .ok (.iload_n 1, 1) := by decide +kernel
theorem dX0_foldField_5 : decode cX0_foldField 5 = .ok (.lload_n 2, 1) := by decide +kernel
theorem dX0_foldField_6 : decode cX0_foldField 6 = .ok (.ldc2_w 104, 3) := by decide +kernel
theorem dX0_foldField_9 : decode cX0_foldField 9 = .ok (.invokevirtual 175, 3) := by decide +kernel
theorem dX0_foldField_12 : decode cX0_foldField 12 = .ok (.astore 4, 2) := by decide +kernel
theorem dX0_foldField_14 : decode cX0_foldField 14 = .ok (.aload 4, 2) := by decide +kernel
theorem dX0_foldField_16 : decode cX0_foldField 16 = .ok (.ifnull 35, 3) := by decide +kernel
theorem dX0_foldField_19 : decode cX0_foldField 19 = .ok (.aload 4, 2) := by decide +kernel
theorem dX0_foldField_21 : decode cX0_foldField 21 = .ok (.getfield 135, 3) := by decide +kernel
theorem dX0_foldField_24 : decode cX0_foldField 24 = .ok (.ifCond .eq 27, 3) := by decide +kernel
theorem dX0_foldField_27 : decode cX0_foldField 27 = .ok (.aload_n 0, 1) := by decide +kernel
theorem dX0_foldField_28 : decode cX0_foldField 28 = .ok (.getfield 35, 3) := by decide +kernel
theorem dX0_foldField_31 : decode cX0_foldField 31 = .ok (.aload 4, 2) := by decide +kernel
theorem dX0_foldField_33 : decode cX0_foldField 33 = .ok (.aload_n 0, 1) := by decide +kernel
theorem dX0_foldField_34 : decode cX0_foldField 34 = .ok (.getfield 35, 3) := by decide +kernel
theorem dX0_foldField_37 : decode cX0_foldField 37 = .ok (.getfield 179, 3) := by decide +kernel
theorem dX0_foldField_40 : decode cX0_foldField 40 = .ok (.iload_n 1, 1) := by decide +kernel
theorem dX0_foldField_41 : decode cX0_foldField 41 = .ok (.aload_n 0, 1) := by decide +kernel
theorem dX0_foldField_42 : decode cX0_foldField 42 = .ok (.getfield 72, 3) := by decide +kernel
theorem dX0_foldField_45 : decode cX0_foldField 45 = .ok (.invokevirtual 182, 3) := by decide +kernel
theorem dX0_foldField_48 : decode cX0_foldField 48 = .ok (.ifCond .ne 5, 3) := by decide +kernel
theorem dX0_foldField_51 : decode cX0_foldField 51 = .ok (.iconst 0, 1) := by decide +kernel
theorem dX0_foldField_52 : decode cX0_foldField 52 = .ok (.ireturn, 1) := by decide +kernel
theorem dX0_foldField_53 : decode cX0_foldField 53 = .ok (.aload_n 0, 1) := by decide +kernel
theorem dX0_foldField_54 : decode cX0_foldField 54 = .ok (.aload 4, 2) := by decide +kernel
theorem dX0_foldField_56 : decode cX0_foldField 56 = .ok (.getfield 141, 3) := by decide +kernel
theorem dX0_foldField_59 : decode cX0_foldField 59 = .ok (.putfield 138, 3) := by decide +kernel
theorem dX0_foldField_62 : decode cX0_foldField 62 = .ok (.iconst 1, 1) := by decide +kernel
theorem dX0_foldField_63 : decode cX0_foldField 63 = .ok (.ireturn, 1) := by decide +kernel
theorem dX0_foldCompare_0 : decode cX0_foldCompare 0 = .ok (.aload_n 0, 1) := by decide +kernel
theorem dX0_foldCompare_1 : decode cX0_foldCompare 1 = .ok (.aload_n 1, 1) := by decide +kernel
theorem dX0_foldCompare_2 : decode cX0_foldCompare 2 = .ok (.getfield 150, 3) := by decide +kernel
theorem dX0_foldCompare_5 : decode cX0_foldCompare 5 = .ok (.invokevirtual 131, 3) := by decide +kernel
theorem dX0_foldCompare_8 : decode cX0_foldCompare 8 = .ok (.ifCond .ne 5, 3) := by decide +kernel
theorem dX0_foldCompare_11 : decode cX0_foldCompare 11 = .ok (.iconst 0, 1) := by decide +kernel
theorem dX0_foldCompare_12 : decode cX0_foldCompare 12 = .ok (.ireturn, 1) := by decide +kernel
theorem dX0_foldCompare_13 : decode cX0_foldCompare 13 = .ok (.aload_n 0, 1) := by decide +kernel
theorem dX0_foldCompare_14 : decode cX0_foldCompare 14 = .ok (.getfield 138, 3) := by decide +kernel
theorem dX0_foldCompare_17 : decode cX0_foldCompare 17 = .ok (.istore_n 2, 1) := by decide +kernel
theorem dX0_foldCompare_18 : decode cX0_foldCompare 18 = .ok (.aload_n 0, 1) := by decide +kernel
theorem dX0_foldCompare_19 : decode cX0_foldCompare 19 = .ok (.aload_n 1, 1) := by decide +kernel
theorem dX0_foldCompare_20 : decode cX0_foldCompare 20 = .ok (.getfield 185, 3) := by decide +kernel
theorem dX0_foldCompare_23 : decode cX0_foldCompare 23 = .ok (.invokevirtual 131, 3) := by decide +kernel
theorem dX0_foldCompare_26 : decode cX0_foldCompare 26 = .ok (.ifCond .ne 5, 3) := by decide +kernel
theorem dX0_foldCompare_29 : decode cX0_foldCompare 29 = .ok (.iconst 0, 1) := by decide +kernel
theorem dX0_foldCompare_30 : decode cX0_foldCompare 30 = .ok (.ireturn, 1) := by decide +kernel
theorem dX0_foldCompare_31 : decode cX0_foldCompare 31 = .ok (.aload_n 0, 1) := by decide +kernel
theorem dX0_foldCompare_32 : decode cX0_foldCompare 32 = .ok (.aload_n 1, 1) := by decide +kernel
theorem dX0_foldCompare_33 : decode cX0_foldCompare 33 = .ok (.getfield 188, 3) := by decide +kernel
theorem dX0_foldCompare_36 : decode cX0_foldCompare 36 = .ok (.sipush 160, 3) := by decide +kernel
theorem dX0_foldCompare_39 : decode cX0_foldCompare 39 = .ok (.if_icmp .ne 14, 3) := by decide +kernel
theorem dX0_foldCompare_42 : decode cX0_foldCompare 42 = .ok (.iload_n 2, 1) := by decide +kernel
theorem dX0_foldCompare_43 : decode cX0_foldCompare 43 = .ok (.aload_n 0, 1) := by decide +kernel
theorem dX0_foldCompare_44 : decode cX0_foldCompare 44 = .ok (.getfield 138, 3) := by decide +kernel
theorem dX0_foldCompare_47 : decode cX0_foldCompare 47 = .ok (.if_icmp .ge 18, 3) := by decide +kernel
theorem dX0_foldCompare_50 : decode cX0_foldCompare 50 = .ok (.goto 11, 3) := by decide +kernel
theorem dX0_foldCompare_53 : decode cX0_foldCompare 53 = .ok (.iload_n 2, 1) := by decide +kernel
theorem dX0_foldCompare_54 : decode cX0_foldCompare 54 = .ok (.aload_n 0, 1) := by decide +kernel
theorem dX0_foldCompare_55 : decode cX0_foldCompare 55 = .ok (.getfield 138, 3) := by decide +kernel
theorem dX0_foldCompare_58 : decode cX0_foldCompare 58 = .ok (.if_icmp .ne 7, 3) := by decide +kernel
theorem dX0_foldCompare_61 : decode cX0_foldCompare 61 = .ok (.iconst 1, 1) := by decide +kernel
theorem dX0_foldCompare_62 : decode cX0_foldCompare 62 = .ok (.goto 4, 3) := by decide +kernel
theorem dX0_foldCompare_65 : decode cX0_foldCompare 65 = .ok (.iconst 0, 1) := by decide +kernel
theorem dX0_foldCompare_66 : decode cX0_foldCompare 66 = .ok (.putfield 138, 3) := by decide +kernel
theorem dX0_foldCompare_69 : decode cX0_foldCompare 69 = .ok (.iconst 1, 1) := by decide +kernel
theorem dX0_foldCompare_70 : decode cX0_foldCompare 70 = .ok (.ireturn, 1) := by decide +kernel
theorem dX0_foldChain_0 : decode cX0_foldChain 0 = .ok (.aload_n 0, 1) := by decide +kernel
theorem dX0_foldChain_1 : decode cX0_foldChain 1 = .ok (.aload_n 1, 1) := by decide +kernel
theorem dX0_foldChain_2 : decode cX0_foldChain 2 = .ok (.getfield 150, 3) := by decide +kernel
theorem dX0_foldChain_5 : decode cX0_foldChain 5 = .ok (.invokevirtual 131, 3) := by decide +kernel
theorem dX0_foldChain_8 : decode cX0_foldChain 8 = .ok (.ifCond .ne 5, 3) := by decide +kernel
theorem dX0_foldChain_11 : decode cX0_foldChain 11 = .ok (.iconst 0, 1) := by decide +kernel
theorem dX0_foldChain_12 : decode cX0_foldChain 12 = .ok (.ireturn, 1) := by decide +kernel
theorem dX0_foldChain_13 : decode cX0_foldChain 13 = .ok (.aload_n 0, 1) := by decide +kernel
theorem dX0_foldChain_14 : decode cX0_foldChain 14 = .ok (.getfield 138, 3) := by decide +kernel
theorem dX0_foldChain_17 : decode cX0_foldChain 17 = .ok (.istore_n 2, 1) := by decide +kernel
theorem dX0_foldChain_18 : decode cX0_foldChain 18 = .ok (.aload_n 1, 1) := by decide +kernel
theorem dX0_foldChain_19 : decode cX0_foldChain 19 = .ok (.getfield 150, 3) := by decide +kernel
theorem dX0_foldChain_22 : decode cX0_foldChain 22 = .ok (.getfield 191, 3) := by decide +kernel
theorem dX0_foldChain_25 : decode cX0_foldChain 25 = .ok (.astore_n 3, 1) := by decide +kernel
theorem dX0_foldChain_26 : decode cX0_foldChain 26 = .ok (.aload_n 3, 1) := by decide +kernel
theorem dX0_foldChain_27 : decode cX0_foldChain 27 = .ok (.ifnull 66, 3) := by decide +kernel
theorem dX0_foldChain_30 : decode cX0_foldChain 30 = .ok (.aload_n 0, 1) := by decide +kernel
theorem dX0_foldChain_31 : decode cX0_foldChain 31 = .ok (.aload_n 3, 1) := by decide +kernel
theorem dX0_foldChain_32 : decode cX0_foldChain 32 = .ok (.invokevirtual 131, 3) := by decide +kernel
theorem dX0_foldChain_35 : decode cX0_foldChain 35 = .ok (.ifCond .ne 5, 3) := by decide +kernel
theorem dX0_foldChain_38 : decode cX0_foldChain 38 = .ok (.iconst 0, 1) := by decide +kernel
theorem dX0_foldChain_39 : decode cX0_foldChain 39 = .ok (.ireturn, 1) := by decide +kernel
theorem dX0_foldChain_40 : decode cX0_foldChain 40 = .ok (.aload_n 3, 1) := by decide +kernel
theorem dX0_foldChain_41 : decode cX0_foldChain 41 = .ok (.getfield 188, 3) := by decide +kernel
theorem dX0_foldChain_44 : decode cX0_foldChain 44 = .ok (.sipush 143, 3) := by decide +kernel
theorem dX0_foldChain_47 : decode cX0_foldChain 47 = .ok (.if_icmp .ne 12, 3) := by decide +kernel
theorem dX0_foldChain_50 : decode cX0_foldChain 50 = .ok (.iload_n 2, 1) := by decide +kernel
theorem dX0_foldChain_51 : decode cX0_foldChain 51 = .ok (.aload_n 0, 1) := by decide +kernel
theorem dX0_foldChain_52 : decode cX0_foldChain 52 = .ok (.getfield 138, 3) := by decide +kernel
theorem dX0_foldChain_55 : decode cX0_foldChain 55 = .ok (.iadd, 1) := by decide +kernel
theorem dX0_foldChain_56 : decode cX0_foldChain 56 = .ok (.goto 28, 3) := by decide +kernel
theorem dX0_foldChain_59 : decode cX0_foldChain 59 = .ok (.aload_n 3, 1) := by decide +kernel
theorem dX0_foldChain_60 : decode cX0_foldChain 60 = .ok (.getfield 188, 3) := by decide +kernel
theorem dX0_foldChain_63 : decode cX0_foldChain 63 = .ok (.sipush 145, 3) := by decide +kernel
theorem dX0_foldChain_66 : decode cX0_foldChain 66 = .ok (.if_icmp .ne 12, 3) := by decide +kernel
theorem dX0_foldChain_69 : decode cX0_foldChain 69 = .ok (.iload_n 2, 1) := by decide +kernel
theorem dX0_foldChain_70 : decode cX0_foldChain 70 = .ok (.aload_n 0, 1) := by decide +kernel
theorem dX0_foldChain_71 : decode cX0_foldChain 71 = .ok (.getfield 138, 3) := by decide +kernel
theorem dX0_foldChain_74 : decode cX0_foldChain 74 = .ok (.isub, 1) := by decide +kernel
theorem dX0_foldChain_75 : decode cX0_foldChain 75 = .ok (.goto 9, 3) := by decide +kernel
theorem dX0_foldChain_78 : decode cX0_foldChain 78 = .ok (.iload_n 2, 1) := by decide +kernel
theorem dX0_foldChain_79 : decode cX0_foldChain 79 = .ok (.aload_n 0, 1) := by decide +kernel
theorem dX0_foldChain_80 : decode cX0_foldChain 80 = .ok (.getfield 138, 3) := by decide +kernel
theorem dX0_foldChain_83 : decode cX0_foldChain 83 = .ok (.imul, 1) := by decide +kernel
theorem dX0_foldChain_84 : decode cX0_foldChain 84 = .ok (.istore_n 2, 1) := by decide +kernel
theorem dX0_foldChain_85 : decode cX0_foldChain 85 = .ok (.aload_n 3, 1) := by decide +kernel
theorem dX0_foldChain_86 : decode cX0_foldChain 86 = .ok (.getfield 191, 3) := by decide +kernel
theorem dX0_foldChain_89 : decode cX0_foldChain 89 = .ok (.astore_n 3, 1) := by decide +kernel
theorem dX0_foldChain_90 : decode cX0_foldChain 90 = .ok (.goto (-64), 3) := by decide +kernel
theorem dX0_foldChain_93 : decode cX0_foldChain 93 = .ok (.aload_n 0, 1) := by decide +kernel
theorem dX0_foldChain_94 : decode cX0_foldChain 94 = .ok (.iload_n 2, 1) := by decide +kernel
theorem dX0_foldChain_95 : decode cX0_foldChain 95 = .ok (.putfield 138, 3) := by decide +kernel
theorem dX0_foldChain_98 : decode cX0_foldChain 98 = .ok (.iconst 1, 1) := by decide +kernel
theorem dX0_foldChain_99 : decode cX0_foldChain 99 = .ok (.ireturn, 1) := by decide +kernel
theorem dX0_body_0 : decode cX0_body 0 = .ok (.aload_n 0, 1) := by decide +kernel
theorem dX0_body_1 : decode cX0_body 1 = .ok (.aload_n 1, 1) := by decide +kernel
theorem dX0_body_2 : decode cX0_body 2 = .ok (.putfield 194, 3) := by decide +kernel
theorem dX0_body_5 : decode cX0_body 5 = .ok (.aload_n 0, 1) := by decide +kernel
theorem dX0_body_6 : decode cX0_body 6 = .ok (.aload_n 1, 1) := by decide +kernel
theorem dX0_body_7 : decode cX0_body 7 = .ok (.getfield 117, 3) := by decide +kernel
theorem dX0_body_10 : decode cX0_body 10 = .ok (.ifCond .ne 11, 3) := by decide +kernel
theorem dX0_body_13 : decode cX0_body 13 = .ok (.aload_n 1, 1) := by decide +kernel
theorem dX0_body_14 : decode cX0_body 14 = .ok (.getfield 94, 3) := by decide +kernel
theorem dX0_body_17 : decode cX0_body 17 = .ok (.iconst 3, 1) := by decide +kernel
theorem dX0_body_18 : decode cX0_body 18 = .ok (.if_icmp .ne 7, 3) := by decide +kernel
theorem dX0_body_21 : decode cX0_body 21 = .ok (.iconst 1, 1) := by decide +kernel
theorem dX0_body_22 : decode cX0_body 22 = .ok (.goto 4, 3) := by decide +kernel
theorem dX0_body_25 : decode cX0_body 25 = .ok (.iconst 0, 1) := by decide +kernel
theorem dX0_body_26 : decode cX0_body 26 = .ok (.putfield 198, 3) := by decide +kernel
theorem dX0_body_29 : decode cX0_body 29 = .ok (.aload_n 0, 1) := by decide +kernel
theorem dX0_body_30 : decode cX0_body 30 = .ok (.iconst 0, 1) := by decide +kernel
theorem dX0_body_31 : decode cX0_body 31 = .ok (.putfield 199, 3) := by decide +kernel
theorem dX0_body_34 : decode cX0_body 34 = .ok (.aload_n 0, 1) := by decide +kernel
theorem dX0_body_35 : decode cX0_body 35 = .ok (.iconst 0, 1) := by decide +kernel
theorem dX0_body_36 : decode cX0_body 36 = .ok (.putfield 202, 3) := by decide +kernel
theorem dX0_body_39 : decode cX0_body 39 = .ok (.aload_n 1, 1) := by decide +kernel
theorem dX0_body_40 : decode cX0_body 40 = .ok (.getfield 94, 3) := by decide +kernel
theorem dX0_body_43 : decode cX0_body 43 = .ok (.ifCond .ne 35, 3) := by decide +kernel
theorem dX0_body_46 : decode cX0_body 46 = .ok (.aload_n 1, 1) := by decide +kernel
theorem dX0_body_47 : decode cX0_body 47 = .ok (.getfield 128, 3) := by decide +kernel
theorem dX0_body_50 : decode cX0_body 50 = .ok (.ifnull 27, 3) := by decide +kernel
theorem dX0_body_53 : decode cX0_body 53 = .ok (.aload_n 0, 1) := by decide +kernel
theorem dX0_body_54 : decode cX0_body 54 = .ok (.aload_n 1, 1) := by decide +kernel
theorem dX0_body_55 : decode cX0_body 55 = .ok (.getfield 128, 3) := by decide +kernel
theorem dX0_body_58 : decode cX0_body 58 = .ok (.invokevirtual 205, 3) := by decide +kernel
theorem dX0_body_61 : decode cX0_body 61 = .ok (.ifCond .eq 16, 3) := by decide +kernel
theorem dX0_body_64 : decode cX0_body 64 = .ok (.aload_n 0, 1) := by decide +kernel
theorem dX0_body_65 : decode cX0_body 65 = .ok (.aload_n 1, 1) := by decide +kernel
theorem dX0_body_66 : decode cX0_body 66 = .ok (.getfield 128, 3) := by decide +kernel
theorem dX0_body_69 : decode cX0_body 69 = .ok (.aload_n 1, 1) := by decide +kernel
theorem dX0_body_70 : decode cX0_body 70 = .ok (.getfield 123, 3) := by decide +kernel
theorem dX0_body_73 : decode cX0_body 73 = .ok (.invokevirtual 208, 3) := by decide +kernel
theorem dX0_body_76 : decode cX0_body 76 = .ok (.pop, 1) := by decide +kernel
theorem dX0_body_77 : decode cX0_body 77 = .ok (.return_, 1) := by decide +kernel
theorem dX0_body_78 : decode cX0_body 78 = .ok (.iconst 0, 1) := by decide +kernel
theorem dX0_body_79 : decode cX0_body 79 = .ok (.istore_n 2, 1) := by decide +kernel
theorem dX0_body_80 : decode cX0_body 80 = .ok (.iload_n 2, 1) := by decide +kernel
theorem dX0_body_81 : decode cX0_body 81 = .ok (.aload_n 1, 1) := by decide +kernel
theorem dX0_body_82 : decode cX0_body 82 = .ok (.getfield 212, 3) := by decide +kernel
theorem dX0_body_85 : decode cX0_body 85 = .ok (.if_icmp .ge 54, 3) := by decide +kernel
theorem dX0_body_88 : decode cX0_body 88 = .ok (.aload_n 1, 1) := by decide +kernel
theorem dX0_body_89 : decode cX0_body 89 = .ok (.getfield 215, 3) := by decide +kernel
theorem dX0_body_92 : decode cX0_body 92 = .ok (.iconst 3, 1) := by decide +kernel
theorem dX0_body_93 : decode cX0_body 93 = .ok (.iadd, 1) := by decide +kernel
theorem dX0_body_94 : decode cX0_body 94 = .ok (.iconst 3, 1) := by decide +kernel
theorem dX0_body_95 : decode cX0_body 95 = .ok (.iload_n 2, 1) := by decide +kernel
theorem dX0_body_96 : decode cX0_body 96 = .ok (.imul, 1) := by decide +kernel
theorem dX0_body_97 : decode cX0_body 97 = .ok (.iadd, 1) := by decide +kernel
theorem dX0_body_98 : decode cX0_body 98 = .ok (.istore_n 3, 1) := by decide +kernel
theorem dX0_body_99 : decode cX0_body 99 = .ok (.aload_n 0, 1) := by decide +kernel
theorem dX0_body_100 : decode cX0_body 100 = .ok (.aload_n 1, 1) := by decide +kernel
theorem dX0_body_101 : decode cX0_body 101 = .ok (.getfield 216, 3) := by decide +kernel
theorem dX0_body_104 : decode cX0_body 104 = .ok (.iload_n 2, 1) := by decide +kernel
theorem dX0_body_105 : decode cX0_body 105 = .ok (.laload, 1) := by decide +kernel
theorem dX0_body_106 : decode cX0_body 106 = .ok (.iload_n 3, 1) := by decide +kernel
theorem dX0_body_107 : decode cX0_body 107 = .ok (.sipush 700, 3) := by decide +kernel
theorem dX0_body_110 : decode cX0_body 110 = .ok (.if_icmp .ge 15, 3) := by decide +kernel
theorem dX0_body_113 : decode cX0_body 113 = .ok (.aload_n 0, 1) := by decide +kernel
theorem dX0_body_114 : decode cX0_body 114 = .ok (.getfield 43, 3) := by decide +kernel
theorem dX0_body_117 : decode cX0_body 117 = .ok (.getfield 157, 3) := by decide +kernel
theorem dX0_body_120 : decode cX0_body 120 = .ok (.iload_n 3, 1) := by decide +kernel
theorem dX0_body_121 : decode cX0_body 121 = .ok (.laload, 1) := by decide +kernel
theorem dX0_body_122 : decode cX0_body 122 = .ok (.goto 6, 3) := by decide +kernel
theorem dX0_body_125 : decode cX0_body 125 = .ok (.ldc2_w 104, 3) := by decide +kernel
theorem dX0_body_128 : decode cX0_body 128 = .ok (.iload_n 3, 1) := by decide +kernel
theorem dX0_body_129 : decode cX0_body 129 = .ok (.invokevirtual 219, 3) := by decide +kernel
theorem dX0_body_132 : decode cX0_body 132 = .ok (.pop, 1) := by decide +kernel
theorem dX0_body_133 : decode cX0_body 133 = .ok (.iinc 2 1, 3) := by decide +kernel
theorem dX0_body_136 : decode cX0_body 136 = .ok (.goto (-56), 3) := by decide +kernel
theorem dX0_body_139 : decode cX0_body 139 = .ok (.aload_n 0, 1) := by decide +kernel
theorem dX0_body_140 : decode cX0_body 140 = .ok (.getfield 28, 3) := by decide +kernel
theorem dX0_body_143 : decode cX0_body 143 = .ok (.ifCond .ne 53, 3) := by decide +kernel
theorem dX0_body_146 : decode cX0_body 146 = .ok (.aload_n 1, 1) := by decide +kernel
theorem dX0_body_147 : decode cX0_body 147 = .ok (.getfield 94, 3) := by decide +kernel
theorem dX0_body_150 : decode cX0_body 150 = .ok (.iconst 2, 1) := by decide +kernel
theorem dX0_body_151 : decode cX0_body 151 = .ok (.if_icmp .ne 45, 3) := by decide +kernel
theorem dX0_body_154 : decode cX0_body 154 = .ok (.aload_n 1, 1) := by decide +kernel
theorem dX0_body_155 : decode cX0_body 155 = .ok (.invokestatic 223, 3) := by decide +kernel
theorem dX0_body_158 : decode cX0_body 158 = .ok (.ifCond .ne 38, 3) := by decide +kernel
theorem dX0_body_161 : decode cX0_body 161 = .ok (.aload_n 0, 1) := by decide +kernel
theorem dX0_body_162 : decode cX0_body 162 = .ok (.aload_n 0, 1) := by decide +kernel
theorem dX0_body_163 : decode cX0_body 163 = .ok (.getfield 35, 3) := by decide +kernel
theorem dX0_body_166 : decode cX0_body 166 = .ok (.getfield 101, 3) := by decide +kernel
theorem dX0_body_169 : decode cX0_body 169 = .ok (.aload_n 0, 1) := by decide +kernel
theorem dX0_body_170 : decode cX0_body 170 = .ok (.getfield 72, 3) := by decide +kernel
theorem dX0_body_173 : decode cX0_body 173 = .ok (.iaload, 1) := by decide +kernel
theorem dX0_body_174 : decode cX0_body 174 = .ok (.ldc2_w 104, 3) := by decide +kernel
theorem dX0_body_177 : decode cX0_body 177 = .ok (.aconst_null, 1) := by decide +kernel
theorem dX0_body_178 : decode cX0_body 178 = .ok (.iconst 1, 1) := by decide +kernel
theorem dX0_body_179 : decode cX0_body 179 = .ok (.invokevirtual 106, 3) := by decide +kernel
theorem dX0_body_182 : decode cX0_body 182 = .ok (.ifnonnull 14, 3) := by decide +kernel
theorem dX0_body_185 : decode cX0_body 185 = .ok (.aload_n 0, 1) := by decide +kernel
theorem dX0_body_186 : decode cX0_body 186 = .ok (.bipush 18, 2) := by decide +kernel
theorem dX0_body_188 : decode cX0_body 188 = .ok (.aload_n 1, 1) := by decide +kernel
theorem dX0_body_189 : decode cX0_body 189 = .ok (.getfield 215, 3) := by decide +kernel
theorem dX0_body_192 : decode cX0_body 192 = .ok (.invokevirtual 113, 3) := by decide +kernel
theorem dX0_body_195 : decode cX0_body 195 = .ok (.pop, 1) := by decide +kernel
theorem dX0_body_196 : decode cX0_body 196 = .ok (.aload_n 0, 1) := by decide +kernel
theorem dX0_body_197 : decode cX0_body 197 = .ok (.getfield 28, 3) := by decide +kernel
theorem dX0_body_200 : decode cX0_body 200 = .ok (.ifCond .ne 61, 3) := by decide +kernel
theorem dX0_body_203 : decode cX0_body 203 = .ok (.aload_n 1, 1) := by decide +kernel
theorem dX0_body_204 : decode cX0_body 204 = .ok (.getfield 128, 3) := by decide +kernel
theorem dX0_body_207 : decode cX0_body 207 = .ok (.ifnull 54, 3) := by decide +kernel
theorem dX0_body_210 : decode cX0_body 210 = .ok (.aload_n 0, 1) := by decide +kernel
theorem dX0_body_211 : decode cX0_body 211 = .ok (.aload_n 1, 1) := by decide +kernel
theorem dX0_body_212 : decode cX0_body 212 = .ok (.getfield 128, 3) := by decide +kernel
theorem dX0_body_215 : decode cX0_body 215 = .ok (.invokevirtual 227, 3) := by decide +kernel
theorem dX0_body_218 : decode cX0_body 218 = .ok (.ifCond .eq 43, 3) := by decide +kernel
theorem dX0_body_221 : decode cX0_body 221 = .ok (.aload_n 1, 1) := by decide +kernel
theorem dX0_body_222 : decode cX0_body 222 = .ok (.getfield 94, 3) := by decide +kernel
theorem dX0_body_225 : decode cX0_body 225 = .ok (.iconst 1, 1) := by decide +kernel
theorem dX0_body_226 : decode cX0_body 226 = .ok (.if_icmp .ne 35, 3) := by decide +kernel
theorem dX0_body_229 : decode cX0_body 229 = .ok (.aload_n 1, 1) := by decide +kernel
theorem dX0_body_230 : decode cX0_body 230 = .ok (.getfield 123, 3) := by decide +kernel
theorem dX0_body_233 : decode cX0_body 233 = .ok (.ldc2_w 230, 3) := by decide +kernel
theorem dX0_body_236 : decode cX0_body 236 = .ok (.lcmp, 1) := by decide +kernel
theorem dX0_body_237 : decode cX0_body 237 = .ok (.ifCond .eq 24, 3) := by decide +kernel
theorem dX0_body_240 : decode cX0_body 240 = .ok (.aload_n 1, 1) := by decide +kernel
theorem dX0_body_241 : decode cX0_body 241 = .ok (.getfield 128, 3) := by decide +kernel
theorem dX0_body_244 : decode cX0_body 244 = .ok (.invokestatic 232, 3) := by decide +kernel
theorem dX0_body_247 : decode cX0_body 247 = .ok (.ifCond .eq 14, 3) := by decide +kernel
theorem dX0_body_250 : decode cX0_body 250 = .ok (.aload_n 0, 1) := by decide +kernel
theorem dX0_body_251 : decode cX0_body 251 = .ok (.bipush 17, 2) := by decide +kernel
theorem dX0_body_253 : decode cX0_body 253 = .ok (.aload_n 1, 1) := by decide +kernel
theorem dX0_body_254 : decode cX0_body 254 = .ok (.getfield 215, 3) := by decide +kernel
theorem dX0_body_257 : decode cX0_body 257 = .ok (.invokevirtual 113, 3) := by decide +kernel
theorem dX0_body_260 : decode cX0_body 260 = .ok (.pop, 1) := by decide +kernel
theorem dX0_body_261 : decode cX0_body 261 = .ok (.aload_n 1, 1) := by decide +kernel
theorem dX0_body_262 : decode cX0_body 262 = .ok (.aload_n 0, 1) := by decide +kernel
theorem dX0_body_263 : decode cX0_body 263 = .ok (.getfield 202, 3) := by decide +kernel
theorem dX0_body_266 : decode cX0_body 266 = .ok (.aload_n 0, 1) := by decide +kernel
theorem dX0_body_267 : decode cX0_body 267 = .ok (.getfield 198, 3) := by decide +kernel
theorem dX0_body_270 : decode cX0_body 270 = .ok (.ifCond .eq 7, 3) := by decide +kernel
theorem dX0_body_273 : decode cX0_body 273 = .ok (.iconst 0, 1) := by decide +kernel
theorem dX0_body_274 : decode cX0_body 274 = .ok (.goto 4, 3) := by decide +kernel
theorem dX0_body_277 : decode cX0_body 277 = .ok (.iconst 1, 1) := by decide +kernel
theorem dX0_body_278 : decode cX0_body 278 = .ok (.iadd, 1) := by decide +kernel
theorem dX0_body_279 : decode cX0_body 279 = .ok (.putfield 235, 3) := by decide +kernel
theorem dX0_body_282 : decode cX0_body 282 = .ok (.return_, 1) := by decide +kernel
theorem dX0_superFirst_0 : decode cX0_superFirst 0 = .ok (.aload_n 0, 1) := by decide +kernel
theorem dX0_superFirst_1 : decode cX0_superFirst 1 = .ok (.getfield 128, 3) := by decide +kernel
theorem dX0_superFirst_4 : decode cX0_superFirst 4 = .ok (.ifnull 32, 3) := by decide +kernel
theorem dX0_superFirst_7 : decode cX0_superFirst 7 = .ok (.aload_n 0, 1) := by decide +kernel
theorem dX0_superFirst_8 : decode cX0_superFirst 8 = .ok (.getfield 128, 3) := by decide +kernel
theorem dX0_superFirst_11 : decode cX0_superFirst 11 = .ok (.getfield 150, 3) := by decide +kernel
theorem dX0_superFirst_14 : decode cX0_superFirst 14 = .ok (.ifnull 22, 3) := by decide +kernel
theorem dX0_superFirst_17 : decode cX0_superFirst 17 = .ok (.aload_n 0, 1) := by decide +kernel
theorem dX0_superFirst_18 : decode cX0_superFirst 18 = .ok (.getfield 128, 3) := by decide +kernel
theorem dX0_superFirst_21 : decode cX0_superFirst 21 = .ok (.getfield 150, 3) := by decide +kernel
theorem dX0_superFirst_24 : decode cX0_superFirst 24 = .ok (.getfield 144, 3) := by decide +kernel
theorem dX0_superFirst_27 : decode cX0_superFirst 27 = .ok (.bipush 38, 2) := by decide +kernel
theorem dX0_superFirst_29 : decode cX0_superFirst 29 = .ok (.if_icmp .ne 7, 3) := by decide +kernel
theorem dX0_superFirst_32 : decode cX0_superFirst 32 = .ok (.iconst 1, 1) := by decide +kernel
theorem dX0_superFirst_33 : decode cX0_superFirst 33 = .ok (.goto 4, 3) := by decide +kernel
theorem dX0_superFirst_36 : decode cX0_superFirst 36 = .ok (.iconst 0, 1) := by decide +kernel
theorem dX0_superFirst_37 : decode cX0_superFirst 37 = .ok (.ireturn, 1) := by decide +kernel
theorem dX0_local_0 : decode cX0_local 0 = .ok (.aload_n 0, 1) := by decide +kernel
theorem dX0_local_1 : decode cX0_local 1 = .ok (.lload_n 3, 1) := by decide +kernel
theorem dX0_local_2 : decode cX0_local 2 = .ok (.invokevirtual 236, 3) := by decide +kernel
theorem dX0_local_5 : decode cX0_local 5 = .ok (.ifCond .lt 12, 3) := by decide +kernel
theorem dX0_local_8 : decode cX0_local 8 = .ok (.aload_n 0, 1) := by decide +kernel
theorem dX0_local_9 : decode cX0_local 9 = .ok (.bipush 16, 2) := by decide +kernel
theorem dX0_local_11 : decode cX0_local 11 = .ok (.iload 5, 2) := by decide +kernel
theorem dX0_local_13 : decode cX0_local 13 = .ok (.invokevirtual 113, 3) := by decide +kernel
theorem dX0_local_16 : decode cX0_local 16 = .ok (.pop, 1) := by decide +kernel
theorem dX0_local_17 : decode cX0_local 17 = .ok (.aload_n 0, 1) := by decide +kernel
theorem dX0_local_18 : decode cX0_local 18 = .ok (.getfield 199, 3) := by decide +kernel
theorem dX0_local_21 : decode cX0_local 21 = .ok (.sipush 700, 3) := by decide +kernel
theorem dX0_local_24 : decode cX0_local 24 = .ok (.if_icmp .ge 33, 3) := by decide +kernel
theorem dX0_local_27 : decode cX0_local 27 = .ok (.aload_n 0, 1) := by decide +kernel
theorem dX0_local_28 : decode cX0_local 28 = .ok (.getfield 9, 3) := by decide +kernel
theorem dX0_local_31 : decode cX0_local 31 = .ok (.aload_n 0, 1) := by decide +kernel
theorem dX0_local_32 : decode cX0_local 32 = .ok (.getfield 199, 3) := by decide +kernel
theorem dX0_local_35 : decode cX0_local 35 = .ok (.lload_n 3, 1) := by decide +kernel
theorem dX0_local_36 : decode cX0_local 36 = .ok (.lastore, 1) := by decide +kernel
theorem dX0_local_37 : decode cX0_local 37 = .ok (.aload_n 0, 1) := by decide +kernel
theorem dX0_local_38 : decode cX0_local 38 = .ok (.getfield 15, 3) := by decide +kernel
theorem dX0_local_41 : decode cX0_local 41 = .ok (.aload_n 0, 1) := by decide +kernel
theorem dX0_local_42 : decode cX0_local 42 = .ok (.getfield 199, 3) := by decide +kernel
theorem dX0_local_45 : decode cX0_local 45 = .ok (.lload_n 1, 1) := by decide +kernel
theorem dX0_local_46 : decode cX0_local 46 = .ok (.lastore, 1) := by decide +kernel
theorem dX0_local_47 : decode cX0_local 47 = .ok (.aload_n 0, 1) := by decide +kernel
theorem dX0_local_48 : decode cX0_local 48 = .ok (.dup, 1) := by decide +kernel
theorem dX0_local_49 : decode cX0_local 49 = .ok (.getfield 199, 3) := by decide +kernel
theorem dX0_local_52 : decode cX0_local 52 = .ok (.iconst 1, 1) := by decide +kernel
theorem dX0_local_53 : decode cX0_local 53 = .ok (.iadd, 1) := by decide +kernel
theorem dX0_local_54 : decode cX0_local 54 = .ok (.putfield 199, 3) := by decide +kernel
theorem dX0_local_57 : decode cX0_local 57 = .ok (.aload_n 0, 1) := by decide +kernel
theorem dX0_local_58 : decode cX0_local 58 = .ok (.aload_n 0, 1) := by decide +kernel
theorem dX0_local_59 : decode cX0_local 59 = .ok (.getfield 202, 3) := by decide +kernel
theorem dX0_local_62 : decode cX0_local 62 = .ok (.aload_n 0, 1) := by decide +kernel
theorem dX0_local_63 : decode cX0_local 63 = .ok (.getfield 199, 3) := by decide +kernel
theorem dX0_local_66 : decode cX0_local 66 = .ok (.invokestatic 239, 3) := by decide +kernel
theorem dX0_local_69 : decode cX0_local 69 = .ok (.putfield 202, 3) := by decide +kernel
theorem dX0_local_72 : decode cX0_local 72 = .ok (.aload_n 0, 1) := by decide +kernel
theorem dX0_local_73 : decode cX0_local 73 = .ok (.getfield 199, 3) := by decide +kernel
theorem dX0_local_76 : decode cX0_local 76 = .ok (.iconst 1, 1) := by decide +kernel
theorem dX0_local_77 : decode cX0_local 77 = .ok (.isub, 1) := by decide +kernel
theorem dX0_local_78 : decode cX0_local 78 = .ok (.aload_n 0, 1) := by decide +kernel
theorem dX0_local_79 : decode cX0_local 79 = .ok (.getfield 198, 3) := by decide +kernel
theorem dX0_local_82 : decode cX0_local 82 = .ok (.ifCond .eq 7, 3) := by decide +kernel
theorem dX0_local_85 : decode cX0_local 85 = .ok (.iconst 0, 1) := by decide +kernel
theorem dX0_local_86 : decode cX0_local 86 = .ok (.goto 4, 3) := by decide +kernel
theorem dX0_local_89 : decode cX0_local 89 = .ok (.iconst 1, 1) := by decide +kernel
theorem dX0_local_90 : decode cX0_local 90 = .ok (.iadd, 1) := by decide +kernel
theorem dX0_local_91 : decode cX0_local 91 = .ok (.ireturn, 1) := by decide +kernel
theorem dX0_localOf_0 : decode cX0_localOf 0 = .ok (.iconst 0, 1) := by decide +kernel
theorem dX0_localOf_1 : decode cX0_localOf 1 = .ok (.istore_n 3, 1) := by decide +kernel
theorem dX0_localOf_2 : decode cX0_localOf 2 = .ok (.iload_n 3, 1) := by decide +kernel
theorem dX0_localOf_3 : decode cX0_localOf 3 = .ok (.aload_n 0, 1) := by decide +kernel
theorem dX0_localOf_4 : decode cX0_localOf 4 = .ok (.getfield 199, 3) := by decide +kernel
theorem dX0_localOf_7 : decode cX0_localOf 7 = .ok (.if_icmp .ge 22, 3) := by decide +kernel
theorem dX0_localOf_10 : decode cX0_localOf 10 = .ok (.aload_n 0, 1) := by decide +kernel
theorem dX0_localOf_11 : decode cX0_localOf 11 = .ok (.getfield 9, 3) := by decide +kernel
theorem dX0_localOf_14 : decode cX0_localOf 14 = .ok (.iload_n 3, 1) := by decide +kernel
theorem dX0_localOf_15 : decode cX0_localOf 15 = .ok (.laload, 1) := by decide +kernel
theorem dX0_localOf_16 : decode cX0_localOf 16 = .ok (.lload_n 1, 1) := by decide +kernel
theorem dX0_localOf_17 : decode cX0_localOf 17 = .ok (.lcmp, 1) := by decide +kernel
theorem dX0_localOf_18 : decode cX0_localOf 18 = .ok (.ifCond .ne 5, 3) := by decide +kernel
theorem dX0_localOf_21 : decode cX0_localOf 21 = .ok (.iload_n 3, 1) := by decide +kernel
theorem dX0_localOf_22 : decode cX0_localOf 22 = .ok (.ireturn, 1) := by decide +kernel
theorem dX0_localOf_23 : decode cX0_localOf 23 = .ok (.iinc 3 1, 3) := by decide +kernel
theorem dX0_localOf_26 : decode cX0_localOf 26 = .ok (.goto (-24), 3) := by decide +kernel
theorem dX0_localOf_29 : decode cX0_localOf 29 = .ok (.bipush (-2), 2) := by decide +kernel
theorem dX0_localOf_31 : decode cX0_localOf 31 = .ok (.ireturn, 1) := by decide +kernel
theorem dX0_wanted_0 : decode cX0_wanted 0 = .ok (.aload_n 0, 1) := by decide +kernel
theorem dX0_wanted_1 : decode cX0_wanted 1 = .ok (.getfield 35, 3) := by decide +kernel
theorem dX0_wanted_4 : decode cX0_wanted 4 = .ok (.aload_n 1, 1) := by decide +kernel
theorem dX0_wanted_5 : decode cX0_wanted 5 = .ok (.getfield 245, 3) := by decide +kernel
theorem dX0_wanted_8 : decode cX0_wanted 8 = .ok (.lload_n 2, 1) := by decide +kernel
theorem dX0_wanted_9 : decode cX0_wanted 9 = .ok (.invokevirtual 246, 3) := by decide +kernel
theorem dX0_wanted_12 : decode cX0_wanted 12 = .ok (.ifCond .ne 16, 3) := by decide +kernel
theorem dX0_wanted_15 : decode cX0_wanted 15 = .ok (.aload_n 0, 1) := by decide +kernel
theorem dX0_wanted_16 : decode cX0_wanted 16 = .ok (.bipush 13, 2) := by decide +kernel
theorem dX0_wanted_18 : decode cX0_wanted 18 = .ok (.aload_n 1, 1) := by decide +kernel
theorem dX0_wanted_19 : decode cX0_wanted 19 = .ok (.getfield 162, 3) := by decide +kernel
theorem dX0_wanted_22 : decode cX0_wanted 22 = .ok (.invokevirtual 113, 3) := by decide +kernel
theorem dX0_wanted_25 : decode cX0_wanted 25 = .ok (.ifCond .eq 7, 3) := by decide +kernel
theorem dX0_wanted_28 : decode cX0_wanted 28 = .ok (.iconst 1, 1) := by decide +kernel
theorem dX0_wanted_29 : decode cX0_wanted 29 = .ok (.goto 4, 3) := by decide +kernel
theorem dX0_wanted_32 : decode cX0_wanted 32 = .ok (.iconst 0, 1) := by decide +kernel
theorem dX0_wanted_33 : decode cX0_wanted 33 = .ok (.ireturn, 1) := by decide +kernel
theorem dX0_named_0 : decode cX0_named 0 = .ok (.aload_n 0, 1) := by decide +kernel
theorem dX0_named_1 : decode cX0_named 1 = .ok (.getfield 35, 3) := by decide +kernel
theorem dX0_named_4 : decode cX0_named 4 = .ok (.lload_n 1, 1) := by decide +kernel
theorem dX0_named_5 : decode cX0_named 5 = .ok (.invokevirtual 66, 3) := by decide +kernel
theorem dX0_named_8 : decode cX0_named 8 = .ok (.istore 4, 2) := by decide +kernel
theorem dX0_named_10 : decode cX0_named 10 = .ok (.iload 4, 2) := by decide +kernel
theorem dX0_named_12 : decode cX0_named 12 = .ok (.ifCond .lt 19, 3) := by decide +kernel
theorem dX0_named_15 : decode cX0_named 15 = .ok (.aload_n 0, 1) := by decide +kernel
theorem dX0_named_16 : decode cX0_named 16 = .ok (.getfield 35, 3) := by decide +kernel
theorem dX0_named_19 : decode cX0_named 19 = .ok (.iload 4, 2) := by decide +kernel
theorem dX0_named_21 : decode cX0_named 21 = .ok (.aload_n 0, 1) := by decide +kernel
theorem dX0_named_22 : decode cX0_named 22 = .ok (.getfield 72, 3) := by decide +kernel
theorem dX0_named_25 : decode cX0_named 25 = .ok (.invokevirtual 165, 3) := by decide +kernel
theorem dX0_named_28 : decode cX0_named 28 = .ok (.ifCond .ne 14, 3) := by decide +kernel
theorem dX0_named_31 : decode cX0_named 31 = .ok (.aload_n 0, 1) := by decide +kernel
theorem dX0_named_32 : decode cX0_named 32 = .ok (.bipush 7, 2) := by decide +kernel
theorem dX0_named_34 : decode cX0_named 34 = .ok (.iload_n 3, 1) := by decide +kernel
theorem dX0_named_35 : decode cX0_named 35 = .ok (.invokevirtual 113, 3) := by decide +kernel
theorem dX0_named_38 : decode cX0_named 38 = .ok (.pop, 1) := by decide +kernel
theorem dX0_named_39 : decode cX0_named 39 = .ok (.bipush (-2), 2) := by decide +kernel
theorem dX0_named_41 : decode cX0_named 41 = .ok (.ireturn, 1) := by decide +kernel
theorem dX0_named_42 : decode cX0_named 42 = .ok (.iload 4, 2) := by decide +kernel
theorem dX0_named_44 : decode cX0_named 44 = .ok (.ireturn, 1) := by decide +kernel
theorem dX0_ends_0 : decode cX0_ends 0 = .ok (.aload_n 0, 1) := by decide +kernel
theorem dX0_ends_1 : decode cX0_ends 1 = .ok (.ifnonnull 5, 3) := by decide +kernel
theorem dX0_ends_4 : decode cX0_ends 4 = .ok (.iconst 1, 1) := by decide +kernel
theorem dX0_ends_5 : decode cX0_ends 5 = .ok (.ireturn, 1) := by decide +kernel
theorem dX0_ends_6 : decode cX0_ends 6 = .ok (.aload_n 0, 1) := by decide +kernel
theorem dX0_ends_7 : decode cX0_ends 7 = .ok (.getfield 144, 3) := by decide +kernel
theorem dX0_ends_10 : decode cX0_ends 10 = .ok (.tableswitch 131 30 36 #[44, 131, 72, 131, 42, 42, 105], 42) := by decide +kernel
theorem dX0_ends_52 : decode cX0_ends 52 = .ok (.iconst 0, 1) := by decide +kernel
theorem dX0_ends_53 : decode cX0_ends 53 = .ok (.ireturn, 1) := by decide +kernel
theorem dX0_ends_54 : decode cX0_ends 54 = .ok (.aload_n 0, 1) := by decide +kernel
theorem dX0_ends_55 : decode cX0_ends 55 = .ok (.getfield 150, 3) := by decide +kernel
theorem dX0_ends_58 : decode cX0_ends 58 = .ok (.astore_n 1, 1) := by decide +kernel
theorem dX0_ends_59 : decode cX0_ends 59 = .ok (.aload_n 1, 1) := by decide +kernel
theorem dX0_ends_60 : decode cX0_ends 60 = .ok (.ifnull 20, 3) := by decide +kernel
theorem dX0_ends_63 : decode cX0_ends 63 = .ok (.aload_n 1, 1) := by decide +kernel
theorem dX0_ends_64 : decode cX0_ends 64 = .ok (.invokestatic 232, 3) := by decide +kernel
theorem dX0_ends_67 : decode cX0_ends 67 = .ok (.ifCond .ne 5, 3) := by decide +kernel
theorem dX0_ends_70 : decode cX0_ends 70 = .ok (.iconst 0, 1) := by decide +kernel
theorem dX0_ends_71 : decode cX0_ends 71 = .ok (.ireturn, 1) := by decide +kernel
theorem dX0_ends_72 : decode cX0_ends 72 = .ok (.aload_n 1, 1) := by decide +kernel
theorem dX0_ends_73 : decode cX0_ends 73 = .ok (.getfield 191, 3) := by decide +kernel
theorem dX0_ends_76 : decode cX0_ends 76 = .ok (.astore_n 1, 1) := by decide +kernel
theorem dX0_ends_77 : decode cX0_ends 77 = .ok (.goto (-18), 3) := by decide +kernel
theorem dX0_ends_80 : decode cX0_ends 80 = .ok (.iconst 1, 1) := by decide +kernel
theorem dX0_ends_81 : decode cX0_ends 81 = .ok (.ireturn, 1) := by decide +kernel
theorem dX0_ends_82 : decode cX0_ends 82 = .ok (.aload_n 0, 1) := by decide +kernel
theorem dX0_ends_83 : decode cX0_ends 83 = .ok (.getfield 250, 3) := by decide +kernel
theorem dX0_ends_86 : decode cX0_ends 86 = .ok (.ifnull 23, 3) := by decide +kernel
theorem dX0_ends_89 : decode cX0_ends 89 = .ok (.aload_n 0, 1) := by decide +kernel
theorem dX0_ends_90 : decode cX0_ends 90 = .ok (.getfield 185, 3) := by decide +kernel
theorem dX0_ends_93 : decode cX0_ends 93 = .ok (.invokestatic 232, 3) := by decide +kernel
theorem dX0_ends_96 : decode cX0_ends 96 = .ok (.ifCond .ne 13, 3) := by decide +kernel
theorem dX0_ends_99 : decode cX0_ends 99 = .ok (.aload_n 0, 1) := by decide +kernel
theorem dX0_ends_100 : decode cX0_ends 100 = .ok (.getfield 250, 3) := by decide +kernel
theorem dX0_ends_103 : decode cX0_ends 103 = .ok (.invokestatic 232, 3) := by decide +kernel
theorem dX0_ends_106 : decode cX0_ends 106 = .ok (.ifCond .eq 7, 3) := by decide +kernel
theorem dX0_ends_109 : decode cX0_ends 109 = .ok (.iconst 1, 1) := by decide +kernel
theorem dX0_ends_110 : decode cX0_ends 110 = .ok (.goto 4, 3) := by decide +kernel
theorem dX0_ends_113 : decode cX0_ends 113 = .ok (.iconst 0, 1) := by decide +kernel
theorem dX0_ends_114 : decode cX0_ends 114 = .ok (.ireturn, 1) := by decide +kernel
theorem dX0_ends_115 : decode cX0_ends 115 = .ok (.aload_n 0, 1) := by decide +kernel
theorem dX0_ends_116 : decode cX0_ends 116 = .ok (.getfield 150, 3) := by decide +kernel
theorem dX0_ends_119 : decode cX0_ends 119 = .ok (.invokestatic 232, 3) := by decide +kernel
theorem dX0_ends_122 : decode cX0_ends 122 = .ok (.ifCond .ne 13, 3) := by decide +kernel
theorem dX0_ends_125 : decode cX0_ends 125 = .ok (.aload_n 0, 1) := by decide +kernel
theorem dX0_ends_126 : decode cX0_ends 126 = .ok (.getfield 185, 3) := by decide +kernel
theorem dX0_ends_129 : decode cX0_ends 129 = .ok (.invokestatic 232, 3) := by decide +kernel
theorem dX0_ends_132 : decode cX0_ends 132 = .ok (.ifCond .eq 7, 3) := by decide +kernel
theorem dX0_ends_135 : decode cX0_ends 135 = .ok (.iconst 1, 1) := by decide +kernel
theorem dX0_ends_136 : decode cX0_ends 136 = .ok (.goto 4, 3) := by decide +kernel
theorem dX0_ends_139 : decode cX0_ends 139 = .ok (.iconst 0, 1) := by decide +kernel
theorem dX0_ends_140 : decode cX0_ends 140 = .ok (.ireturn, 1) := by decide +kernel
theorem dX0_ends_141 : decode cX0_ends 141 = .ok (.iconst 1, 1) := by decide +kernel
theorem dX0_ends_142 : decode cX0_ends 142 = .ok (.ireturn, 1) := by decide +kernel
theorem dX0_statement_0 : decode cX0_statement 0 = .ok (.aload_n 0, 1) := by decide +kernel
theorem dX0_statement_1 : decode cX0_statement 1 = .ok (.getfield 199, 3) := by decide +kernel
theorem dX0_statement_4 : decode cX0_statement 4 = .ok (.istore_n 2, 1) := by decide +kernel
theorem dX0_statement_5 : decode cX0_statement 5 = .ok (.aload_n 1, 1) := by decide +kernel
theorem dX0_statement_6 : decode cX0_statement 6 = .ok (.getfield 144, 3) := by decide +kernel
theorem dX0_statement_9 : decode cX0_statement 9 = .ok (.tableswitch 384 30 39 #[55, 103, 156, 156, 230, 255, 286, 292, 323, 348], 55) := by decide +kernel
theorem dX0_statement_64 : decode cX0_statement 64 = .ok (.aload_n 1, 1) := by decide +kernel
theorem dX0_statement_65 : decode cX0_statement 65 = .ok (.getfield 150, 3) := by decide +kernel
theorem dX0_statement_68 : decode cX0_statement 68 = .ok (.astore_n 3, 1) := by decide +kernel
theorem dX0_statement_69 : decode cX0_statement 69 = .ok (.aload_n 3, 1) := by decide +kernel
theorem dX0_statement_70 : decode cX0_statement 70 = .ok (.ifnull 24, 3) := by decide +kernel
theorem dX0_statement_73 : decode cX0_statement 73 = .ok (.aload_n 0, 1) := by decide +kernel
theorem dX0_statement_74 : decode cX0_statement 74 = .ok (.getfield 28, 3) := by decide +kernel
theorem dX0_statement_77 : decode cX0_statement 77 = .ok (.ifCond .ne 17, 3) := by decide +kernel
theorem dX0_statement_80 : decode cX0_statement 80 = .ok (.aload_n 0, 1) := by decide +kernel
theorem dX0_statement_81 : decode cX0_statement 81 = .ok (.aload_n 3, 1) := by decide +kernel
theorem dX0_statement_82 : decode cX0_statement 82 = .ok (.invokevirtual 227, 3) := by decide +kernel
theorem dX0_statement_85 : decode cX0_statement 85 = .ok (.pop, 1) := by decide +kernel
theorem dX0_statement_86 : decode cX0_statement 86 = .ok (.aload_n 3, 1) := by decide +kernel
theorem dX0_statement_87 : decode cX0_statement 87 = .ok (.getfield 191, 3) := by decide +kernel
theorem dX0_statement_90 : decode cX0_statement 90 = .ok (.astore_n 3, 1) := by decide +kernel
theorem dX0_statement_91 : decode cX0_statement 91 = .ok (.goto (-22), 3) := by decide +kernel
theorem dX0_statement_94 : decode cX0_statement 94 = .ok (.aload_n 0, 1) := by decide +kernel
theorem dX0_statement_95 : decode cX0_statement 95 = .ok (.iload_n 2, 1) := by decide +kernel
theorem dX0_statement_96 : decode cX0_statement 96 = .ok (.putfield 199, 3) := by decide +kernel
theorem dX0_statement_99 : decode cX0_statement 99 = .ok (.aload_n 0, 1) := by decide +kernel
theorem dX0_statement_100 : decode cX0_statement 100 = .ok (.getfield 28, 3) := by decide +kernel
theorem dX0_statement_103 : decode cX0_statement 103 = .ok (.ifCond .ne 7, 3) := by decide +kernel
theorem dX0_statement_106 : decode cX0_statement 106 = .ok (.iconst 1, 1) := by decide +kernel
theorem dX0_statement_107 : decode cX0_statement 107 = .ok (.goto 4, 3) := by decide +kernel
theorem dX0_statement_110 : decode cX0_statement 110 = .ok (.iconst 0, 1) := by decide +kernel
theorem dX0_statement_111 : decode cX0_statement 111 = .ok (.ireturn, 1) := by decide +kernel
theorem dX0_statement_112 : decode cX0_statement 112 = .ok (.aload_n 1, 1) := by decide +kernel
theorem dX0_statement_113 : decode cX0_statement 113 = .ok (.getfield 245, 3) := by decide +kernel
theorem dX0_statement_116 : decode cX0_statement 116 = .ok (.ldc2_w 126, 3) := by decide +kernel
theorem dX0_statement_119 : decode cX0_statement 119 = .ok (.lcmp, 1) := by decide +kernel
theorem dX0_statement_120 : decode cX0_statement 120 = .ok (.ifCond .eq 20, 3) := by decide +kernel
theorem dX0_statement_123 : decode cX0_statement 123 = .ok (.aload_n 0, 1) := by decide +kernel
theorem dX0_statement_124 : decode cX0_statement 124 = .ok (.aload_n 1, 1) := by decide +kernel
theorem dX0_statement_125 : decode cX0_statement 125 = .ok (.getfield 245, 3) := by decide +kernel
theorem dX0_statement_128 : decode cX0_statement 128 = .ok (.aload_n 1, 1) := by decide +kernel
theorem dX0_statement_129 : decode cX0_statement 129 = .ok (.getfield 162, 3) := by decide +kernel
theorem dX0_statement_132 : decode cX0_statement 132 = .ok (.iconst 1, 1) := by decide +kernel
theorem dX0_statement_133 : decode cX0_statement 133 = .ok (.iadd, 1) := by decide +kernel
theorem dX0_statement_134 : decode cX0_statement 134 = .ok (.invokevirtual 253, 3) := by decide +kernel
theorem dX0_statement_137 : decode cX0_statement 137 = .ok (.ifCond .lt 26, 3) := by decide +kernel
theorem dX0_statement_140 : decode cX0_statement 140 = .ok (.aload_n 0, 1) := by decide +kernel
theorem dX0_statement_141 : decode cX0_statement 141 = .ok (.aload_n 1, 1) := by decide +kernel
theorem dX0_statement_142 : decode cX0_statement 142 = .ok (.getfield 150, 3) := by decide +kernel
theorem dX0_statement_145 : decode cX0_statement 145 = .ok (.invokevirtual 205, 3) := by decide +kernel
theorem dX0_statement_148 : decode cX0_statement 148 = .ok (.ifCond .eq 15, 3) := by decide +kernel
theorem dX0_statement_151 : decode cX0_statement 151 = .ok (.aload_n 0, 1) := by decide +kernel
theorem dX0_statement_152 : decode cX0_statement 152 = .ok (.aload_n 1, 1) := by decide +kernel
theorem dX0_statement_153 : decode cX0_statement 153 = .ok (.invokevirtual 257, 3) := by decide +kernel
theorem dX0_statement_156 : decode cX0_statement 156 = .ok (.ifCond .eq 7, 3) := by decide +kernel
theorem dX0_statement_159 : decode cX0_statement 159 = .ok (.iconst 1, 1) := by decide +kernel
theorem dX0_statement_160 : decode cX0_statement 160 = .ok (.goto 4, 3) := by decide +kernel
theorem dX0_statement_163 : decode cX0_statement 163 = .ok (.iconst 0, 1) := by decide +kernel
theorem dX0_statement_164 : decode cX0_statement 164 = .ok (.ireturn, 1) := by decide +kernel
theorem dX0_statement_165 : decode cX0_statement 165 = .ok (.aload_n 0, 1) := by decide +kernel
theorem dX0_statement_166 : decode cX0_statement 166 = .ok (.aload_n 1, 1) := by decide +kernel
theorem dX0_statement_167 : decode cX0_statement 167 = .ok (.getfield 150, 3) := by decide +kernel
theorem dX0_statement_170 : decode cX0_statement 170 = .ok (.invokevirtual 205, 3) := by decide +kernel
theorem dX0_statement_173 : decode cX0_statement 173 = .ok (.ifCond .eq 28, 3) := by decide +kernel
theorem dX0_statement_176 : decode cX0_statement 176 = .ok (.aload_n 0, 1) := by decide +kernel
theorem dX0_statement_177 : decode cX0_statement 177 = .ok (.aload_n 1, 1) := by decide +kernel
theorem dX0_statement_178 : decode cX0_statement 178 = .ok (.getfield 150, 3) := by decide +kernel
theorem dX0_statement_181 : decode cX0_statement 181 = .ok (.ldc2_w 126, 3) := by decide +kernel
theorem dX0_statement_184 : decode cX0_statement 184 = .ok (.invokevirtual 208, 3) := by decide +kernel
theorem dX0_statement_187 : decode cX0_statement 187 = .ok (.ifCond .eq 14, 3) := by decide +kernel
theorem dX0_statement_190 : decode cX0_statement 190 = .ok (.aload_n 0, 1) := by decide +kernel
theorem dX0_statement_191 : decode cX0_statement 191 = .ok (.aload_n 1, 1) := by decide +kernel
theorem dX0_statement_192 : decode cX0_statement 192 = .ok (.getfield 185, 3) := by decide +kernel
theorem dX0_statement_195 : decode cX0_statement 195 = .ok (.invokevirtual 227, 3) := by decide +kernel
theorem dX0_statement_198 : decode cX0_statement 198 = .ok (.ifCond .ne 5, 3) := by decide +kernel
theorem dX0_statement_201 : decode cX0_statement 201 = .ok (.iconst 0, 1) := by decide +kernel
theorem dX0_statement_202 : decode cX0_statement 202 = .ok (.ireturn, 1) := by decide +kernel
theorem dX0_statement_203 : decode cX0_statement 203 = .ok (.aload_n 0, 1) := by decide +kernel
theorem dX0_statement_204 : decode cX0_statement 204 = .ok (.iload_n 2, 1) := by decide +kernel
theorem dX0_statement_205 : decode cX0_statement 205 = .ok (.putfield 199, 3) := by decide +kernel
theorem dX0_statement_208 : decode cX0_statement 208 = .ok (.aload_n 1, 1) := by decide +kernel
theorem dX0_statement_209 : decode cX0_statement 209 = .ok (.getfield 250, 3) := by decide +kernel
theorem dX0_statement_212 : decode cX0_statement 212 = .ok (.ifnull 14, 3) := by decide +kernel
theorem dX0_statement_215 : decode cX0_statement 215 = .ok (.aload_n 0, 1) := by decide +kernel
theorem dX0_statement_216 : decode cX0_statement 216 = .ok (.aload_n 1, 1) := by decide +kernel
theorem dX0_statement_217 : decode cX0_statement 217 = .ok (.getfield 250, 3) := by decide +kernel
theorem dX0_statement_220 : decode cX0_statement 220 = .ok (.invokevirtual 227, 3) := by decide +kernel
theorem dX0_statement_223 : decode cX0_statement 223 = .ok (.ifCond .eq 7, 3) := by decide +kernel
theorem dX0_statement_226 : decode cX0_statement 226 = .ok (.iconst 1, 1) := by decide +kernel
theorem dX0_statement_227 : decode cX0_statement 227 = .ok (.goto 4, 3) := by decide +kernel
theorem dX0_statement_230 : decode cX0_statement 230 = .ok (.iconst 0, 1) := by decide +kernel
theorem dX0_statement_231 : decode cX0_statement 231 = .ok (.istore_n 3, 1) := by decide +kernel
theorem dX0_statement_232 : decode cX0_statement 232 = .ok (.aload_n 0, 1) := by decide +kernel
theorem dX0_statement_233 : decode cX0_statement 233 = .ok (.iload_n 2, 1) := by decide +kernel
theorem dX0_statement_234 : decode cX0_statement 234 = .ok (.putfield 199, 3) := by decide +kernel
theorem dX0_statement_237 : decode cX0_statement 237 = .ok (.iload_n 3, 1) := by decide +kernel
theorem dX0_statement_238 : decode cX0_statement 238 = .ok (.ireturn, 1) := by decide +kernel
theorem dX0_statement_239 : decode cX0_statement 239 = .ok (.aload_n 0, 1) := by decide +kernel
theorem dX0_statement_240 : decode cX0_statement 240 = .ok (.aload_n 1, 1) := by decide +kernel
theorem dX0_statement_241 : decode cX0_statement 241 = .ok (.getfield 150, 3) := by decide +kernel
theorem dX0_statement_244 : decode cX0_statement 244 = .ok (.invokevirtual 205, 3) := by decide +kernel
theorem dX0_statement_247 : decode cX0_statement 247 = .ok (.ifCond .eq 15, 3) := by decide +kernel
theorem dX0_statement_250 : decode cX0_statement 250 = .ok (.aload_n 0, 1) := by decide +kernel
theorem dX0_statement_251 : decode cX0_statement 251 = .ok (.aload_n 1, 1) := by decide +kernel
theorem dX0_statement_252 : decode cX0_statement 252 = .ok (.invokevirtual 260, 3) := by decide +kernel
theorem dX0_statement_255 : decode cX0_statement 255 = .ok (.ifCond .eq 7, 3) := by decide +kernel
theorem dX0_statement_258 : decode cX0_statement 258 = .ok (.iconst 1, 1) := by decide +kernel
theorem dX0_statement_259 : decode cX0_statement 259 = .ok (.goto 4, 3) := by decide +kernel
theorem dX0_statement_262 : decode cX0_statement 262 = .ok (.iconst 0, 1) := by decide +kernel
theorem dX0_statement_263 : decode cX0_statement 263 = .ok (.ireturn, 1) := by decide +kernel
theorem dX0_statement_264 : decode cX0_statement 264 = .ok (.aload_n 0, 1) := by decide +kernel
theorem dX0_statement_265 : decode cX0_statement 265 = .ok (.aload_n 1, 1) := by decide +kernel
theorem dX0_statement_266 : decode cX0_statement 266 = .ok (.getfield 150, 3) := by decide +kernel
theorem dX0_statement_269 : decode cX0_statement 269 = .ok (.invokevirtual 205, 3) := by decide +kernel
theorem dX0_statement_272 : decode cX0_statement 272 = .ok (.ifCond .eq 21, 3) := by decide +kernel
theorem dX0_statement_275 : decode cX0_statement 275 = .ok (.aload_n 0, 1) := by decide +kernel
theorem dX0_statement_276 : decode cX0_statement 276 = .ok (.aload_n 1, 1) := by decide +kernel
theorem dX0_statement_277 : decode cX0_statement 277 = .ok (.getfield 150, 3) := by decide +kernel
theorem dX0_statement_280 : decode cX0_statement 280 = .ok (.ldc2_w 263, 3) := by decide +kernel
theorem dX0_statement_283 : decode cX0_statement 283 = .ok (.invokevirtual 208, 3) := by decide +kernel
theorem dX0_statement_286 : decode cX0_statement 286 = .ok (.ifCond .eq 7, 3) := by decide +kernel
theorem dX0_statement_289 : decode cX0_statement 289 = .ok (.iconst 1, 1) := by decide +kernel
theorem dX0_statement_290 : decode cX0_statement 290 = .ok (.goto 4, 3) := by decide +kernel
theorem dX0_statement_293 : decode cX0_statement 293 = .ok (.iconst 0, 1) := by decide +kernel
theorem dX0_statement_294 : decode cX0_statement 294 = .ok (.ireturn, 1) := by decide +kernel
theorem dX0_statement_295 : decode cX0_statement 295 = .ok (.aload_n 0, 1) := by decide +kernel
theorem dX0_statement_296 : decode cX0_statement 296 = .ok (.aload_n 1, 1) := by decide +kernel
theorem dX0_statement_297 : decode cX0_statement 297 = .ok (.invokevirtual 265, 3) := by decide +kernel
theorem dX0_statement_300 : decode cX0_statement 300 = .ok (.ireturn, 1) := by decide +kernel
theorem dX0_statement_301 : decode cX0_statement 301 = .ok (.aload_n 0, 1) := by decide +kernel
theorem dX0_statement_302 : decode cX0_statement 302 = .ok (.aload_n 1, 1) := by decide +kernel
theorem dX0_statement_303 : decode cX0_statement 303 = .ok (.getfield 150, 3) := by decide +kernel
theorem dX0_statement_306 : decode cX0_statement 306 = .ok (.invokevirtual 205, 3) := by decide +kernel
theorem dX0_statement_309 : decode cX0_statement 309 = .ok (.ifCond .eq 21, 3) := by decide +kernel
theorem dX0_statement_312 : decode cX0_statement 312 = .ok (.aload_n 0, 1) := by decide +kernel
theorem dX0_statement_313 : decode cX0_statement 313 = .ok (.aload_n 1, 1) := by decide +kernel
theorem dX0_statement_314 : decode cX0_statement 314 = .ok (.getfield 150, 3) := by decide +kernel
theorem dX0_statement_317 : decode cX0_statement 317 = .ok (.ldc2_w 126, 3) := by decide +kernel
theorem dX0_statement_320 : decode cX0_statement 320 = .ok (.invokevirtual 208, 3) := by decide +kernel
theorem dX0_statement_323 : decode cX0_statement 323 = .ok (.ifCond .eq 7, 3) := by decide +kernel
theorem dX0_statement_326 : decode cX0_statement 326 = .ok (.iconst 1, 1) := by decide +kernel
theorem dX0_statement_327 : decode cX0_statement 327 = .ok (.goto 4, 3) := by decide +kernel
theorem dX0_statement_330 : decode cX0_statement 330 = .ok (.iconst 0, 1) := by decide +kernel
theorem dX0_statement_331 : decode cX0_statement 331 = .ok (.ireturn, 1) := by decide +kernel
theorem dX0_statement_332 : decode cX0_statement 332 = .ok (.aload_n 0, 1) := by decide +kernel
theorem dX0_statement_333 : decode cX0_statement 333 = .ok (.aload_n 1, 1) := by decide +kernel
theorem dX0_statement_334 : decode cX0_statement 334 = .ok (.getfield 150, 3) := by decide +kernel
theorem dX0_statement_337 : decode cX0_statement 337 = .ok (.invokevirtual 268, 3) := by decide +kernel
theorem dX0_statement_340 : decode cX0_statement 340 = .ok (.ifCond .eq 15, 3) := by decide +kernel
theorem dX0_statement_343 : decode cX0_statement 343 = .ok (.aload_n 0, 1) := by decide +kernel
theorem dX0_statement_344 : decode cX0_statement 344 = .ok (.aload_n 1, 1) := by decide +kernel
theorem dX0_statement_345 : decode cX0_statement 345 = .ok (.invokevirtual 271, 3) := by decide +kernel
theorem dX0_statement_348 : decode cX0_statement 348 = .ok (.ifCond .eq 7, 3) := by decide +kernel
theorem dX0_statement_351 : decode cX0_statement 351 = .ok (.iconst 1, 1) := by decide +kernel
theorem dX0_statement_352 : decode cX0_statement 352 = .ok (.goto 4, 3) := by decide +kernel
theorem dX0_statement_355 : decode cX0_statement 355 = .ok (.iconst 0, 1) := by decide +kernel
theorem dX0_statement_356 : decode cX0_statement 356 = .ok (.ireturn, 1) := by decide +kernel
theorem dX0_statement_357 : decode cX0_statement 357 = .ok (.aload_n 0, 1) := by decide +kernel
theorem dX0_statement_358 : decode cX0_statement 358 = .ok (.aload_n 1, 1) := by decide +kernel
theorem dX0_statement_359 : decode cX0_statement 359 = .ok (.getfield 150, 3) := by decide +kernel
theorem dX0_statement_362 : decode cX0_statement 362 = .ok (.invokevirtual 205, 3) := by decide +kernel
theorem dX0_statement_365 : decode cX0_statement 365 = .ok (.ifCond .eq 26, 3) := by decide +kernel
theorem dX0_statement_368 : decode cX0_statement 368 = .ok (.aload_n 0, 1) := by decide +kernel
theorem dX0_statement_369 : decode cX0_statement 369 = .ok (.aload_n 1, 1) := by decide +kernel
theorem dX0_statement_370 : decode cX0_statement 370 = .ok (.getfield 185, 3) := by decide +kernel
theorem dX0_statement_373 : decode cX0_statement 373 = .ok (.invokevirtual 205, 3) := by decide +kernel
theorem dX0_statement_376 : decode cX0_statement 376 = .ok (.ifCond .eq 15, 3) := by decide +kernel
theorem dX0_statement_379 : decode cX0_statement 379 = .ok (.aload_n 0, 1) := by decide +kernel
theorem dX0_statement_380 : decode cX0_statement 380 = .ok (.aload_n 1, 1) := by decide +kernel
theorem dX0_statement_381 : decode cX0_statement 381 = .ok (.invokevirtual 274, 3) := by decide +kernel
theorem dX0_statement_384 : decode cX0_statement 384 = .ok (.ifCond .eq 7, 3) := by decide +kernel
theorem dX0_statement_387 : decode cX0_statement 387 = .ok (.iconst 1, 1) := by decide +kernel
theorem dX0_statement_388 : decode cX0_statement 388 = .ok (.goto 4, 3) := by decide +kernel
theorem dX0_statement_391 : decode cX0_statement 391 = .ok (.iconst 0, 1) := by decide +kernel
theorem dX0_statement_392 : decode cX0_statement 392 = .ok (.ireturn, 1) := by decide +kernel
theorem dX0_statement_393 : decode cX0_statement 393 = .ok (.aload_n 0, 1) := by decide +kernel
theorem dX0_statement_394 : decode cX0_statement 394 = .ok (.aload_n 1, 1) := by decide +kernel
theorem dX0_statement_395 : decode cX0_statement 395 = .ok (.getfield 150, 3) := by decide +kernel
theorem dX0_statement_398 : decode cX0_statement 398 = .ok (.invokevirtual 205, 3) := by decide +kernel
theorem dX0_statement_401 : decode cX0_statement 401 = .ok (.ifCond .eq 30, 3) := by decide +kernel
theorem dX0_statement_404 : decode cX0_statement 404 = .ok (.aload_n 1, 1) := by decide +kernel
theorem dX0_statement_405 : decode cX0_statement 405 = .ok (.getfield 150, 3) := by decide +kernel
theorem dX0_statement_408 : decode cX0_statement 408 = .ok (.invokestatic 277, 3) := by decide +kernel
theorem dX0_statement_411 : decode cX0_statement 411 = .ok (.ifCond .ne 16, 3) := by decide +kernel
theorem dX0_statement_414 : decode cX0_statement 414 = .ok (.aload_n 0, 1) := by decide +kernel
theorem dX0_statement_415 : decode cX0_statement 415 = .ok (.bipush 19, 2) := by decide +kernel
theorem dX0_statement_417 : decode cX0_statement 417 = .ok (.aload_n 1, 1) := by decide +kernel
theorem dX0_statement_418 : decode cX0_statement 418 = .ok (.getfield 162, 3) := by decide +kernel
theorem dX0_statement_421 : decode cX0_statement 421 = .ok (.invokevirtual 113, 3) := by decide +kernel
theorem dX0_statement_424 : decode cX0_statement 424 = .ok (.ifCond .eq 7, 3) := by decide +kernel
theorem dX0_statement_427 : decode cX0_statement 427 = .ok (.iconst 1, 1) := by decide +kernel
theorem dX0_statement_428 : decode cX0_statement 428 = .ok (.goto 4, 3) := by decide +kernel
theorem dX0_statement_431 : decode cX0_statement 431 = .ok (.iconst 0, 1) := by decide +kernel
theorem dX0_statement_432 : decode cX0_statement 432 = .ok (.ireturn, 1) := by decide +kernel
theorem dX0_let_0 : decode cX0_let 0 = .ok (.aload_n 1, 1) := by decide +kernel
theorem dX0_let_1 : decode cX0_let 1 = .ok (.getfield 150, 3) := by decide +kernel
theorem dX0_let_4 : decode cX0_let 4 = .ok (.ifnull 18, 3) := by decide +kernel
theorem dX0_let_7 : decode cX0_let 7 = .ok (.aload_n 0, 1) := by decide +kernel
theorem dX0_let_8 : decode cX0_let 8 = .ok (.aload_n 1, 1) := by decide +kernel
theorem dX0_let_9 : decode cX0_let 9 = .ok (.getfield 150, 3) := by decide +kernel
theorem dX0_let_12 : decode cX0_let 12 = .ok (.aload_n 1, 1) := by decide +kernel
theorem dX0_let_13 : decode cX0_let 13 = .ok (.getfield 245, 3) := by decide +kernel
theorem dX0_let_16 : decode cX0_let 16 = .ok (.invokevirtual 208, 3) := by decide +kernel
theorem dX0_let_19 : decode cX0_let 19 = .ok (.ifCond .ne 5, 3) := by decide +kernel
theorem dX0_let_22 : decode cX0_let 22 = .ok (.iconst 0, 1) := by decide +kernel
theorem dX0_let_23 : decode cX0_let 23 = .ok (.ireturn, 1) := by decide +kernel
theorem dX0_let_24 : decode cX0_let 24 = .ok (.aload_n 1, 1) := by decide +kernel
theorem dX0_let_25 : decode cX0_let 25 = .ok (.aload_n 0, 1) := by decide +kernel
theorem dX0_let_26 : decode cX0_let 26 = .ok (.aload_n 1, 1) := by decide +kernel
theorem dX0_let_27 : decode cX0_let 27 = .ok (.getfield 245, 3) := by decide +kernel
theorem dX0_let_30 : decode cX0_let 30 = .ok (.aload_n 0, 1) := by decide +kernel
theorem dX0_let_31 : decode cX0_let 31 = .ok (.getfield 43, 3) := by decide +kernel
theorem dX0_let_34 : decode cX0_let 34 = .ok (.getfield 157, 3) := by decide +kernel
theorem dX0_let_37 : decode cX0_let 37 = .ok (.aload_n 1, 1) := by decide +kernel
theorem dX0_let_38 : decode cX0_let 38 = .ok (.getfield 162, 3) := by decide +kernel
theorem dX0_let_41 : decode cX0_let 41 = .ok (.iconst 2, 1) := by decide +kernel
theorem dX0_let_42 : decode cX0_let 42 = .ok (.iadd, 1) := by decide +kernel
theorem dX0_let_43 : decode cX0_let 43 = .ok (.laload, 1) := by decide +kernel
theorem dX0_let_44 : decode cX0_let 44 = .ok (.aload_n 1, 1) := by decide +kernel
theorem dX0_let_45 : decode cX0_let 45 = .ok (.getfield 162, 3) := by decide +kernel
theorem dX0_let_48 : decode cX0_let 48 = .ok (.iconst 2, 1) := by decide +kernel
theorem dX0_let_49 : decode cX0_let 49 = .ok (.iadd, 1) := by decide +kernel
theorem dX0_let_50 : decode cX0_let 50 = .ok (.invokevirtual 219, 3) := by decide +kernel
theorem dX0_let_53 : decode cX0_let 53 = .ok (.putfield 280, 3) := by decide +kernel
theorem dX0_let_56 : decode cX0_let 56 = .ok (.aload_n 0, 1) := by decide +kernel
theorem dX0_let_57 : decode cX0_let 57 = .ok (.getfield 28, 3) := by decide +kernel
theorem dX0_let_60 : decode cX0_let 60 = .ok (.ifCond .ne 7, 3) := by decide +kernel
theorem dX0_let_63 : decode cX0_let 63 = .ok (.iconst 1, 1) := by decide +kernel
theorem dX0_let_64 : decode cX0_let 64 = .ok (.goto 4, 3) := by decide +kernel
theorem dX0_let_67 : decode cX0_let 67 = .ok (.iconst 0, 1) := by decide +kernel
theorem dX0_let_68 : decode cX0_let 68 = .ok (.ireturn, 1) := by decide +kernel
theorem dX0_returned_0 : decode cX0_returned 0 = .ok (.aload_n 0, 1) := by decide +kernel
theorem dX0_returned_1 : decode cX0_returned 1 = .ok (.getfield 194, 3) := by decide +kernel
theorem dX0_returned_4 : decode cX0_returned 4 = .ok (.getfield 94, 3) := by decide +kernel
theorem dX0_returned_7 : decode cX0_returned 7 = .ok (.iconst 1, 1) := by decide +kernel
theorem dX0_returned_8 : decode cX0_returned 8 = .ok (.if_icmp .ne 21, 3) := by decide +kernel
theorem dX0_returned_11 : decode cX0_returned 11 = .ok (.aload_n 0, 1) := by decide +kernel
theorem dX0_returned_12 : decode cX0_returned 12 = .ok (.getfield 194, 3) := by decide +kernel
theorem dX0_returned_15 : decode cX0_returned 15 = .ok (.getfield 123, 3) := by decide +kernel
theorem dX0_returned_18 : decode cX0_returned 18 = .ok (.ldc2_w 230, 3) := by decide +kernel
theorem dX0_returned_21 : decode cX0_returned 21 = .ok (.lcmp, 1) := by decide +kernel
theorem dX0_returned_22 : decode cX0_returned 22 = .ok (.ifCond .eq 7, 3) := by decide +kernel
theorem dX0_returned_25 : decode cX0_returned 25 = .ok (.iconst 1, 1) := by decide +kernel
theorem dX0_returned_26 : decode cX0_returned 26 = .ok (.goto 4, 3) := by decide +kernel
theorem dX0_returned_29 : decode cX0_returned 29 = .ok (.iconst 0, 1) := by decide +kernel
theorem dX0_returned_30 : decode cX0_returned 30 = .ok (.istore_n 2, 1) := by decide +kernel
theorem dX0_returned_31 : decode cX0_returned 31 = .ok (.aload_n 0, 1) := by decide +kernel
theorem dX0_returned_32 : decode cX0_returned 32 = .ok (.getfield 194, 3) := by decide +kernel
theorem dX0_returned_35 : decode cX0_returned 35 = .ok (.getfield 94, 3) := by decide +kernel
theorem dX0_returned_38 : decode cX0_returned 38 = .ok (.iconst 3, 1) := by decide +kernel
theorem dX0_returned_39 : decode cX0_returned 39 = .ok (.if_icmp .eq 19, 3) := by decide +kernel
theorem dX0_returned_42 : decode cX0_returned 42 = .ok (.iload_n 2, 1) := by decide +kernel
theorem dX0_returned_43 : decode cX0_returned 43 = .ok (.aload_n 1, 1) := by decide +kernel
theorem dX0_returned_44 : decode cX0_returned 44 = .ok (.getfield 150, 3) := by decide +kernel
theorem dX0_returned_47 : decode cX0_returned 47 = .ok (.ifnull 7, 3) := by decide +kernel
theorem dX0_returned_50 : decode cX0_returned 50 = .ok (.iconst 1, 1) := by decide +kernel
theorem dX0_returned_51 : decode cX0_returned 51 = .ok (.goto 4, 3) := by decide +kernel
theorem dX0_returned_54 : decode cX0_returned 54 = .ok (.iconst 0, 1) := by decide +kernel
theorem dX0_returned_55 : decode cX0_returned 55 = .ok (.if_icmp .eq 14, 3) := by decide +kernel
theorem dX0_returned_58 : decode cX0_returned 58 = .ok (.aload_n 0, 1) := by decide +kernel
theorem dX0_returned_59 : decode cX0_returned 59 = .ok (.bipush 17, 2) := by decide +kernel
theorem dX0_returned_61 : decode cX0_returned 61 = .ok (.aload_n 1, 1) := by decide +kernel
theorem dX0_returned_62 : decode cX0_returned 62 = .ok (.getfield 162, 3) := by decide +kernel
theorem dX0_returned_65 : decode cX0_returned 65 = .ok (.invokevirtual 113, 3) := by decide +kernel
theorem dX0_returned_68 : decode cX0_returned 68 = .ok (.ireturn, 1) := by decide +kernel
theorem dX0_returned_69 : decode cX0_returned 69 = .ok (.aload_n 1, 1) := by decide +kernel
theorem dX0_returned_70 : decode cX0_returned 70 = .ok (.getfield 150, 3) := by decide +kernel
theorem dX0_returned_73 : decode cX0_returned 73 = .ok (.ifnull 21, 3) := by decide +kernel
theorem dX0_returned_76 : decode cX0_returned 76 = .ok (.aload_n 0, 1) := by decide +kernel
theorem dX0_returned_77 : decode cX0_returned 77 = .ok (.aload_n 1, 1) := by decide +kernel
theorem dX0_returned_78 : decode cX0_returned 78 = .ok (.getfield 150, 3) := by decide +kernel
theorem dX0_returned_81 : decode cX0_returned 81 = .ok (.aload_n 0, 1) := by decide +kernel
theorem dX0_returned_82 : decode cX0_returned 82 = .ok (.getfield 194, 3) := by decide +kernel
theorem dX0_returned_85 : decode cX0_returned 85 = .ok (.getfield 123, 3) := by decide +kernel
theorem dX0_returned_88 : decode cX0_returned 88 = .ok (.invokevirtual 208, 3) := by decide +kernel
theorem dX0_returned_91 : decode cX0_returned 91 = .ok (.ifCond .eq 7, 3) := by decide +kernel
theorem dX0_returned_94 : decode cX0_returned 94 = .ok (.iconst 1, 1) := by decide +kernel
theorem dX0_returned_95 : decode cX0_returned 95 = .ok (.goto 4, 3) := by decide +kernel
theorem dX0_returned_98 : decode cX0_returned 98 = .ok (.iconst 0, 1) := by decide +kernel
theorem dX0_returned_99 : decode cX0_returned 99 = .ok (.ireturn, 1) := by decide +kernel
theorem dX0_tried_0 : decode cX0_tried 0 = .ok (.aload_n 0, 1) := by decide +kernel
theorem dX0_tried_1 : decode cX0_tried 1 = .ok (.aload_n 1, 1) := by decide +kernel
theorem dX0_tried_2 : decode cX0_tried 2 = .ok (.getfield 150, 3) := by decide +kernel
theorem dX0_tried_5 : decode cX0_tried 5 = .ok (.invokevirtual 227, 3) := by decide +kernel
theorem dX0_tried_8 : decode cX0_tried 8 = .ok (.ifCond .ne 5, 3) := by decide +kernel
theorem dX0_tried_11 : decode cX0_tried 11 = .ok (.iconst 0, 1) := by decide +kernel
theorem dX0_tried_12 : decode cX0_tried 12 = .ok (.ireturn, 1) := by decide +kernel
theorem dX0_tried_13 : decode cX0_tried 13 = .ok (.aload_n 0, 1) := by decide +kernel
theorem dX0_tried_14 : decode cX0_tried 14 = .ok (.aload_n 1, 1) := by decide +kernel
theorem dX0_tried_15 : decode cX0_tried 15 = .ok (.getfield 147, 3) := by decide +kernel
theorem dX0_tried_18 : decode cX0_tried 18 = .ok (.aload_n 1, 1) := by decide +kernel
theorem dX0_tried_19 : decode cX0_tried 19 = .ok (.getfield 168, 3) := by decide +kernel
theorem dX0_tried_22 : decode cX0_tried 22 = .ok (.invokevirtual 253, 3) := by decide +kernel
theorem dX0_tried_25 : decode cX0_tried 25 = .ok (.istore_n 2, 1) := by decide +kernel
theorem dX0_tried_26 : decode cX0_tried 26 = .ok (.iload_n 2, 1) := by decide +kernel
theorem dX0_tried_27 : decode cX0_tried 27 = .ok (.ifCond .ge 5, 3) := by decide +kernel
theorem dX0_tried_30 : decode cX0_tried 30 = .ok (.iconst 0, 1) := by decide +kernel
theorem dX0_tried_31 : decode cX0_tried 31 = .ok (.ireturn, 1) := by decide +kernel
theorem dX0_tried_32 : decode cX0_tried 32 = .ok (.aload_n 0, 1) := by decide +kernel
theorem dX0_tried_33 : decode cX0_tried 33 = .ok (.getfield 35, 3) := by decide +kernel
theorem dX0_tried_36 : decode cX0_tried 36 = .ok (.aload_n 1, 1) := by decide +kernel
theorem dX0_tried_37 : decode cX0_tried 37 = .ok (.getfield 147, 3) := by decide +kernel
theorem dX0_tried_40 : decode cX0_tried 40 = .ok (.ldc2_w 263, 3) := by decide +kernel
theorem dX0_tried_43 : decode cX0_tried 43 = .ok (.invokevirtual 246, 3) := by decide +kernel
theorem dX0_tried_46 : decode cX0_tried 46 = .ok (.ifCond .ne 14, 3) := by decide +kernel
theorem dX0_tried_49 : decode cX0_tried 49 = .ok (.aload_n 0, 1) := by decide +kernel
theorem dX0_tried_50 : decode cX0_tried 50 = .ok (.bipush 13, 2) := by decide +kernel
theorem dX0_tried_52 : decode cX0_tried 52 = .ok (.aload_n 1, 1) := by decide +kernel
theorem dX0_tried_53 : decode cX0_tried 53 = .ok (.getfield 168, 3) := by decide +kernel
theorem dX0_tried_56 : decode cX0_tried 56 = .ok (.invokevirtual 113, 3) := by decide +kernel
theorem dX0_tried_59 : decode cX0_tried 59 = .ok (.ireturn, 1) := by decide +kernel
theorem dX0_tried_60 : decode cX0_tried 60 = .ok (.aload_n 0, 1) := by decide +kernel
theorem dX0_tried_61 : decode cX0_tried 61 = .ok (.getfield 199, 3) := by decide +kernel
theorem dX0_tried_64 : decode cX0_tried 64 = .ok (.istore_n 3, 1) := by decide +kernel
theorem dX0_tried_65 : decode cX0_tried 65 = .ok (.aload_n 1, 1) := by decide +kernel
theorem dX0_tried_66 : decode cX0_tried 66 = .ok (.aload_n 0, 1) := by decide +kernel
theorem dX0_tried_67 : decode cX0_tried 67 = .ok (.aload_n 1, 1) := by decide +kernel
theorem dX0_tried_68 : decode cX0_tried 68 = .ok (.getfield 147, 3) := by decide +kernel
theorem dX0_tried_71 : decode cX0_tried 71 = .ok (.aload_n 0, 1) := by decide +kernel
theorem dX0_tried_72 : decode cX0_tried 72 = .ok (.getfield 43, 3) := by decide +kernel
theorem dX0_tried_75 : decode cX0_tried 75 = .ok (.getfield 157, 3) := by decide +kernel
theorem dX0_tried_78 : decode cX0_tried 78 = .ok (.aload_n 1, 1) := by decide +kernel
theorem dX0_tried_79 : decode cX0_tried 79 = .ok (.getfield 168, 3) := by decide +kernel
theorem dX0_tried_82 : decode cX0_tried 82 = .ok (.iconst 1, 1) := by decide +kernel
theorem dX0_tried_83 : decode cX0_tried 83 = .ok (.iadd, 1) := by decide +kernel
theorem dX0_tried_84 : decode cX0_tried 84 = .ok (.laload, 1) := by decide +kernel
theorem dX0_tried_85 : decode cX0_tried 85 = .ok (.aload_n 1, 1) := by decide +kernel
theorem dX0_tried_86 : decode cX0_tried 86 = .ok (.getfield 168, 3) := by decide +kernel
theorem dX0_tried_89 : decode cX0_tried 89 = .ok (.iconst 1, 1) := by decide +kernel
theorem dX0_tried_90 : decode cX0_tried 90 = .ok (.iadd, 1) := by decide +kernel
theorem dX0_tried_91 : decode cX0_tried 91 = .ok (.invokevirtual 219, 3) := by decide +kernel
theorem dX0_tried_94 : decode cX0_tried 94 = .ok (.putfield 280, 3) := by decide +kernel
theorem dX0_tried_97 : decode cX0_tried 97 = .ok (.aload_n 0, 1) := by decide +kernel
theorem dX0_tried_98 : decode cX0_tried 98 = .ok (.getfield 28, 3) := by decide +kernel
theorem dX0_tried_101 : decode cX0_tried 101 = .ok (.ifCond .ne 18, 3) := by decide +kernel
theorem dX0_tried_104 : decode cX0_tried 104 = .ok (.aload_n 0, 1) := by decide +kernel
theorem dX0_tried_105 : decode cX0_tried 105 = .ok (.aload_n 1, 1) := by decide +kernel
theorem dX0_tried_106 : decode cX0_tried 106 = .ok (.getfield 185, 3) := by decide +kernel
theorem dX0_tried_109 : decode cX0_tried 109 = .ok (.invokevirtual 227, 3) := by decide +kernel
theorem dX0_tried_112 : decode cX0_tried 112 = .ok (.ifCond .eq 7, 3) := by decide +kernel
theorem dX0_tried_115 : decode cX0_tried 115 = .ok (.iconst 1, 1) := by decide +kernel
theorem dX0_tried_116 : decode cX0_tried 116 = .ok (.goto 4, 3) := by decide +kernel
theorem dX0_tried_119 : decode cX0_tried 119 = .ok (.iconst 0, 1) := by decide +kernel
theorem dX0_tried_120 : decode cX0_tried 120 = .ok (.istore 4, 2) := by decide +kernel
theorem dX0_tried_122 : decode cX0_tried 122 = .ok (.aload_n 0, 1) := by decide +kernel
theorem dX0_tried_123 : decode cX0_tried 123 = .ok (.iload_n 3, 1) := by decide +kernel
theorem dX0_tried_124 : decode cX0_tried 124 = .ok (.putfield 199, 3) := by decide +kernel
theorem dX0_tried_127 : decode cX0_tried 127 = .ok (.iload 4, 2) := by decide +kernel
theorem dX0_tried_129 : decode cX0_tried 129 = .ok (.ireturn, 1) := by decide +kernel
theorem dX0_superMaker_0 : decode cX0_superMaker 0 = .ok (.aload_n 0, 1) := by decide +kernel
theorem dX0_superMaker_1 : decode cX0_superMaker 1 = .ok (.getfield 194, 3) := by decide +kernel
theorem dX0_superMaker_4 : decode cX0_superMaker 4 = .ok (.getfield 94, 3) := by decide +kernel
theorem dX0_superMaker_7 : decode cX0_superMaker 7 = .ok (.iconst 2, 1) := by decide +kernel
theorem dX0_superMaker_8 : decode cX0_superMaker 8 = .ok (.if_icmp .ne 31, 3) := by decide +kernel
theorem dX0_superMaker_11 : decode cX0_superMaker 11 = .ok (.aload_n 0, 1) := by decide +kernel
theorem dX0_superMaker_12 : decode cX0_superMaker 12 = .ok (.getfield 194, 3) := by decide +kernel
theorem dX0_superMaker_15 : decode cX0_superMaker 15 = .ok (.getfield 128, 3) := by decide +kernel
theorem dX0_superMaker_18 : decode cX0_superMaker 18 = .ok (.ifnull 21, 3) := by decide +kernel
theorem dX0_superMaker_21 : decode cX0_superMaker 21 = .ok (.aload_n 0, 1) := by decide +kernel
theorem dX0_superMaker_22 : decode cX0_superMaker 22 = .ok (.getfield 194, 3) := by decide +kernel
theorem dX0_superMaker_25 : decode cX0_superMaker 25 = .ok (.getfield 128, 3) := by decide +kernel
theorem dX0_superMaker_28 : decode cX0_superMaker 28 = .ok (.getfield 150, 3) := by decide +kernel
theorem dX0_superMaker_31 : decode cX0_superMaker 31 = .ok (.aload_n 1, 1) := by decide +kernel
theorem dX0_superMaker_32 : decode cX0_superMaker 32 = .ok (.if_acmp .ne 7, 3) := by decide +kernel
theorem dX0_superMaker_35 : decode cX0_superMaker 35 = .ok (.iconst 1, 1) := by decide +kernel
theorem dX0_superMaker_36 : decode cX0_superMaker 36 = .ok (.goto 4, 3) := by decide +kernel
theorem dX0_superMaker_39 : decode cX0_superMaker 39 = .ok (.iconst 0, 1) := by decide +kernel
theorem dX0_superMaker_40 : decode cX0_superMaker 40 = .ok (.istore_n 2, 1) := by decide +kernel
theorem dX0_superMaker_41 : decode cX0_superMaker 41 = .ok (.aload_n 1, 1) := by decide +kernel
theorem dX0_superMaker_42 : decode cX0_superMaker 42 = .ok (.iload_n 2, 1) := by decide +kernel
theorem dX0_superMaker_43 : decode cX0_superMaker 43 = .ok (.ifCond .eq 30, 3) := by decide +kernel
theorem dX0_superMaker_46 : decode cX0_superMaker 46 = .ok (.aload_n 0, 1) := by decide +kernel
theorem dX0_superMaker_47 : decode cX0_superMaker 47 = .ok (.aload_n 0, 1) := by decide +kernel
theorem dX0_superMaker_48 : decode cX0_superMaker 48 = .ok (.getfield 35, 3) := by decide +kernel
theorem dX0_superMaker_51 : decode cX0_superMaker 51 = .ok (.getfield 101, 3) := by decide +kernel
theorem dX0_superMaker_54 : decode cX0_superMaker 54 = .ok (.aload_n 0, 1) := by decide +kernel
theorem dX0_superMaker_55 : decode cX0_superMaker 55 = .ok (.getfield 72, 3) := by decide +kernel
theorem dX0_superMaker_58 : decode cX0_superMaker 58 = .ok (.iaload, 1) := by decide +kernel
theorem dX0_superMaker_59 : decode cX0_superMaker 59 = .ok (.ldc2_w 104, 3) := by decide +kernel
theorem dX0_superMaker_62 : decode cX0_superMaker 62 = .ok (.aload_n 1, 1) := by decide +kernel
theorem dX0_superMaker_63 : decode cX0_superMaker 63 = .ok (.getfield 150, 3) := by decide +kernel
theorem dX0_superMaker_66 : decode cX0_superMaker 66 = .ok (.iconst 1, 1) := by decide +kernel
theorem dX0_superMaker_67 : decode cX0_superMaker 67 = .ok (.invokevirtual 106, 3) := by decide +kernel
theorem dX0_superMaker_70 : decode cX0_superMaker 70 = .ok (.goto 4, 3) := by decide +kernel
theorem dX0_superMaker_73 : decode cX0_superMaker 73 = .ok (.aconst_null, 1) := by decide +kernel
theorem dX0_superMaker_74 : decode cX0_superMaker 74 = .ok (.putfield 283, 3) := by decide +kernel
theorem dX0_superMaker_77 : decode cX0_superMaker 77 = .ok (.aload_n 1, 1) := by decide +kernel
theorem dX0_superMaker_78 : decode cX0_superMaker 78 = .ok (.aload_n 0, 1) := by decide +kernel
theorem dX0_superMaker_79 : decode cX0_superMaker 79 = .ok (.getfield 56, 3) := by decide +kernel
theorem dX0_superMaker_82 : decode cX0_superMaker 82 = .ok (.getfield 284, 3) := by decide +kernel
theorem dX0_superMaker_85 : decode cX0_superMaker 85 = .ok (.putfield 147, 3) := by decide +kernel
theorem dX0_superMaker_88 : decode cX0_superMaker 88 = .ok (.aload_n 1, 1) := by decide +kernel
theorem dX0_superMaker_89 : decode cX0_superMaker 89 = .ok (.getfield 283, 3) := by decide +kernel
theorem dX0_superMaker_92 : decode cX0_superMaker 92 = .ok (.ifnonnull 16, 3) := by decide +kernel
theorem dX0_superMaker_95 : decode cX0_superMaker 95 = .ok (.aload_n 0, 1) := by decide +kernel
theorem dX0_superMaker_96 : decode cX0_superMaker 96 = .ok (.bipush 18, 2) := by decide +kernel
theorem dX0_superMaker_98 : decode cX0_superMaker 98 = .ok (.aload_n 1, 1) := by decide +kernel
theorem dX0_superMaker_99 : decode cX0_superMaker 99 = .ok (.getfield 162, 3) := by decide +kernel
theorem dX0_superMaker_102 : decode cX0_superMaker 102 = .ok (.invokevirtual 113, 3) := by decide +kernel
theorem dX0_superMaker_105 : decode cX0_superMaker 105 = .ok (.ifCond .eq 7, 3) := by decide +kernel
theorem dX0_superMaker_108 : decode cX0_superMaker 108 = .ok (.iconst 1, 1) := by decide +kernel
theorem dX0_superMaker_109 : decode cX0_superMaker 109 = .ok (.goto 4, 3) := by decide +kernel
theorem dX0_superMaker_112 : decode cX0_superMaker 112 = .ok (.iconst 0, 1) := by decide +kernel
theorem dX0_superMaker_113 : decode cX0_superMaker 113 = .ok (.ireturn, 1) := by decide +kernel
theorem dX0_isCall_0 : decode cX0_isCall 0 = .ok (.aload_n 0, 1) := by decide +kernel
theorem dX0_isCall_1 : decode cX0_isCall 1 = .ok (.getfield 144, 3) := by decide +kernel
theorem dX0_isCall_4 : decode cX0_isCall 4 = .ok (.bipush 13, 2) := by decide +kernel
theorem dX0_isCall_6 : decode cX0_isCall 6 = .ok (.if_icmp .ne 46, 3) := by decide +kernel
theorem dX0_isCall_9 : decode cX0_isCall 9 = .ok (.aload_n 0, 1) := by decide +kernel
theorem dX0_isCall_10 : decode cX0_isCall 10 = .ok (.getfield 185, 3) := by decide +kernel
theorem dX0_isCall_13 : decode cX0_isCall 13 = .ok (.astore_n 1, 1) := by decide +kernel
theorem dX0_isCall_14 : decode cX0_isCall 14 = .ok (.aload_n 0, 1) := by decide +kernel
theorem dX0_isCall_15 : decode cX0_isCall 15 = .ok (.getfield 185, 3) := by decide +kernel
theorem dX0_isCall_18 : decode cX0_isCall 18 = .ok (.astore_n 2, 1) := by decide +kernel
theorem dX0_isCall_19 : decode cX0_isCall 19 = .ok (.aload_n 2, 1) := by decide +kernel
theorem dX0_isCall_20 : decode cX0_isCall 20 = .ok (.ifnull 13, 3) := by decide +kernel
theorem dX0_isCall_23 : decode cX0_isCall 23 = .ok (.aload_n 2, 1) := by decide +kernel
theorem dX0_isCall_24 : decode cX0_isCall 24 = .ok (.astore_n 1, 1) := by decide +kernel
theorem dX0_isCall_25 : decode cX0_isCall 25 = .ok (.aload_n 2, 1) := by decide +kernel
theorem dX0_isCall_26 : decode cX0_isCall 26 = .ok (.getfield 191, 3) := by decide +kernel
theorem dX0_isCall_29 : decode cX0_isCall 29 = .ok (.astore_n 2, 1) := by decide +kernel
theorem dX0_isCall_30 : decode cX0_isCall 30 = .ok (.goto (-11), 3) := by decide +kernel
theorem dX0_isCall_33 : decode cX0_isCall 33 = .ok (.aload_n 1, 1) := by decide +kernel
theorem dX0_isCall_34 : decode cX0_isCall 34 = .ok (.ifnull 16, 3) := by decide +kernel
theorem dX0_isCall_37 : decode cX0_isCall 37 = .ok (.aload_n 1, 1) := by decide +kernel
theorem dX0_isCall_38 : decode cX0_isCall 38 = .ok (.getfield 144, 3) := by decide +kernel
theorem dX0_isCall_41 : decode cX0_isCall 41 = .ok (.bipush 15, 2) := by decide +kernel
theorem dX0_isCall_43 : decode cX0_isCall 43 = .ok (.if_icmp .ne 7, 3) := by decide +kernel
theorem dX0_isCall_46 : decode cX0_isCall 46 = .ok (.iconst 1, 1) := by decide +kernel
theorem dX0_isCall_47 : decode cX0_isCall 47 = .ok (.goto 4, 3) := by decide +kernel
theorem dX0_isCall_50 : decode cX0_isCall 50 = .ok (.iconst 0, 1) := by decide +kernel
theorem dX0_isCall_51 : decode cX0_isCall 51 = .ok (.ireturn, 1) := by decide +kernel
theorem dX0_isCall_52 : decode cX0_isCall 52 = .ok (.aload_n 0, 1) := by decide +kernel
theorem dX0_isCall_53 : decode cX0_isCall 53 = .ok (.getfield 144, 3) := by decide +kernel
theorem dX0_isCall_56 : decode cX0_isCall 56 = .ok (.iconst 5, 1) := by decide +kernel
theorem dX0_isCall_57 : decode cX0_isCall 57 = .ok (.if_icmp .eq 39, 3) := by decide +kernel
theorem dX0_isCall_60 : decode cX0_isCall 60 = .ok (.aload_n 0, 1) := by decide +kernel
theorem dX0_isCall_61 : decode cX0_isCall 61 = .ok (.getfield 144, 3) := by decide +kernel
theorem dX0_isCall_64 : decode cX0_isCall 64 = .ok (.bipush 7, 2) := by decide +kernel
theorem dX0_isCall_66 : decode cX0_isCall 66 = .ok (.if_icmp .eq 30, 3) := by decide +kernel
theorem dX0_isCall_69 : decode cX0_isCall 69 = .ok (.aload_n 0, 1) := by decide +kernel
theorem dX0_isCall_70 : decode cX0_isCall 70 = .ok (.getfield 144, 3) := by decide +kernel
theorem dX0_isCall_73 : decode cX0_isCall 73 = .ok (.bipush 8, 2) := by decide +kernel
theorem dX0_isCall_75 : decode cX0_isCall 75 = .ok (.if_icmp .eq 21, 3) := by decide +kernel
theorem dX0_isCall_78 : decode cX0_isCall 78 = .ok (.aload_n 0, 1) := by decide +kernel
theorem dX0_isCall_79 : decode cX0_isCall 79 = .ok (.getfield 144, 3) := by decide +kernel
theorem dX0_isCall_82 : decode cX0_isCall 82 = .ok (.bipush 9, 2) := by decide +kernel
theorem dX0_isCall_84 : decode cX0_isCall 84 = .ok (.if_icmp .eq 12, 3) := by decide +kernel
theorem dX0_isCall_87 : decode cX0_isCall 87 = .ok (.aload_n 0, 1) := by decide +kernel
theorem dX0_isCall_88 : decode cX0_isCall 88 = .ok (.getfield 144, 3) := by decide +kernel
theorem dX0_isCall_91 : decode cX0_isCall 91 = .ok (.bipush 10, 2) := by decide +kernel
theorem dX0_isCall_93 : decode cX0_isCall 93 = .ok (.if_icmp .ne 7, 3) := by decide +kernel
theorem dX0_isCall_96 : decode cX0_isCall 96 = .ok (.iconst 1, 1) := by decide +kernel
theorem dX0_isCall_97 : decode cX0_isCall 97 = .ok (.goto 4, 3) := by decide +kernel
theorem dX0_isCall_100 : decode cX0_isCall 100 = .ok (.iconst 0, 1) := by decide +kernel
theorem dX0_isCall_101 : decode cX0_isCall 101 = .ok (.ireturn, 1) := by decide +kernel
theorem dX0_target_0 : decode cX0_target 0 = .ok (.aload_n 0, 1) := by decide +kernel
theorem dX0_target_1 : decode cX0_target 1 = .ok (.getfield 144, 3) := by decide +kernel
theorem dX0_target_4 : decode cX0_target 4 = .ok (.iconst 4, 1) := by decide +kernel
theorem dX0_target_5 : decode cX0_target 5 = .ok (.if_icmp .eq 12, 3) := by decide +kernel
theorem dX0_target_8 : decode cX0_target 8 = .ok (.aload_n 0, 1) := by decide +kernel
theorem dX0_target_9 : decode cX0_target 9 = .ok (.getfield 144, 3) := by decide +kernel
theorem dX0_target_12 : decode cX0_target 12 = .ok (.bipush 6, 2) := by decide +kernel
theorem dX0_target_14 : decode cX0_target 14 = .ok (.if_icmp .ne 5, 3) := by decide +kernel
theorem dX0_target_17 : decode cX0_target 17 = .ok (.aload_n 0, 1) := by decide +kernel
theorem dX0_target_18 : decode cX0_target 18 = .ok (.areturn, 1) := by decide +kernel
theorem dX0_target_19 : decode cX0_target 19 = .ok (.aload_n 0, 1) := by decide +kernel
theorem dX0_target_20 : decode cX0_target 20 = .ok (.getfield 144, 3) := by decide +kernel
theorem dX0_target_23 : decode cX0_target 23 = .ok (.bipush 13, 2) := by decide +kernel
theorem dX0_target_25 : decode cX0_target 25 = .ok (.if_icmp .ne 10, 3) := by decide +kernel
theorem dX0_target_28 : decode cX0_target 28 = .ok (.aload_n 0, 1) := by decide +kernel
theorem dX0_target_29 : decode cX0_target 29 = .ok (.getfield 185, 3) := by decide +kernel
theorem dX0_target_32 : decode cX0_target 32 = .ok (.goto 4, 3) := by decide +kernel
theorem dX0_target_35 : decode cX0_target 35 = .ok (.aconst_null, 1) := by decide +kernel

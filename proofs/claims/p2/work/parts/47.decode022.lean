theorem dX13_judgeOther_52 : decode cX13_judgeOther 52 = .ok (.aload_n 0, 1) := by decide +kernel
theorem dX13_judgeOther_53 : decode cX13_judgeOther 53 = .ok (.aload_n 0, 1) := by decide +kernel
theorem dX13_judgeOther_54 : decode cX13_judgeOther 54 = .ok (.getfield 194, 3) := by decide +kernel
theorem dX13_judgeOther_57 : decode cX13_judgeOther 57 = .ok (.iload_n 1, 1) := by decide +kernel
theorem dX13_judgeOther_58 : decode cX13_judgeOther 58 = .ok (.iaload, 1) := by decide +kernel
theorem dX13_judgeOther_59 : decode cX13_judgeOther 59 = .ok (.aload_n 0, 1) := by decide +kernel
theorem dX13_judgeOther_60 : decode cX13_judgeOther 60 = .ok (.aload_n 0, 1) := by decide +kernel
theorem dX13_judgeOther_61 : decode cX13_judgeOther 61 = .ok (.getfield 194, 3) := by decide +kernel
theorem dX13_judgeOther_64 : decode cX13_judgeOther 64 = .ok (.iload_n 1, 1) := by decide +kernel
theorem dX13_judgeOther_65 : decode cX13_judgeOther 65 = .ok (.iaload, 1) := by decide +kernel
theorem dX13_judgeOther_66 : decode cX13_judgeOther 66 = .ok (.invokevirtual 757, 3) := by decide +kernel
theorem dX13_judgeOther_69 : decode cX13_judgeOther 69 = .ok (.ldc2_w 524, 3) := by decide +kernel
theorem dX13_judgeOther_72 : decode cX13_judgeOther 72 = .ok (.invokevirtual 760, 3) := by decide +kernel
theorem dX13_judgeOther_75 : decode cX13_judgeOther 75 = .ok (.goto 226, 3) := by decide +kernel
theorem dX13_judgeOther_78 : decode cX13_judgeOther 78 = .ok (.aload_n 0, 1) := by decide +kernel
theorem dX13_judgeOther_79 : decode cX13_judgeOther 79 = .ok (.aload_n 0, 1) := by decide +kernel
theorem dX13_judgeOther_80 : decode cX13_judgeOther 80 = .ok (.getfield 194, 3) := by decide +kernel
theorem dX13_judgeOther_83 : decode cX13_judgeOther 83 = .ok (.iload_n 1, 1) := by decide +kernel
theorem dX13_judgeOther_84 : decode cX13_judgeOther 84 = .ok (.iaload, 1) := by decide +kernel
theorem dX13_judgeOther_85 : decode cX13_judgeOther 85 = .ok (.aload_n 0, 1) := by decide +kernel
theorem dX13_judgeOther_86 : decode cX13_judgeOther 86 = .ok (.aload_n 0, 1) := by decide +kernel
theorem dX13_judgeOther_87 : decode cX13_judgeOther 87 = .ok (.getfield 194, 3) := by decide +kernel
theorem dX13_judgeOther_90 : decode cX13_judgeOther 90 = .ok (.iload_n 1, 1) := by decide +kernel
theorem dX13_judgeOther_91 : decode cX13_judgeOther 91 = .ok (.iaload, 1) := by decide +kernel
theorem dX13_judgeOther_92 : decode cX13_judgeOther 92 = .ok (.invokevirtual 757, 3) := by decide +kernel
theorem dX13_judgeOther_95 : decode cX13_judgeOther 95 = .ok (.ldc2_w 43, 3) := by decide +kernel
theorem dX13_judgeOther_98 : decode cX13_judgeOther 98 = .ok (.invokevirtual 760, 3) := by decide +kernel
theorem dX13_judgeOther_101 : decode cX13_judgeOther 101 = .ok (.goto 200, 3) := by decide +kernel
theorem dX13_judgeOther_104 : decode cX13_judgeOther 104 = .ok (.aload_n 0, 1) := by decide +kernel
theorem dX13_judgeOther_105 : decode cX13_judgeOther 105 = .ok (.aload_n 0, 1) := by decide +kernel
theorem dX13_judgeOther_106 : decode cX13_judgeOther 106 = .ok (.getfield 194, 3) := by decide +kernel
theorem dX13_judgeOther_109 : decode cX13_judgeOther 109 = .ok (.iload_n 1, 1) := by decide +kernel
theorem dX13_judgeOther_110 : decode cX13_judgeOther 110 = .ok (.iaload, 1) := by decide +kernel
theorem dX13_judgeOther_111 : decode cX13_judgeOther 111 = .ok (.invokevirtual 796, 3) := by decide +kernel
theorem dX13_judgeOther_114 : decode cX13_judgeOther 114 = .ok (.aload_n 0, 1) := by decide +kernel
theorem dX13_judgeOther_115 : decode cX13_judgeOther 115 = .ok (.getfield 129, 3) := by decide +kernel
theorem dX13_judgeOther_118 : decode cX13_judgeOther 118 = .ok (.ifCond .ne 183, 3) := by decide +kernel
theorem dX13_judgeOther_121 : decode cX13_judgeOther 121 = .ok (.aload_n 0, 1) := by decide +kernel
theorem dX13_judgeOther_122 : decode cX13_judgeOther 122 = .ok (.getfield 402, 3) := by decide +kernel
theorem dX13_judgeOther_125 : decode cX13_judgeOther 125 = .ok (.aload_n 0, 1) := by decide +kernel
theorem dX13_judgeOther_126 : decode cX13_judgeOther 126 = .ok (.getfield 748, 3) := by decide +kernel
theorem dX13_judgeOther_129 : decode cX13_judgeOther 129 = .ok (.iaload, 1) := by decide +kernel
theorem dX13_judgeOther_130 : decode cX13_judgeOther 130 = .ok (.iconst 2, 1) := by decide +kernel
theorem dX13_judgeOther_131 : decode cX13_judgeOther 131 = .ok (.if_icmp .ne 25, 3) := by decide +kernel
theorem dX13_judgeOther_134 : decode cX13_judgeOther 134 = .ok (.aload_n 0, 1) := by decide +kernel
theorem dX13_judgeOther_135 : decode cX13_judgeOther 135 = .ok (.getfield 194, 3) := by decide +kernel
theorem dX13_judgeOther_138 : decode cX13_judgeOther 138 = .ok (.aload_n 0, 1) := by decide +kernel
theorem dX13_judgeOther_139 : decode cX13_judgeOther 139 = .ok (.getfield 368, 3) := by decide +kernel
theorem dX13_judgeOther_142 : decode cX13_judgeOther 142 = .ok (.aload_n 0, 1) := by decide +kernel
theorem dX13_judgeOther_143 : decode cX13_judgeOther 143 = .ok (.getfield 748, 3) := by decide +kernel
theorem dX13_judgeOther_146 : decode cX13_judgeOther 146 = .ok (.iaload, 1) := by decide +kernel
theorem dX13_judgeOther_147 : decode cX13_judgeOther 147 = .ok (.iaload, 1) := by decide +kernel
theorem dX13_judgeOther_148 : decode cX13_judgeOther 148 = .ok (.iload_n 1, 1) := by decide +kernel
theorem dX13_judgeOther_149 : decode cX13_judgeOther 149 = .ok (.if_icmp .ne 7, 3) := by decide +kernel
theorem dX13_judgeOther_152 : decode cX13_judgeOther 152 = .ok (.iconst 1, 1) := by decide +kernel
theorem dX13_judgeOther_153 : decode cX13_judgeOther 153 = .ok (.goto 4, 3) := by decide +kernel
theorem dX13_judgeOther_156 : decode cX13_judgeOther 156 = .ok (.iconst 0, 1) := by decide +kernel
theorem dX13_judgeOther_157 : decode cX13_judgeOther 157 = .ok (.istore_n 2, 1) := by decide +kernel
theorem dX13_judgeOther_158 : decode cX13_judgeOther 158 = .ok (.iload_n 2, 1) := by decide +kernel
theorem dX13_judgeOther_159 : decode cX13_judgeOther 159 = .ok (.ifCond .eq 24, 3) := by decide +kernel
theorem dX13_judgeOther_162 : decode cX13_judgeOther 162 = .ok (.aload_n 0, 1) := by decide +kernel
theorem dX13_judgeOther_163 : decode cX13_judgeOther 163 = .ok (.aload_n 0, 1) := by decide +kernel
theorem dX13_judgeOther_164 : decode cX13_judgeOther 164 = .ok (.aload_n 0, 1) := by decide +kernel
theorem dX13_judgeOther_165 : decode cX13_judgeOther 165 = .ok (.getfield 745, 3) := by decide +kernel
theorem dX13_judgeOther_168 : decode cX13_judgeOther 168 = .ok (.invokevirtual 558, 3) := by decide +kernel
theorem dX13_judgeOther_171 : decode cX13_judgeOther 171 = .ok (.aload_n 0, 1) := by decide +kernel
theorem dX13_judgeOther_172 : decode cX13_judgeOther 172 = .ok (.getfield 194, 3) := by decide +kernel
theorem dX13_judgeOther_175 : decode cX13_judgeOther 175 = .ok (.iload_n 1, 1) := by decide +kernel
theorem dX13_judgeOther_176 : decode cX13_judgeOther 176 = .ok (.iaload, 1) := by decide +kernel
theorem dX13_judgeOther_177 : decode cX13_judgeOther 177 = .ok (.invokevirtual 771, 3) := by decide +kernel
theorem dX13_judgeOther_180 : decode cX13_judgeOther 180 = .ok (.goto 5, 3) := by decide +kernel
theorem dX13_judgeOther_183 : decode cX13_judgeOther 183 = .ok (.bipush (-2), 2) := by decide +kernel
theorem dX13_judgeOther_185 : decode cX13_judgeOther 185 = .ok (.istore_n 3, 1) := by decide +kernel
theorem dX13_judgeOther_186 : decode cX13_judgeOther 186 = .ok (.iload_n 3, 1) := by decide +kernel
theorem dX13_judgeOther_187 : decode cX13_judgeOther 187 = .ok (.bipush (-2), 2) := by decide +kernel
theorem dX13_judgeOther_189 : decode cX13_judgeOther 189 = .ok (.if_icmp .ne 18, 3) := by decide +kernel
theorem dX13_judgeOther_192 : decode cX13_judgeOther 192 = .ok (.aload_n 0, 1) := by decide +kernel
theorem dX13_judgeOther_193 : decode cX13_judgeOther 193 = .ok (.bipush 18, 2) := by decide +kernel
theorem dX13_judgeOther_195 : decode cX13_judgeOther 195 = .ok (.aload_n 0, 1) := by decide +kernel
theorem dX13_judgeOther_196 : decode cX13_judgeOther 196 = .ok (.getfield 176, 3) := by decide +kernel
theorem dX13_judgeOther_199 : decode cX13_judgeOther 199 = .ok (.iload_n 1, 1) := by decide +kernel
theorem dX13_judgeOther_200 : decode cX13_judgeOther 200 = .ok (.iaload, 1) := by decide +kernel
theorem dX13_judgeOther_201 : decode cX13_judgeOther 201 = .ok (.invokevirtual 152, 3) := by decide +kernel
theorem dX13_judgeOther_204 : decode cX13_judgeOther 204 = .ok (.goto 9, 3) := by decide +kernel
theorem dX13_judgeOther_207 : decode cX13_judgeOther 207 = .ok (.aload_n 0, 1) := by decide +kernel
theorem dX13_judgeOther_208 : decode cX13_judgeOther 208 = .ok (.iload_n 1, 1) := by decide +kernel
theorem dX13_judgeOther_209 : decode cX13_judgeOther 209 = .ok (.iload_n 3, 1) := by decide +kernel
theorem dX13_judgeOther_210 : decode cX13_judgeOther 210 = .ok (.invokevirtual 822, 3) := by decide +kernel
theorem dX13_judgeOther_213 : decode cX13_judgeOther 213 = .ok (.goto 88, 3) := by decide +kernel
theorem dX13_judgeOther_216 : decode cX13_judgeOther 216 = .ok (.aload_n 0, 1) := by decide +kernel
theorem dX13_judgeOther_217 : decode cX13_judgeOther 217 = .ok (.aload_n 0, 1) := by decide +kernel
theorem dX13_judgeOther_218 : decode cX13_judgeOther 218 = .ok (.getfield 194, 3) := by decide +kernel
theorem dX13_judgeOther_221 : decode cX13_judgeOther 221 = .ok (.iload_n 1, 1) := by decide +kernel
theorem dX13_judgeOther_222 : decode cX13_judgeOther 222 = .ok (.iaload, 1) := by decide +kernel
theorem dX13_judgeOther_223 : decode cX13_judgeOther 223 = .ok (.invokevirtual 757, 3) := by decide +kernel
theorem dX13_judgeOther_226 : decode cX13_judgeOther 226 = .ok (.pop2, 1) := by decide +kernel
theorem dX13_judgeOther_227 : decode cX13_judgeOther 227 = .ok (.aload_n 0, 1) := by decide +kernel
theorem dX13_judgeOther_228 : decode cX13_judgeOther 228 = .ok (.getfield 173, 3) := by decide +kernel
theorem dX13_judgeOther_231 : decode cX13_judgeOther 231 = .ok (.aload_n 0, 1) := by decide +kernel
theorem dX13_judgeOther_232 : decode cX13_judgeOther 232 = .ok (.getfield 194, 3) := by decide +kernel
theorem dX13_judgeOther_235 : decode cX13_judgeOther 235 = .ok (.iload_n 1, 1) := by decide +kernel
theorem dX13_judgeOther_236 : decode cX13_judgeOther 236 = .ok (.iaload, 1) := by decide +kernel
theorem dX13_judgeOther_237 : decode cX13_judgeOther 237 = .ok (.iaload, 1) := by decide +kernel
theorem dX13_judgeOther_238 : decode cX13_judgeOther 238 = .ok (.istore_n 2, 1) := by decide +kernel
theorem dX13_judgeOther_239 : decode cX13_judgeOther 239 = .ok (.aload_n 0, 1) := by decide +kernel
theorem dX13_judgeOther_240 : decode cX13_judgeOther 240 = .ok (.getfield 129, 3) := by decide +kernel
theorem dX13_judgeOther_243 : decode cX13_judgeOther 243 = .ok (.ifCond .ne 58, 3) := by decide +kernel
theorem dX13_judgeOther_246 : decode cX13_judgeOther 246 = .ok (.iload_n 2, 1) := by decide +kernel
theorem dX13_judgeOther_247 : decode cX13_judgeOther 247 = .ok (.iconst 4, 1) := by decide +kernel
theorem dX13_judgeOther_248 : decode cX13_judgeOther 248 = .ok (.if_icmp .eq 53, 3) := by decide +kernel
theorem dX13_judgeOther_251 : decode cX13_judgeOther 251 = .ok (.iload_n 2, 1) := by decide +kernel
theorem dX13_judgeOther_252 : decode cX13_judgeOther 252 = .ok (.bipush 6, 2) := by decide +kernel
theorem dX13_judgeOther_254 : decode cX13_judgeOther 254 = .ok (.if_icmp .eq 47, 3) := by decide +kernel
theorem dX13_judgeOther_257 : decode cX13_judgeOther 257 = .ok (.iload_n 2, 1) := by decide +kernel
theorem dX13_judgeOther_258 : decode cX13_judgeOther 258 = .ok (.bipush 7, 2) := by decide +kernel
theorem dX13_judgeOther_260 : decode cX13_judgeOther 260 = .ok (.if_icmp .eq 41, 3) := by decide +kernel
theorem dX13_judgeOther_263 : decode cX13_judgeOther 263 = .ok (.iload_n 2, 1) := by decide +kernel
theorem dX13_judgeOther_264 : decode cX13_judgeOther 264 = .ok (.bipush 8, 2) := by decide +kernel
theorem dX13_judgeOther_266 : decode cX13_judgeOther 266 = .ok (.if_icmp .eq 35, 3) := by decide +kernel
theorem dX13_judgeOther_269 : decode cX13_judgeOther 269 = .ok (.iload_n 2, 1) := by decide +kernel
theorem dX13_judgeOther_270 : decode cX13_judgeOther 270 = .ok (.bipush 9, 2) := by decide +kernel
theorem dX13_judgeOther_272 : decode cX13_judgeOther 272 = .ok (.if_icmp .eq 29, 3) := by decide +kernel
theorem dX13_judgeOther_275 : decode cX13_judgeOther 275 = .ok (.iload_n 2, 1) := by decide +kernel
theorem dX13_judgeOther_276 : decode cX13_judgeOther 276 = .ok (.bipush 13, 2) := by decide +kernel
theorem dX13_judgeOther_278 : decode cX13_judgeOther 278 = .ok (.if_icmp .eq 23, 3) := by decide +kernel
theorem dX13_judgeOther_281 : decode cX13_judgeOther 281 = .ok (.aload_n 0, 1) := by decide +kernel
theorem dX13_judgeOther_282 : decode cX13_judgeOther 282 = .ok (.bipush 19, 2) := by decide +kernel
theorem dX13_judgeOther_284 : decode cX13_judgeOther 284 = .ok (.aload_n 0, 1) := by decide +kernel
theorem dX13_judgeOther_285 : decode cX13_judgeOther 285 = .ok (.getfield 176, 3) := by decide +kernel
theorem dX13_judgeOther_288 : decode cX13_judgeOther 288 = .ok (.iload_n 1, 1) := by decide +kernel
theorem dX13_judgeOther_289 : decode cX13_judgeOther 289 = .ok (.iaload, 1) := by decide +kernel
theorem dX13_judgeOther_290 : decode cX13_judgeOther 290 = .ok (.invokevirtual 152, 3) := by decide +kernel
theorem dX13_judgeOther_293 : decode cX13_judgeOther 293 = .ok (.goto 8, 3) := by decide +kernel
theorem dX13_judgeOther_296 : decode cX13_judgeOther 296 = .ok (.aload_n 0, 1) := by decide +kernel
theorem dX13_judgeOther_297 : decode cX13_judgeOther 297 = .ok (.iload_n 1, 1) := by decide +kernel
theorem dX13_judgeOther_298 : decode cX13_judgeOther 298 = .ok (.invokevirtual 860, 3) := by decide +kernel
theorem dX13_judgeOther_301 : decode cX13_judgeOther 301 = .ok (.return_, 1) := by decide +kernel
theorem dX13_judgeReturn_0 : decode cX13_judgeReturn 0 = .ok (.aload_n 0, 1) := by decide +kernel
theorem dX13_judgeReturn_1 : decode cX13_judgeReturn 1 = .ok (.getfield 194, 3) := by decide +kernel
theorem dX13_judgeReturn_4 : decode cX13_judgeReturn 4 = .ok (.iload_n 1, 1) := by decide +kernel
theorem dX13_judgeReturn_5 : decode cX13_judgeReturn 5 = .ok (.iaload, 1) := by decide +kernel
theorem dX13_judgeReturn_6 : decode cX13_judgeReturn 6 = .ok (.bipush (-2), 2) := by decide +kernel
theorem dX13_judgeReturn_8 : decode cX13_judgeReturn 8 = .ok (.if_icmp .ne 7, 3) := by decide +kernel
theorem dX13_judgeReturn_11 : decode cX13_judgeReturn 11 = .ok (.lconst 1, 1) := by decide +kernel
theorem dX13_judgeReturn_12 : decode cX13_judgeReturn 12 = .ok (.goto 13, 3) := by decide +kernel
theorem dX13_judgeReturn_15 : decode cX13_judgeReturn 15 = .ok (.aload_n 0, 1) := by decide +kernel
theorem dX13_judgeReturn_16 : decode cX13_judgeReturn 16 = .ok (.aload_n 0, 1) := by decide +kernel
theorem dX13_judgeReturn_17 : decode cX13_judgeReturn 17 = .ok (.getfield 194, 3) := by decide +kernel
theorem dX13_judgeReturn_20 : decode cX13_judgeReturn 20 = .ok (.iload_n 1, 1) := by decide +kernel
theorem dX13_judgeReturn_21 : decode cX13_judgeReturn 21 = .ok (.iaload, 1) := by decide +kernel
theorem dX13_judgeReturn_22 : decode cX13_judgeReturn 22 = .ok (.invokevirtual 757, 3) := by decide +kernel
theorem dX13_judgeReturn_25 : decode cX13_judgeReturn 25 = .ok (.lstore_n 2, 1) := by decide +kernel
theorem dX13_judgeReturn_26 : decode cX13_judgeReturn 26 = .ok (.aload_n 0, 1) := by decide +kernel
theorem dX13_judgeReturn_27 : decode cX13_judgeReturn 27 = .ok (.getfield 129, 3) := by decide +kernel
theorem dX13_judgeReturn_30 : decode cX13_judgeReturn 30 = .ok (.ifCond .eq 4, 3) := by decide +kernel
theorem dX13_judgeReturn_33 : decode cX13_judgeReturn 33 = .ok (.return_, 1) := by decide +kernel
theorem dX13_judgeReturn_34 : decode cX13_judgeReturn 34 = .ok (.aload_n 0, 1) := by decide +kernel
theorem dX13_judgeReturn_35 : decode cX13_judgeReturn 35 = .ok (.getfield 402, 3) := by decide +kernel
theorem dX13_judgeReturn_38 : decode cX13_judgeReturn 38 = .ok (.aload_n 0, 1) := by decide +kernel
theorem dX13_judgeReturn_39 : decode cX13_judgeReturn 39 = .ok (.getfield 748, 3) := by decide +kernel
theorem dX13_judgeReturn_42 : decode cX13_judgeReturn 42 = .ok (.iaload, 1) := by decide +kernel
theorem dX13_judgeReturn_43 : decode cX13_judgeReturn 43 = .ok (.iconst 1, 1) := by decide +kernel
theorem dX13_judgeReturn_44 : decode cX13_judgeReturn 44 = .ok (.if_icmp .ne 21, 3) := by decide +kernel
theorem dX13_judgeReturn_47 : decode cX13_judgeReturn 47 = .ok (.aload_n 0, 1) := by decide +kernel
theorem dX13_judgeReturn_48 : decode cX13_judgeReturn 48 = .ok (.getfield 359, 3) := by decide +kernel
theorem dX13_judgeReturn_51 : decode cX13_judgeReturn 51 = .ok (.aload_n 0, 1) := by decide +kernel
theorem dX13_judgeReturn_52 : decode cX13_judgeReturn 52 = .ok (.getfield 748, 3) := by decide +kernel
theorem dX13_judgeReturn_55 : decode cX13_judgeReturn 55 = .ok (.laload, 1) := by decide +kernel
theorem dX13_judgeReturn_56 : decode cX13_judgeReturn 56 = .ok (.lconst 1, 1) := by decide +kernel
theorem dX13_judgeReturn_57 : decode cX13_judgeReturn 57 = .ok (.lcmp, 1) := by decide +kernel
theorem dX13_judgeReturn_58 : decode cX13_judgeReturn 58 = .ok (.ifCond .eq 7, 3) := by decide +kernel
theorem dX13_judgeReturn_61 : decode cX13_judgeReturn 61 = .ok (.iconst 1, 1) := by decide +kernel
theorem dX13_judgeReturn_62 : decode cX13_judgeReturn 62 = .ok (.goto 4, 3) := by decide +kernel
theorem dX13_judgeReturn_65 : decode cX13_judgeReturn 65 = .ok (.iconst 0, 1) := by decide +kernel
theorem dX13_judgeReturn_66 : decode cX13_judgeReturn 66 = .ok (.istore 4, 2) := by decide +kernel
theorem dX13_judgeReturn_68 : decode cX13_judgeReturn 68 = .ok (.aload_n 0, 1) := by decide +kernel
theorem dX13_judgeReturn_69 : decode cX13_judgeReturn 69 = .ok (.getfield 402, 3) := by decide +kernel
theorem dX13_judgeReturn_72 : decode cX13_judgeReturn 72 = .ok (.aload_n 0, 1) := by decide +kernel
theorem dX13_judgeReturn_73 : decode cX13_judgeReturn 73 = .ok (.getfield 748, 3) := by decide +kernel
theorem dX13_judgeReturn_76 : decode cX13_judgeReturn 76 = .ok (.iaload, 1) := by decide +kernel
theorem dX13_judgeReturn_77 : decode cX13_judgeReturn 77 = .ok (.iconst 3, 1) := by decide +kernel
theorem dX13_judgeReturn_78 : decode cX13_judgeReturn 78 = .ok (.if_icmp .eq 24, 3) := by decide +kernel
theorem dX13_judgeReturn_81 : decode cX13_judgeReturn 81 = .ok (.iload 4, 2) := by decide +kernel
theorem dX13_judgeReturn_83 : decode cX13_judgeReturn 83 = .ok (.aload_n 0, 1) := by decide +kernel
theorem dX13_judgeReturn_84 : decode cX13_judgeReturn 84 = .ok (.getfield 194, 3) := by decide +kernel
theorem dX13_judgeReturn_87 : decode cX13_judgeReturn 87 = .ok (.iload_n 1, 1) := by decide +kernel
theorem dX13_judgeReturn_88 : decode cX13_judgeReturn 88 = .ok (.iaload, 1) := by decide +kernel
theorem dX13_judgeReturn_89 : decode cX13_judgeReturn 89 = .ok (.bipush (-2), 2) := by decide +kernel
theorem dX13_judgeReturn_91 : decode cX13_judgeReturn 91 = .ok (.if_icmp .eq 7, 3) := by decide +kernel
theorem dX13_judgeReturn_94 : decode cX13_judgeReturn 94 = .ok (.iconst 1, 1) := by decide +kernel
theorem dX13_judgeReturn_95 : decode cX13_judgeReturn 95 = .ok (.goto 4, 3) := by decide +kernel
theorem dX13_judgeReturn_98 : decode cX13_judgeReturn 98 = .ok (.iconst 0, 1) := by decide +kernel
theorem dX13_judgeReturn_99 : decode cX13_judgeReturn 99 = .ok (.if_icmp .eq 18, 3) := by decide +kernel
theorem dX13_judgeReturn_102 : decode cX13_judgeReturn 102 = .ok (.aload_n 0, 1) := by decide +kernel
theorem dX13_judgeReturn_103 : decode cX13_judgeReturn 103 = .ok (.bipush 17, 2) := by decide +kernel
theorem dX13_judgeReturn_105 : decode cX13_judgeReturn 105 = .ok (.aload_n 0, 1) := by decide +kernel
theorem dX13_judgeReturn_106 : decode cX13_judgeReturn 106 = .ok (.getfield 176, 3) := by decide +kernel
theorem dX13_judgeReturn_109 : decode cX13_judgeReturn 109 = .ok (.iload_n 1, 1) := by decide +kernel
theorem dX13_judgeReturn_110 : decode cX13_judgeReturn 110 = .ok (.iaload, 1) := by decide +kernel
theorem dX13_judgeReturn_111 : decode cX13_judgeReturn 111 = .ok (.invokevirtual 152, 3) := by decide +kernel
theorem dX13_judgeReturn_114 : decode cX13_judgeReturn 114 = .ok (.goto 28, 3) := by decide +kernel
theorem dX13_judgeReturn_117 : decode cX13_judgeReturn 117 = .ok (.iload 4, 2) := by decide +kernel
theorem dX13_judgeReturn_119 : decode cX13_judgeReturn 119 = .ok (.ifCond .eq 23, 3) := by decide +kernel
theorem dX13_judgeReturn_122 : decode cX13_judgeReturn 122 = .ok (.aload_n 0, 1) := by decide +kernel
theorem dX13_judgeReturn_123 : decode cX13_judgeReturn 123 = .ok (.aload_n 0, 1) := by decide +kernel
theorem dX13_judgeReturn_124 : decode cX13_judgeReturn 124 = .ok (.getfield 194, 3) := by decide +kernel
theorem dX13_judgeReturn_127 : decode cX13_judgeReturn 127 = .ok (.iload_n 1, 1) := by decide +kernel
theorem dX13_judgeReturn_128 : decode cX13_judgeReturn 128 = .ok (.iaload, 1) := by decide +kernel
theorem dX13_judgeReturn_129 : decode cX13_judgeReturn 129 = .ok (.lload_n 2, 1) := by decide +kernel
theorem dX13_judgeReturn_130 : decode cX13_judgeReturn 130 = .ok (.aload_n 0, 1) := by decide +kernel
theorem dX13_judgeReturn_131 : decode cX13_judgeReturn 131 = .ok (.getfield 359, 3) := by decide +kernel
theorem dX13_judgeReturn_134 : decode cX13_judgeReturn 134 = .ok (.aload_n 0, 1) := by decide +kernel
theorem dX13_judgeReturn_135 : decode cX13_judgeReturn 135 = .ok (.getfield 748, 3) := by decide +kernel
theorem dX13_judgeReturn_138 : decode cX13_judgeReturn 138 = .ok (.laload, 1) := by decide +kernel
theorem dX13_judgeReturn_139 : decode cX13_judgeReturn 139 = .ok (.invokevirtual 760, 3) := by decide +kernel
theorem dX13_judgeReturn_142 : decode cX13_judgeReturn 142 = .ok (.return_, 1) := by decide +kernel
theorem dX13_judgePut_0 : decode cX13_judgePut 0 = .ok (.aload_n 0, 1) := by decide +kernel
theorem dX13_judgePut_1 : decode cX13_judgePut 1 = .ok (.getfield 194, 3) := by decide +kernel
theorem dX13_judgePut_4 : decode cX13_judgePut 4 = .ok (.iload_n 1, 1) := by decide +kernel
theorem dX13_judgePut_5 : decode cX13_judgePut 5 = .ok (.iaload, 1) := by decide +kernel
theorem dX13_judgePut_6 : decode cX13_judgePut 6 = .ok (.istore_n 2, 1) := by decide +kernel
theorem dX13_judgePut_7 : decode cX13_judgePut 7 = .ok (.aload_n 0, 1) := by decide +kernel
theorem dX13_judgePut_8 : decode cX13_judgePut 8 = .ok (.iload_n 2, 1) := by decide +kernel
theorem dX13_judgePut_9 : decode cX13_judgePut 9 = .ok (.invokevirtual 757, 3) := by decide +kernel
theorem dX13_judgePut_12 : decode cX13_judgePut 12 = .ok (.lstore_n 3, 1) := by decide +kernel
theorem dX13_judgePut_13 : decode cX13_judgePut 13 = .ok (.aload_n 0, 1) := by decide +kernel
theorem dX13_judgePut_14 : decode cX13_judgePut 14 = .ok (.getfield 129, 3) := by decide +kernel
theorem dX13_judgePut_17 : decode cX13_judgePut 17 = .ok (.ifCond .ne 16, 3) := by decide +kernel
theorem dX13_judgePut_20 : decode cX13_judgePut 20 = .ok (.aload_n 0, 1) := by decide +kernel
theorem dX13_judgePut_21 : decode cX13_judgePut 21 = .ok (.aload_n 0, 1) := by decide +kernel
theorem dX13_judgePut_22 : decode cX13_judgePut 22 = .ok (.getfield 197, 3) := by decide +kernel
theorem dX13_judgePut_25 : decode cX13_judgePut 25 = .ok (.iload_n 1, 1) := by decide +kernel
theorem dX13_judgePut_26 : decode cX13_judgePut 26 = .ok (.iaload, 1) := by decide +kernel
theorem dX13_judgePut_27 : decode cX13_judgePut 27 = .ok (.invokevirtual 757, 3) := by decide +kernel
theorem dX13_judgePut_30 : decode cX13_judgePut 30 = .ok (.goto 6, 3) := by decide +kernel
theorem dX13_judgePut_33 : decode cX13_judgePut 33 = .ok (.ldc2_w 43, 3) := by decide +kernel
theorem dX13_judgePut_36 : decode cX13_judgePut 36 = .ok (.lstore 5, 2) := by decide +kernel
theorem dX13_judgePut_38 : decode cX13_judgePut 38 = .ok (.aload_n 0, 1) := by decide +kernel
theorem dX13_judgePut_39 : decode cX13_judgePut 39 = .ok (.getfield 129, 3) := by decide +kernel
theorem dX13_judgePut_42 : decode cX13_judgePut 42 = .ok (.ifCond .eq 4, 3) := by decide +kernel
theorem dX13_judgePut_45 : decode cX13_judgePut 45 = .ok (.return_, 1) := by decide +kernel
theorem dX13_judgePut_46 : decode cX13_judgePut 46 = .ok (.aload_n 0, 1) := by decide +kernel
theorem dX13_judgePut_47 : decode cX13_judgePut 47 = .ok (.getfield 173, 3) := by decide +kernel
theorem dX13_judgePut_50 : decode cX13_judgePut 50 = .ok (.iload_n 2, 1) := by decide +kernel
theorem dX13_judgePut_51 : decode cX13_judgePut 51 = .ok (.iaload, 1) := by decide +kernel
theorem dX13_judgePut_52 : decode cX13_judgePut 52 = .ok (.iconst 3, 1) := by decide +kernel
theorem dX13_judgePut_53 : decode cX13_judgePut 53 = .ok (.if_icmp .eq 24, 3) := by decide +kernel
theorem dX13_judgePut_56 : decode cX13_judgePut 56 = .ok (.aload_n 0, 1) := by decide +kernel
theorem dX13_judgePut_57 : decode cX13_judgePut 57 = .ok (.getfield 173, 3) := by decide +kernel
theorem dX13_judgePut_60 : decode cX13_judgePut 60 = .ok (.iload_n 2, 1) := by decide +kernel
theorem dX13_judgePut_61 : decode cX13_judgePut 61 = .ok (.iaload, 1) := by decide +kernel
theorem dX13_judgePut_62 : decode cX13_judgePut 62 = .ok (.iconst 5, 1) := by decide +kernel
theorem dX13_judgePut_63 : decode cX13_judgePut 63 = .ok (.if_icmp .eq 14, 3) := by decide +kernel
theorem dX13_judgePut_66 : decode cX13_judgePut 66 = .ok (.aload_n 0, 1) := by decide +kernel
theorem dX13_judgePut_67 : decode cX13_judgePut 67 = .ok (.getfield 173, 3) := by decide +kernel
theorem dX13_judgePut_70 : decode cX13_judgePut 70 = .ok (.iload_n 2, 1) := by decide +kernel
theorem dX13_judgePut_71 : decode cX13_judgePut 71 = .ok (.iaload, 1) := by decide +kernel
theorem dX13_judgePut_72 : decode cX13_judgePut 72 = .ok (.bipush 12, 2) := by decide +kernel
theorem dX13_judgePut_74 : decode cX13_judgePut 74 = .ok (.if_icmp .ne 7, 3) := by decide +kernel
theorem dX13_judgePut_77 : decode cX13_judgePut 77 = .ok (.iconst 1, 1) := by decide +kernel
theorem dX13_judgePut_78 : decode cX13_judgePut 78 = .ok (.goto 4, 3) := by decide +kernel
theorem dX13_judgePut_81 : decode cX13_judgePut 81 = .ok (.iconst 0, 1) := by decide +kernel
theorem dX13_judgePut_82 : decode cX13_judgePut 82 = .ok (.istore 7, 2) := by decide +kernel
theorem dX13_judgePut_84 : decode cX13_judgePut 84 = .ok (.iload 7, 2) := by decide +kernel
theorem dX13_judgePut_86 : decode cX13_judgePut 86 = .ok (.ifCond .eq 89, 3) := by decide +kernel
theorem dX13_judgePut_89 : decode cX13_judgePut 89 = .ok (.aload_n 0, 1) := by decide +kernel
theorem dX13_judgePut_90 : decode cX13_judgePut 90 = .ok (.getfield 209, 3) := by decide +kernel
theorem dX13_judgePut_93 : decode cX13_judgePut 93 = .ok (.iload_n 2, 1) := by decide +kernel
theorem dX13_judgePut_94 : decode cX13_judgePut 94 = .ok (.iaload, 1) := by decide +kernel
theorem dX13_judgePut_95 : decode cX13_judgePut 95 = .ok (.ifCond .ge 80, 3) := by decide +kernel
theorem dX13_judgePut_98 : decode cX13_judgePut 98 = .ok (.aload_n 0, 1) := by decide +kernel
theorem dX13_judgePut_99 : decode cX13_judgePut 99 = .ok (.getfield 200, 3) := by decide +kernel
theorem dX13_judgePut_102 : decode cX13_judgePut 102 = .ok (.iload_n 2, 1) := by decide +kernel
theorem dX13_judgePut_103 : decode cX13_judgePut 103 = .ok (.iaload, 1) := by decide +kernel
theorem dX13_judgePut_104 : decode cX13_judgePut 104 = .ok (.istore 8, 2) := by decide +kernel
theorem dX13_judgePut_106 : decode cX13_judgePut 106 = .ok (.aload_n 0, 1) := by decide +kernel
theorem dX13_judgePut_107 : decode cX13_judgePut 107 = .ok (.iload 8, 2) := by decide +kernel
theorem dX13_judgePut_109 : decode cX13_judgePut 109 = .ok (.invokevirtual 599, 3) := by decide +kernel
theorem dX13_judgePut_112 : decode cX13_judgePut 112 = .ok (.aload_n 0, 1) := by decide +kernel
theorem dX13_judgePut_113 : decode cX13_judgePut 113 = .ok (.getfield 745, 3) := by decide +kernel
theorem dX13_judgePut_116 : decode cX13_judgePut 116 = .ok (.if_icmp .ne 34, 3) := by decide +kernel
theorem dX13_judgePut_119 : decode cX13_judgePut 119 = .ok (.aload_n 0, 1) := by decide +kernel
theorem dX13_judgePut_120 : decode cX13_judgePut 120 = .ok (.getfield 402, 3) := by decide +kernel
theorem dX13_judgePut_123 : decode cX13_judgePut 123 = .ok (.aload_n 0, 1) := by decide +kernel
theorem dX13_judgePut_124 : decode cX13_judgePut 124 = .ok (.getfield 748, 3) := by decide +kernel
theorem dX13_judgePut_127 : decode cX13_judgePut 127 = .ok (.iaload, 1) := by decide +kernel
theorem dX13_judgePut_128 : decode cX13_judgePut 128 = .ok (.aload_n 0, 1) := by decide +kernel
theorem dX13_judgePut_129 : decode cX13_judgePut 129 = .ok (.getfield 341, 3) := by decide +kernel
theorem dX13_judgePut_132 : decode cX13_judgePut 132 = .ok (.iload 8, 2) := by decide +kernel
theorem dX13_judgePut_134 : decode cX13_judgePut 134 = .ok (.baload, 1) := by decide +kernel
theorem dX13_judgePut_135 : decode cX13_judgePut 135 = .ok (.ifCond .eq 7, 3) := by decide +kernel
theorem dX13_judgePut_138 : decode cX13_judgePut 138 = .ok (.iconst 3, 1) := by decide +kernel
theorem dX13_judgePut_139 : decode cX13_judgePut 139 = .ok (.goto 4, 3) := by decide +kernel
theorem dX13_judgePut_142 : decode cX13_judgePut 142 = .ok (.iconst 2, 1) := by decide +kernel
theorem dX13_judgePut_143 : decode cX13_judgePut 143 = .ok (.if_icmp .ne 7, 3) := by decide +kernel
theorem dX13_judgePut_146 : decode cX13_judgePut 146 = .ok (.iconst 1, 1) := by decide +kernel
theorem dX13_judgePut_147 : decode cX13_judgePut 147 = .ok (.goto 4, 3) := by decide +kernel
theorem dX13_judgePut_150 : decode cX13_judgePut 150 = .ok (.iconst 0, 1) := by decide +kernel
theorem dX13_judgePut_151 : decode cX13_judgePut 151 = .ok (.istore 9, 2) := by decide +kernel
theorem dX13_judgePut_153 : decode cX13_judgePut 153 = .ok (.aload_n 0, 1) := by decide +kernel
theorem dX13_judgePut_154 : decode cX13_judgePut 154 = .ok (.getfield 344, 3) := by decide +kernel
theorem dX13_judgePut_157 : decode cX13_judgePut 157 = .ok (.iload 8, 2) := by decide +kernel
theorem dX13_judgePut_159 : decode cX13_judgePut 159 = .ok (.baload, 1) := by decide +kernel
theorem dX13_judgePut_160 : decode cX13_judgePut 160 = .ok (.ifCond .eq 8, 3) := by decide +kernel
theorem dX13_judgePut_163 : decode cX13_judgePut 163 = .ok (.iload 9, 2) := by decide +kernel
theorem dX13_judgePut_165 : decode cX13_judgePut 165 = .ok (.ifCond .eq 7, 3) := by decide +kernel
theorem dX13_judgePut_168 : decode cX13_judgePut 168 = .ok (.iconst 1, 1) := by decide +kernel
theorem dX13_judgePut_169 : decode cX13_judgePut 169 = .ok (.goto 4, 3) := by decide +kernel
theorem dX13_judgePut_172 : decode cX13_judgePut 172 = .ok (.iconst 0, 1) := by decide +kernel
theorem dX13_judgePut_173 : decode cX13_judgePut 173 = .ok (.istore 7, 2) := by decide +kernel
theorem dX13_judgePut_175 : decode cX13_judgePut 175 = .ok (.iload 7, 2) := by decide +kernel
theorem dX13_judgePut_177 : decode cX13_judgePut 177 = .ok (.ifCond .ne 15, 3) := by decide +kernel
theorem dX13_judgePut_180 : decode cX13_judgePut 180 = .ok (.aload_n 0, 1) := by decide +kernel
theorem dX13_judgePut_181 : decode cX13_judgePut 181 = .ok (.bipush 15, 2) := by decide +kernel
theorem dX13_judgePut_183 : decode cX13_judgePut 183 = .ok (.aload_n 0, 1) := by decide +kernel
theorem dX13_judgePut_184 : decode cX13_judgePut 184 = .ok (.getfield 176, 3) := by decide +kernel
theorem dX13_judgePut_187 : decode cX13_judgePut 187 = .ok (.iload_n 1, 1) := by decide +kernel
theorem dX13_judgePut_188 : decode cX13_judgePut 188 = .ok (.iaload, 1) := by decide +kernel
theorem dX13_judgePut_189 : decode cX13_judgePut 189 = .ok (.invokevirtual 152, 3) := by decide +kernel
theorem dX13_judgePut_192 : decode cX13_judgePut 192 = .ok (.aload_n 0, 1) := by decide +kernel
theorem dX13_judgePut_193 : decode cX13_judgePut 193 = .ok (.aload_n 0, 1) := by decide +kernel
theorem dX13_judgePut_194 : decode cX13_judgePut 194 = .ok (.getfield 197, 3) := by decide +kernel
theorem dX13_judgePut_197 : decode cX13_judgePut 197 = .ok (.iload_n 1, 1) := by decide +kernel
theorem dX13_judgePut_198 : decode cX13_judgePut 198 = .ok (.iaload, 1) := by decide +kernel
theorem dX13_judgePut_199 : decode cX13_judgePut 199 = .ok (.lload 5, 2) := by decide +kernel
theorem dX13_judgePut_201 : decode cX13_judgePut 201 = .ok (.lload_n 3, 1) := by decide +kernel
theorem dX13_judgePut_202 : decode cX13_judgePut 202 = .ok (.invokevirtual 760, 3) := by decide +kernel
theorem dX13_judgePut_205 : decode cX13_judgePut 205 = .ok (.return_, 1) := by decide +kernel
theorem dX13_canEnd_0 : decode cX13_canEnd 0 = .ok (.aload_n 0, 1) := by decide +kernel
theorem dX13_canEnd_1 : decode cX13_canEnd 1 = .ok (.getfield 173, 3) := by decide +kernel
theorem dX13_canEnd_4 : decode cX13_canEnd 4 = .ok (.iload_n 1, 1) := by decide +kernel
theorem dX13_canEnd_5 : decode cX13_canEnd 5 = .ok (.iaload, 1) := by decide +kernel
theorem dX13_canEnd_6 : decode cX13_canEnd 6 = .ok (.tableswitch 154 20 26 #[44, 154, 79, 154, 42, 42, 122], 42) := by decide +kernel
theorem dX13_canEnd_48 : decode cX13_canEnd 48 = .ok (.iconst 0, 1) := by decide +kernel
theorem dX13_canEnd_49 : decode cX13_canEnd 49 = .ok (.ireturn, 1) := by decide +kernel
theorem dX13_canEnd_50 : decode cX13_canEnd 50 = .ok (.aload_n 0, 1) := by decide +kernel
theorem dX13_canEnd_51 : decode cX13_canEnd 51 = .ok (.getfield 194, 3) := by decide +kernel
theorem dX13_canEnd_54 : decode cX13_canEnd 54 = .ok (.iload_n 1, 1) := by decide +kernel
theorem dX13_canEnd_55 : decode cX13_canEnd 55 = .ok (.iaload, 1) := by decide +kernel
theorem dX13_canEnd_56 : decode cX13_canEnd 56 = .ok (.istore_n 2, 1) := by decide +kernel
theorem dX13_canEnd_57 : decode cX13_canEnd 57 = .ok (.iload_n 2, 1) := by decide +kernel
theorem dX13_canEnd_58 : decode cX13_canEnd 58 = .ok (.bipush (-2), 2) := by decide +kernel
theorem dX13_canEnd_60 : decode cX13_canEnd 60 = .ok (.if_icmp .eq 23, 3) := by decide +kernel
theorem dX13_canEnd_63 : decode cX13_canEnd 63 = .ok (.aload_n 0, 1) := by decide +kernel
theorem dX13_canEnd_64 : decode cX13_canEnd 64 = .ok (.iload_n 2, 1) := by decide +kernel
theorem dX13_canEnd_65 : decode cX13_canEnd 65 = .ok (.invokevirtual 777, 3) := by decide +kernel
theorem dX13_canEnd_68 : decode cX13_canEnd 68 = .ok (.ifCond .ne 5, 3) := by decide +kernel
theorem dX13_canEnd_71 : decode cX13_canEnd 71 = .ok (.iconst 0, 1) := by decide +kernel
theorem dX13_canEnd_72 : decode cX13_canEnd 72 = .ok (.ireturn, 1) := by decide +kernel
theorem dX13_canEnd_73 : decode cX13_canEnd 73 = .ok (.aload_n 0, 1) := by decide +kernel
theorem dX13_canEnd_74 : decode cX13_canEnd 74 = .ok (.getfield 203, 3) := by decide +kernel
theorem dX13_canEnd_77 : decode cX13_canEnd 77 = .ok (.iload_n 2, 1) := by decide +kernel
theorem dX13_canEnd_78 : decode cX13_canEnd 78 = .ok (.iaload, 1) := by decide +kernel
theorem dX13_canEnd_79 : decode cX13_canEnd 79 = .ok (.istore_n 2, 1) := by decide +kernel
theorem dX13_canEnd_80 : decode cX13_canEnd 80 = .ok (.goto (-23), 3) := by decide +kernel
theorem dX13_canEnd_83 : decode cX13_canEnd 83 = .ok (.iconst 1, 1) := by decide +kernel
theorem dX13_canEnd_84 : decode cX13_canEnd 84 = .ok (.ireturn, 1) := by decide +kernel
theorem dX13_canEnd_85 : decode cX13_canEnd 85 = .ok (.aload_n 0, 1) := by decide +kernel
theorem dX13_canEnd_86 : decode cX13_canEnd 86 = .ok (.getfield 200, 3) := by decide +kernel
theorem dX13_canEnd_89 : decode cX13_canEnd 89 = .ok (.iload_n 1, 1) := by decide +kernel
theorem dX13_canEnd_90 : decode cX13_canEnd 90 = .ok (.iaload, 1) := by decide +kernel
theorem dX13_canEnd_91 : decode cX13_canEnd 91 = .ok (.bipush (-2), 2) := by decide +kernel
theorem dX13_canEnd_93 : decode cX13_canEnd 93 = .ok (.if_icmp .eq 29, 3) := by decide +kernel
theorem dX13_canEnd_96 : decode cX13_canEnd 96 = .ok (.aload_n 0, 1) := by decide +kernel
theorem dX13_canEnd_97 : decode cX13_canEnd 97 = .ok (.aload_n 0, 1) := by decide +kernel
theorem dX13_canEnd_98 : decode cX13_canEnd 98 = .ok (.getfield 197, 3) := by decide +kernel
theorem dX13_canEnd_101 : decode cX13_canEnd 101 = .ok (.iload_n 1, 1) := by decide +kernel
theorem dX13_canEnd_102 : decode cX13_canEnd 102 = .ok (.iaload, 1) := by decide +kernel
theorem dX13_canEnd_103 : decode cX13_canEnd 103 = .ok (.invokevirtual 777, 3) := by decide +kernel
theorem dX13_canEnd_106 : decode cX13_canEnd 106 = .ok (.ifCond .ne 16, 3) := by decide +kernel
theorem dX13_canEnd_109 : decode cX13_canEnd 109 = .ok (.aload_n 0, 1) := by decide +kernel
theorem dX13_canEnd_110 : decode cX13_canEnd 110 = .ok (.aload_n 0, 1) := by decide +kernel
theorem dX13_canEnd_111 : decode cX13_canEnd 111 = .ok (.getfield 200, 3) := by decide +kernel
theorem dX13_canEnd_114 : decode cX13_canEnd 114 = .ok (.iload_n 1, 1) := by decide +kernel
theorem dX13_canEnd_115 : decode cX13_canEnd 115 = .ok (.iaload, 1) := by decide +kernel
theorem dX13_canEnd_116 : decode cX13_canEnd 116 = .ok (.invokevirtual 777, 3) := by decide +kernel
theorem dX13_canEnd_119 : decode cX13_canEnd 119 = .ok (.ifCond .eq 7, 3) := by decide +kernel
theorem dX13_canEnd_122 : decode cX13_canEnd 122 = .ok (.iconst 1, 1) := by decide +kernel
theorem dX13_canEnd_123 : decode cX13_canEnd 123 = .ok (.goto 4, 3) := by decide +kernel
theorem dX13_canEnd_126 : decode cX13_canEnd 126 = .ok (.iconst 0, 1) := by decide +kernel
theorem dX13_canEnd_127 : decode cX13_canEnd 127 = .ok (.ireturn, 1) := by decide +kernel
theorem dX13_canEnd_128 : decode cX13_canEnd 128 = .ok (.aload_n 0, 1) := by decide +kernel
theorem dX13_canEnd_129 : decode cX13_canEnd 129 = .ok (.aload_n 0, 1) := by decide +kernel
theorem dX13_canEnd_130 : decode cX13_canEnd 130 = .ok (.getfield 194, 3) := by decide +kernel
theorem dX13_canEnd_133 : decode cX13_canEnd 133 = .ok (.iload_n 1, 1) := by decide +kernel
theorem dX13_canEnd_134 : decode cX13_canEnd 134 = .ok (.iaload, 1) := by decide +kernel
theorem dX13_canEnd_135 : decode cX13_canEnd 135 = .ok (.invokevirtual 777, 3) := by decide +kernel
theorem dX13_canEnd_138 : decode cX13_canEnd 138 = .ok (.ifCond .ne 16, 3) := by decide +kernel
theorem dX13_canEnd_141 : decode cX13_canEnd 141 = .ok (.aload_n 0, 1) := by decide +kernel
theorem dX13_canEnd_142 : decode cX13_canEnd 142 = .ok (.aload_n 0, 1) := by decide +kernel
theorem dX13_canEnd_143 : decode cX13_canEnd 143 = .ok (.getfield 197, 3) := by decide +kernel
theorem dX13_canEnd_146 : decode cX13_canEnd 146 = .ok (.iload_n 1, 1) := by decide +kernel
theorem dX13_canEnd_147 : decode cX13_canEnd 147 = .ok (.iaload, 1) := by decide +kernel
theorem dX13_canEnd_148 : decode cX13_canEnd 148 = .ok (.invokevirtual 777, 3) := by decide +kernel
theorem dX13_canEnd_151 : decode cX13_canEnd 151 = .ok (.ifCond .eq 7, 3) := by decide +kernel
theorem dX13_canEnd_154 : decode cX13_canEnd 154 = .ok (.iconst 1, 1) := by decide +kernel
theorem dX13_canEnd_155 : decode cX13_canEnd 155 = .ok (.goto 4, 3) := by decide +kernel
theorem dX13_canEnd_158 : decode cX13_canEnd 158 = .ok (.iconst 0, 1) := by decide +kernel
theorem dX13_canEnd_159 : decode cX13_canEnd 159 = .ok (.ireturn, 1) := by decide +kernel
theorem dX13_canEnd_160 : decode cX13_canEnd 160 = .ok (.iconst 1, 1) := by decide +kernel
theorem dX13_canEnd_161 : decode cX13_canEnd 161 = .ok (.ireturn, 1) := by decide +kernel
theorem dX13_nextUse_0 : decode cX13_nextUse 0 = .ok (.aload_n 0, 1) := by decide +kernel
theorem dX13_nextUse_1 : decode cX13_nextUse 1 = .ok (.getfield 84, 3) := by decide +kernel
theorem dX13_nextUse_4 : decode cX13_nextUse 4 = .ok (.sipush 1800, 3) := by decide +kernel
theorem dX13_nextUse_7 : decode cX13_nextUse 7 = .ok (.imul, 1) := by decide +kernel
theorem dX13_nextUse_8 : decode cX13_nextUse 8 = .ok (.aload_n 0, 1) := by decide +kernel
theorem dX13_nextUse_9 : decode cX13_nextUse 9 = .ok (.getfield 863, 3) := by decide +kernel
theorem dX13_nextUse_12 : decode cX13_nextUse 12 = .ok (.aload_n 0, 1) := by decide +kernel
theorem dX13_nextUse_13 : decode cX13_nextUse 13 = .ok (.getfield 84, 3) := by decide +kernel
theorem dX13_nextUse_16 : decode cX13_nextUse 16 = .ok (.iaload, 1) := by decide +kernel
theorem dX13_nextUse_17 : decode cX13_nextUse 17 = .ok (.iadd, 1) := by decide +kernel
theorem dX13_nextUse_18 : decode cX13_nextUse 18 = .ok (.istore 8, 2) := by decide +kernel
theorem dX13_nextUse_20 : decode cX13_nextUse 20 = .ok (.aload_n 0, 1) := by decide +kernel
theorem dX13_nextUse_21 : decode cX13_nextUse 21 = .ok (.getfield 866, 3) := by decide +kernel
theorem dX13_nextUse_24 : decode cX13_nextUse 24 = .ok (.iload 8, 2) := by decide +kernel
theorem dX13_nextUse_26 : decode cX13_nextUse 26 = .ok (.iload_n 1, 1) := by decide +kernel
theorem dX13_nextUse_27 : decode cX13_nextUse 27 = .ok (.iastore, 1) := by decide +kernel
theorem dX13_nextUse_28 : decode cX13_nextUse 28 = .ok (.aload_n 0, 1) := by decide +kernel
theorem dX13_nextUse_29 : decode cX13_nextUse 29 = .ok (.getfield 869, 3) := by decide +kernel
theorem dX13_nextUse_32 : decode cX13_nextUse 32 = .ok (.iload 8, 2) := by decide +kernel
theorem dX13_nextUse_34 : decode cX13_nextUse 34 = .ok (.aload_n 0, 1) := by decide +kernel
theorem dX13_nextUse_35 : decode cX13_nextUse 35 = .ok (.getfield 745, 3) := by decide +kernel
theorem dX13_nextUse_38 : decode cX13_nextUse 38 = .ok (.iastore, 1) := by decide +kernel
theorem dX13_nextUse_39 : decode cX13_nextUse 39 = .ok (.aload_n 0, 1) := by decide +kernel
theorem dX13_nextUse_40 : decode cX13_nextUse 40 = .ok (.getfield 872, 3) := by decide +kernel
theorem dX13_nextUse_43 : decode cX13_nextUse 43 = .ok (.iload 8, 2) := by decide +kernel
theorem dX13_nextUse_45 : decode cX13_nextUse 45 = .ok (.lload_n 2, 1) := by decide +kernel
theorem dX13_nextUse_46 : decode cX13_nextUse 46 = .ok (.lastore, 1) := by decide +kernel
theorem dX13_nextUse_47 : decode cX13_nextUse 47 = .ok (.aload_n 0, 1) := by decide +kernel
theorem dX13_nextUse_48 : decode cX13_nextUse 48 = .ok (.getfield 875, 3) := by decide +kernel
theorem dX13_nextUse_51 : decode cX13_nextUse 51 = .ok (.iload 8, 2) := by decide +kernel
theorem dX13_nextUse_53 : decode cX13_nextUse 53 = .ok (.lload 4, 2) := by decide +kernel
theorem dX13_nextUse_55 : decode cX13_nextUse 55 = .ok (.lastore, 1) := by decide +kernel
theorem dX13_nextUse_56 : decode cX13_nextUse 56 = .ok (.aload_n 0, 1) := by decide +kernel
theorem dX13_nextUse_57 : decode cX13_nextUse 57 = .ok (.getfield 878, 3) := by decide +kernel
theorem dX13_nextUse_60 : decode cX13_nextUse 60 = .ok (.iload 8, 2) := by decide +kernel
theorem dX13_nextUse_62 : decode cX13_nextUse 62 = .ok (.lload 6, 2) := by decide +kernel
theorem dX13_nextUse_64 : decode cX13_nextUse 64 = .ok (.lastore, 1) := by decide +kernel
theorem dX13_nextUse_65 : decode cX13_nextUse 65 = .ok (.aload_n 0, 1) := by decide +kernel
theorem dX13_nextUse_66 : decode cX13_nextUse 66 = .ok (.getfield 881, 3) := by decide +kernel
theorem dX13_nextUse_69 : decode cX13_nextUse 69 = .ok (.iload 8, 2) := by decide +kernel
theorem dX13_nextUse_71 : decode cX13_nextUse 71 = .ok (.iconst 0, 1) := by decide +kernel
theorem dX13_nextUse_72 : decode cX13_nextUse 72 = .ok (.iastore, 1) := by decide +kernel
theorem dX13_nextUse_73 : decode cX13_nextUse 73 = .ok (.aload_n 0, 1) := by decide +kernel
theorem dX13_nextUse_74 : decode cX13_nextUse 74 = .ok (.getfield 884, 3) := by decide +kernel
theorem dX13_nextUse_77 : decode cX13_nextUse 77 = .ok (.iload 8, 2) := by decide +kernel
theorem dX13_nextUse_79 : decode cX13_nextUse 79 = .ok (.lconst 0, 1) := by decide +kernel
theorem dX13_nextUse_80 : decode cX13_nextUse 80 = .ok (.lastore, 1) := by decide +kernel
theorem dX13_nextUse_81 : decode cX13_nextUse 81 = .ok (.aload_n 0, 1) := by decide +kernel
theorem dX13_nextUse_82 : decode cX13_nextUse 82 = .ok (.getfield 887, 3) := by decide +kernel
theorem dX13_nextUse_85 : decode cX13_nextUse 85 = .ok (.iload 8, 2) := by decide +kernel
theorem dX13_nextUse_87 : decode cX13_nextUse 87 = .ok (.iconst 0, 1) := by decide +kernel
theorem dX13_nextUse_88 : decode cX13_nextUse 88 = .ok (.iastore, 1) := by decide +kernel
theorem dX13_nextUse_89 : decode cX13_nextUse 89 = .ok (.iload 8, 2) := by decide +kernel
theorem dX13_nextUse_91 : decode cX13_nextUse 91 = .ok (.ireturn, 1) := by decide +kernel
theorem dX13_keepUse_0 : decode cX13_keepUse 0 = .ok (.iload_n 1, 1) := by decide +kernel
theorem dX13_keepUse_1 : decode cX13_keepUse 1 = .ok (.iconst 1, 1) := by decide +kernel
theorem dX13_keepUse_2 : decode cX13_keepUse 2 = .ok (.isub, 1) := by decide +kernel
theorem dX13_keepUse_3 : decode cX13_keepUse 3 = .ok (.istore_n 2, 1) := by decide +kernel
theorem dX13_keepUse_4 : decode cX13_keepUse 4 = .ok (.iload_n 2, 1) := by decide +kernel
theorem dX13_keepUse_5 : decode cX13_keepUse 5 = .ok (.aload_n 0, 1) := by decide +kernel
theorem dX13_keepUse_6 : decode cX13_keepUse 6 = .ok (.getfield 84, 3) := by decide +kernel
theorem dX13_keepUse_9 : decode cX13_keepUse 9 = .ok (.sipush 1800, 3) := by decide +kernel
theorem dX13_keepUse_12 : decode cX13_keepUse 12 = .ok (.imul, 1) := by decide +kernel
theorem dX13_keepUse_13 : decode cX13_keepUse 13 = .ok (.if_icmp .lt 199, 3) := by decide +kernel
theorem dX13_keepUse_16 : decode cX13_keepUse 16 = .ok (.aload_n 0, 1) := by decide +kernel
theorem dX13_keepUse_17 : decode cX13_keepUse 17 = .ok (.getfield 869, 3) := by decide +kernel
theorem dX13_keepUse_20 : decode cX13_keepUse 20 = .ok (.iload_n 2, 1) := by decide +kernel
theorem dX13_keepUse_21 : decode cX13_keepUse 21 = .ok (.iaload, 1) := by decide +kernel
theorem dX13_keepUse_22 : decode cX13_keepUse 22 = .ok (.aload_n 0, 1) := by decide +kernel
theorem dX13_keepUse_23 : decode cX13_keepUse 23 = .ok (.getfield 745, 3) := by decide +kernel
theorem dX13_keepUse_26 : decode cX13_keepUse 26 = .ok (.if_icmp .ne 186, 3) := by decide +kernel
theorem dX13_keepUse_29 : decode cX13_keepUse 29 = .ok (.aload_n 0, 1) := by decide +kernel
theorem dX13_keepUse_30 : decode cX13_keepUse 30 = .ok (.getfield 866, 3) := by decide +kernel
theorem dX13_keepUse_33 : decode cX13_keepUse 33 = .ok (.iload_n 2, 1) := by decide +kernel
theorem dX13_keepUse_34 : decode cX13_keepUse 34 = .ok (.iaload, 1) := by decide +kernel
theorem dX13_keepUse_35 : decode cX13_keepUse 35 = .ok (.aload_n 0, 1) := by decide +kernel
theorem dX13_keepUse_36 : decode cX13_keepUse 36 = .ok (.getfield 866, 3) := by decide +kernel
theorem dX13_keepUse_39 : decode cX13_keepUse 39 = .ok (.iload_n 1, 1) := by decide +kernel
theorem dX13_keepUse_40 : decode cX13_keepUse 40 = .ok (.iaload, 1) := by decide +kernel
theorem dX13_keepUse_41 : decode cX13_keepUse 41 = .ok (.if_icmp .ne 101, 3) := by decide +kernel
theorem dX13_keepUse_44 : decode cX13_keepUse 44 = .ok (.aload_n 0, 1) := by decide +kernel
theorem dX13_keepUse_45 : decode cX13_keepUse 45 = .ok (.getfield 872, 3) := by decide +kernel
theorem dX13_keepUse_48 : decode cX13_keepUse 48 = .ok (.iload_n 2, 1) := by decide +kernel
theorem dX13_keepUse_49 : decode cX13_keepUse 49 = .ok (.laload, 1) := by decide +kernel
theorem dX13_keepUse_50 : decode cX13_keepUse 50 = .ok (.aload_n 0, 1) := by decide +kernel
theorem dX13_keepUse_51 : decode cX13_keepUse 51 = .ok (.getfield 872, 3) := by decide +kernel
theorem dX13_keepUse_54 : decode cX13_keepUse 54 = .ok (.iload_n 1, 1) := by decide +kernel
theorem dX13_keepUse_55 : decode cX13_keepUse 55 = .ok (.laload, 1) := by decide +kernel
theorem dX13_keepUse_56 : decode cX13_keepUse 56 = .ok (.lcmp, 1) := by decide +kernel
theorem dX13_keepUse_57 : decode cX13_keepUse 57 = .ok (.ifCond .ne 85, 3) := by decide +kernel
theorem dX13_keepUse_60 : decode cX13_keepUse 60 = .ok (.aload_n 0, 1) := by decide +kernel
theorem dX13_keepUse_61 : decode cX13_keepUse 61 = .ok (.getfield 875, 3) := by decide +kernel
theorem dX13_keepUse_64 : decode cX13_keepUse 64 = .ok (.iload_n 2, 1) := by decide +kernel
theorem dX13_keepUse_65 : decode cX13_keepUse 65 = .ok (.laload, 1) := by decide +kernel
theorem dX13_keepUse_66 : decode cX13_keepUse 66 = .ok (.aload_n 0, 1) := by decide +kernel
theorem dX13_keepUse_67 : decode cX13_keepUse 67 = .ok (.getfield 875, 3) := by decide +kernel
theorem dX13_keepUse_70 : decode cX13_keepUse 70 = .ok (.iload_n 1, 1) := by decide +kernel
theorem dX13_keepUse_71 : decode cX13_keepUse 71 = .ok (.laload, 1) := by decide +kernel
theorem dX13_keepUse_72 : decode cX13_keepUse 72 = .ok (.lcmp, 1) := by decide +kernel
theorem dX13_keepUse_73 : decode cX13_keepUse 73 = .ok (.ifCond .ne 69, 3) := by decide +kernel
theorem dX13_keepUse_76 : decode cX13_keepUse 76 = .ok (.aload_n 0, 1) := by decide +kernel
theorem dX13_keepUse_77 : decode cX13_keepUse 77 = .ok (.getfield 878, 3) := by decide +kernel
theorem dX13_keepUse_80 : decode cX13_keepUse 80 = .ok (.iload_n 2, 1) := by decide +kernel
theorem dX13_keepUse_81 : decode cX13_keepUse 81 = .ok (.laload, 1) := by decide +kernel
theorem dX13_keepUse_82 : decode cX13_keepUse 82 = .ok (.aload_n 0, 1) := by decide +kernel
theorem dX13_keepUse_83 : decode cX13_keepUse 83 = .ok (.getfield 878, 3) := by decide +kernel
theorem dX13_keepUse_86 : decode cX13_keepUse 86 = .ok (.iload_n 1, 1) := by decide +kernel
theorem dX13_keepUse_87 : decode cX13_keepUse 87 = .ok (.laload, 1) := by decide +kernel
theorem dX13_keepUse_88 : decode cX13_keepUse 88 = .ok (.lcmp, 1) := by decide +kernel
theorem dX13_keepUse_89 : decode cX13_keepUse 89 = .ok (.ifCond .ne 53, 3) := by decide +kernel
theorem dX13_keepUse_92 : decode cX13_keepUse 92 = .ok (.aload_n 0, 1) := by decide +kernel
theorem dX13_keepUse_93 : decode cX13_keepUse 93 = .ok (.getfield 884, 3) := by decide +kernel
theorem dX13_keepUse_96 : decode cX13_keepUse 96 = .ok (.iload_n 2, 1) := by decide +kernel
theorem dX13_keepUse_97 : decode cX13_keepUse 97 = .ok (.laload, 1) := by decide +kernel
theorem dX13_keepUse_98 : decode cX13_keepUse 98 = .ok (.aload_n 0, 1) := by decide +kernel
theorem dX13_keepUse_99 : decode cX13_keepUse 99 = .ok (.getfield 884, 3) := by decide +kernel
theorem dX13_keepUse_102 : decode cX13_keepUse 102 = .ok (.iload_n 1, 1) := by decide +kernel
theorem dX13_keepUse_103 : decode cX13_keepUse 103 = .ok (.laload, 1) := by decide +kernel
theorem dX13_keepUse_104 : decode cX13_keepUse 104 = .ok (.lcmp, 1) := by decide +kernel
theorem dX13_keepUse_105 : decode cX13_keepUse 105 = .ok (.ifCond .ne 37, 3) := by decide +kernel
theorem dX13_keepUse_108 : decode cX13_keepUse 108 = .ok (.aload_n 0, 1) := by decide +kernel
theorem dX13_keepUse_109 : decode cX13_keepUse 109 = .ok (.getfield 887, 3) := by decide +kernel
theorem dX13_keepUse_112 : decode cX13_keepUse 112 = .ok (.iload_n 2, 1) := by decide +kernel
theorem dX13_keepUse_113 : decode cX13_keepUse 113 = .ok (.iaload, 1) := by decide +kernel
theorem dX13_keepUse_114 : decode cX13_keepUse 114 = .ok (.aload_n 0, 1) := by decide +kernel
theorem dX13_keepUse_115 : decode cX13_keepUse 115 = .ok (.getfield 887, 3) := by decide +kernel
theorem dX13_keepUse_118 : decode cX13_keepUse 118 = .ok (.iload_n 1, 1) := by decide +kernel
theorem dX13_keepUse_119 : decode cX13_keepUse 119 = .ok (.iaload, 1) := by decide +kernel
theorem dX13_keepUse_120 : decode cX13_keepUse 120 = .ok (.if_icmp .ne 22, 3) := by decide +kernel
theorem dX13_keepUse_123 : decode cX13_keepUse 123 = .ok (.aload_n 0, 1) := by decide +kernel
theorem dX13_keepUse_124 : decode cX13_keepUse 124 = .ok (.getfield 881, 3) := by decide +kernel
theorem dX13_keepUse_127 : decode cX13_keepUse 127 = .ok (.iload_n 2, 1) := by decide +kernel
theorem dX13_keepUse_128 : decode cX13_keepUse 128 = .ok (.iaload, 1) := by decide +kernel
theorem dX13_keepUse_129 : decode cX13_keepUse 129 = .ok (.aload_n 0, 1) := by decide +kernel
theorem dX13_keepUse_130 : decode cX13_keepUse 130 = .ok (.getfield 881, 3) := by decide +kernel
theorem dX13_keepUse_133 : decode cX13_keepUse 133 = .ok (.iload_n 1, 1) := by decide +kernel
theorem dX13_keepUse_134 : decode cX13_keepUse 134 = .ok (.iaload, 1) := by decide +kernel
theorem dX13_keepUse_135 : decode cX13_keepUse 135 = .ok (.if_icmp .ne 7, 3) := by decide +kernel
theorem dX13_keepUse_138 : decode cX13_keepUse 138 = .ok (.iconst 1, 1) := by decide +kernel
theorem dX13_keepUse_139 : decode cX13_keepUse 139 = .ok (.goto 4, 3) := by decide +kernel
theorem dX13_keepUse_142 : decode cX13_keepUse 142 = .ok (.iconst 0, 1) := by decide +kernel
theorem dX13_keepUse_143 : decode cX13_keepUse 143 = .ok (.istore_n 3, 1) := by decide +kernel
theorem dX13_keepUse_144 : decode cX13_keepUse 144 = .ok (.iconst 0, 1) := by decide +kernel
theorem dX13_keepUse_145 : decode cX13_keepUse 145 = .ok (.istore 4, 2) := by decide +kernel
theorem dX13_keepUse_147 : decode cX13_keepUse 147 = .ok (.iload 4, 2) := by decide +kernel
theorem dX13_keepUse_149 : decode cX13_keepUse 149 = .ok (.aload_n 0, 1) := by decide +kernel
theorem dX13_keepUse_150 : decode cX13_keepUse 150 = .ok (.getfield 881, 3) := by decide +kernel
theorem dX13_keepUse_153 : decode cX13_keepUse 153 = .ok (.iload_n 1, 1) := by decide +kernel
theorem dX13_keepUse_154 : decode cX13_keepUse 154 = .ok (.iaload, 1) := by decide +kernel
theorem dX13_keepUse_155 : decode cX13_keepUse 155 = .ok (.if_icmp .ge 45, 3) := by decide +kernel
theorem dX13_keepUse_158 : decode cX13_keepUse 158 = .ok (.iload_n 3, 1) := by decide +kernel
theorem dX13_keepUse_159 : decode cX13_keepUse 159 = .ok (.ifCond .eq 41, 3) := by decide +kernel
theorem dX13_keepUse_162 : decode cX13_keepUse 162 = .ok (.aload_n 0, 1) := by decide +kernel
theorem dX13_keepUse_163 : decode cX13_keepUse 163 = .ok (.getfield 890, 3) := by decide +kernel
theorem dX13_keepUse_166 : decode cX13_keepUse 166 = .ok (.iconst 4, 1) := by decide +kernel
theorem dX13_keepUse_167 : decode cX13_keepUse 167 = .ok (.iload_n 2, 1) := by decide +kernel
theorem dX13_keepUse_168 : decode cX13_keepUse 168 = .ok (.imul, 1) := by decide +kernel
theorem dX13_keepUse_169 : decode cX13_keepUse 169 = .ok (.iload 4, 2) := by decide +kernel
theorem dX13_keepUse_171 : decode cX13_keepUse 171 = .ok (.iadd, 1) := by decide +kernel
theorem dX13_keepUse_172 : decode cX13_keepUse 172 = .ok (.laload, 1) := by decide +kernel
theorem dX13_keepUse_173 : decode cX13_keepUse 173 = .ok (.aload_n 0, 1) := by decide +kernel
theorem dX13_keepUse_174 : decode cX13_keepUse 174 = .ok (.getfield 890, 3) := by decide +kernel
theorem dX13_keepUse_177 : decode cX13_keepUse 177 = .ok (.iconst 4, 1) := by decide +kernel
theorem dX13_keepUse_178 : decode cX13_keepUse 178 = .ok (.iload_n 1, 1) := by decide +kernel
theorem dX13_keepUse_179 : decode cX13_keepUse 179 = .ok (.imul, 1) := by decide +kernel
theorem dX13_keepUse_180 : decode cX13_keepUse 180 = .ok (.iload 4, 2) := by decide +kernel
theorem dX13_keepUse_182 : decode cX13_keepUse 182 = .ok (.iadd, 1) := by decide +kernel
theorem dX13_keepUse_183 : decode cX13_keepUse 183 = .ok (.laload, 1) := by decide +kernel
theorem dX13_keepUse_184 : decode cX13_keepUse 184 = .ok (.lcmp, 1) := by decide +kernel
theorem dX13_keepUse_185 : decode cX13_keepUse 185 = .ok (.ifCond .ne 7, 3) := by decide +kernel
theorem dX13_keepUse_188 : decode cX13_keepUse 188 = .ok (.iconst 1, 1) := by decide +kernel
theorem dX13_keepUse_189 : decode cX13_keepUse 189 = .ok (.goto 4, 3) := by decide +kernel
theorem dX13_keepUse_192 : decode cX13_keepUse 192 = .ok (.iconst 0, 1) := by decide +kernel
theorem dX13_keepUse_193 : decode cX13_keepUse 193 = .ok (.istore_n 3, 1) := by decide +kernel
theorem dX13_keepUse_194 : decode cX13_keepUse 194 = .ok (.iinc 4 1, 3) := by decide +kernel
theorem dX13_keepUse_197 : decode cX13_keepUse 197 = .ok (.goto (-50), 3) := by decide +kernel
theorem dX13_keepUse_200 : decode cX13_keepUse 200 = .ok (.iload_n 3, 1) := by decide +kernel
theorem dX13_keepUse_201 : decode cX13_keepUse 201 = .ok (.ifCond .eq 5, 3) := by decide +kernel
theorem dX13_keepUse_204 : decode cX13_keepUse 204 = .ok (.iload_n 2, 1) := by decide +kernel
theorem dX13_keepUse_205 : decode cX13_keepUse 205 = .ok (.ireturn, 1) := by decide +kernel
theorem dX13_keepUse_206 : decode cX13_keepUse 206 = .ok (.iinc 2 (-1), 3) := by decide +kernel
theorem dX13_keepUse_209 : decode cX13_keepUse 209 = .ok (.goto (-205), 3) := by decide +kernel
theorem dX13_keepUse_212 : decode cX13_keepUse 212 = .ok (.aload_n 0, 1) := by decide +kernel
theorem dX13_keepUse_213 : decode cX13_keepUse 213 = .ok (.getfield 863, 3) := by decide +kernel
theorem dX13_keepUse_216 : decode cX13_keepUse 216 = .ok (.aload_n 0, 1) := by decide +kernel
theorem dX13_keepUse_217 : decode cX13_keepUse 217 = .ok (.getfield 84, 3) := by decide +kernel
theorem dX13_keepUse_220 : decode cX13_keepUse 220 = .ok (.dup2, 1) := by decide +kernel
theorem dX13_keepUse_221 : decode cX13_keepUse 221 = .ok (.iaload, 1) := by decide +kernel
theorem dX13_keepUse_222 : decode cX13_keepUse 222 = .ok (.iconst 1, 1) := by decide +kernel
theorem dX13_keepUse_223 : decode cX13_keepUse 223 = .ok (.iadd, 1) := by decide +kernel
theorem dX13_keepUse_224 : decode cX13_keepUse 224 = .ok (.iastore, 1) := by decide +kernel
theorem dX13_keepUse_225 : decode cX13_keepUse 225 = .ok (.iload_n 1, 1) := by decide +kernel
theorem dX13_keepUse_226 : decode cX13_keepUse 226 = .ok (.ireturn, 1) := by decide +kernel
theorem dX13_useFor_0 : decode cX13_useFor 0 = .ok (.aload_n 0, 1) := by decide +kernel
theorem dX13_useFor_1 : decode cX13_useFor 1 = .ok (.aload_n 0, 1) := by decide +kernel
theorem dX13_useFor_2 : decode cX13_useFor 2 = .ok (.iload_n 1, 1) := by decide +kernel
theorem dX13_useFor_3 : decode cX13_useFor 3 = .ok (.lload_n 2, 1) := by decide +kernel
theorem dX13_useFor_4 : decode cX13_useFor 4 = .ok (.lload 4, 2) := by decide +kernel
theorem dX13_useFor_6 : decode cX13_useFor 6 = .ok (.lload 6, 2) := by decide +kernel
theorem dX13_useFor_8 : decode cX13_useFor 8 = .ok (.invokevirtual 893, 3) := by decide +kernel
theorem dX13_useFor_11 : decode cX13_useFor 11 = .ok (.invokevirtual 897, 3) := by decide +kernel
theorem dX13_useFor_14 : decode cX13_useFor 14 = .ok (.ireturn, 1) := by decide +kernel
theorem dX13_useOf_0 : decode cX13_useOf 0 = .ok (.aload_n 0, 1) := by decide +kernel
theorem dX13_useOf_1 : decode cX13_useOf 1 = .ok (.iload_n 2, 1) := by decide +kernel
theorem dX13_useOf_2 : decode cX13_useOf 2 = .ok (.lload_n 3, 1) := by decide +kernel
theorem dX13_useOf_3 : decode cX13_useOf 3 = .ok (.lload 5, 2) := by decide +kernel
theorem dX13_useOf_5 : decode cX13_useOf 5 = .ok (.lload 7, 2) := by decide +kernel
theorem dX13_useOf_7 : decode cX13_useOf 7 = .ok (.invokevirtual 893, 3) := by decide +kernel
theorem dX13_useOf_10 : decode cX13_useOf 10 = .ok (.istore 9, 2) := by decide +kernel
theorem dX13_useOf_12 : decode cX13_useOf 12 = .ok (.aload_n 0, 1) := by decide +kernel
theorem dX13_useOf_13 : decode cX13_useOf 13 = .ok (.getfield 881, 3) := by decide +kernel
theorem dX13_useOf_16 : decode cX13_useOf 16 = .ok (.iload 9, 2) := by decide +kernel
theorem dX13_useOf_18 : decode cX13_useOf 18 = .ok (.aload_n 0, 1) := by decide +kernel
theorem dX13_useOf_19 : decode cX13_useOf 19 = .ok (.getfield 218, 3) := by decide +kernel
theorem dX13_useOf_22 : decode cX13_useOf 22 = .ok (.iload_n 1, 1) := by decide +kernel
theorem dX13_useOf_23 : decode cX13_useOf 23 = .ok (.iaload, 1) := by decide +kernel
theorem dX13_useOf_24 : decode cX13_useOf 24 = .ok (.iastore, 1) := by decide +kernel
theorem dX13_useOf_25 : decode cX13_useOf 25 = .ok (.iconst 0, 1) := by decide +kernel
theorem dX13_useOf_26 : decode cX13_useOf 26 = .ok (.istore 10, 2) := by decide +kernel
theorem dX13_useOf_28 : decode cX13_useOf 28 = .ok (.iload 10, 2) := by decide +kernel
theorem dX13_useOf_30 : decode cX13_useOf 30 = .ok (.aload_n 0, 1) := by decide +kernel
theorem dX13_useOf_31 : decode cX13_useOf 31 = .ok (.getfield 218, 3) := by decide +kernel
theorem dX13_useOf_34 : decode cX13_useOf 34 = .ok (.iload_n 1, 1) := by decide +kernel
theorem dX13_useOf_35 : decode cX13_useOf 35 = .ok (.iaload, 1) := by decide +kernel
theorem dX13_useOf_36 : decode cX13_useOf 36 = .ok (.if_icmp .ge 32, 3) := by decide +kernel
theorem dX13_useOf_39 : decode cX13_useOf 39 = .ok (.aload_n 0, 1) := by decide +kernel
theorem dX13_useOf_40 : decode cX13_useOf 40 = .ok (.getfield 890, 3) := by decide +kernel
theorem dX13_useOf_43 : decode cX13_useOf 43 = .ok (.iconst 4, 1) := by decide +kernel
theorem dX13_useOf_44 : decode cX13_useOf 44 = .ok (.iload 9, 2) := by decide +kernel
theorem dX13_useOf_46 : decode cX13_useOf 46 = .ok (.imul, 1) := by decide +kernel
theorem dX13_useOf_47 : decode cX13_useOf 47 = .ok (.iload 10, 2) := by decide +kernel
theorem dX13_useOf_49 : decode cX13_useOf 49 = .ok (.iadd, 1) := by decide +kernel
theorem dX13_useOf_50 : decode cX13_useOf 50 = .ok (.aload_n 0, 1) := by decide +kernel
theorem dX13_useOf_51 : decode cX13_useOf 51 = .ok (.getfield 825, 3) := by decide +kernel
theorem dX13_useOf_54 : decode cX13_useOf 54 = .ok (.iconst 4, 1) := by decide +kernel
theorem dX13_useOf_55 : decode cX13_useOf 55 = .ok (.iload_n 1, 1) := by decide +kernel
theorem dX13_useOf_56 : decode cX13_useOf 56 = .ok (.imul, 1) := by decide +kernel
theorem dX13_useOf_57 : decode cX13_useOf 57 = .ok (.iload 10, 2) := by decide +kernel
theorem dX13_useOf_59 : decode cX13_useOf 59 = .ok (.iadd, 1) := by decide +kernel
theorem dX13_useOf_60 : decode cX13_useOf 60 = .ok (.laload, 1) := by decide +kernel
theorem dX13_useOf_61 : decode cX13_useOf 61 = .ok (.lastore, 1) := by decide +kernel
theorem dX13_useOf_62 : decode cX13_useOf 62 = .ok (.iinc 10 1, 3) := by decide +kernel
theorem dX13_useOf_65 : decode cX13_useOf 65 = .ok (.goto (-37), 3) := by decide +kernel
theorem dX13_useOf_68 : decode cX13_useOf 68 = .ok (.aload_n 0, 1) := by decide +kernel
theorem dX13_useOf_69 : decode cX13_useOf 69 = .ok (.iload 9, 2) := by decide +kernel
theorem dX13_useOf_71 : decode cX13_useOf 71 = .ok (.invokevirtual 897, 3) := by decide +kernel
theorem dX13_useOf_74 : decode cX13_useOf 74 = .ok (.ireturn, 1) := by decide +kernel
theorem dX13_copyOf_0 : decode cX13_copyOf 0 = .ok (.aload_n 0, 1) := by decide +kernel
theorem dX13_copyOf_1 : decode cX13_copyOf 1 = .ok (.bipush 16, 2) := by decide +kernel
theorem dX13_copyOf_3 : decode cX13_copyOf 3 = .ok (.aload_n 0, 1) := by decide +kernel
theorem dX13_copyOf_4 : decode cX13_copyOf 4 = .ok (.getfield 212, 3) := by decide +kernel
theorem dX13_copyOf_7 : decode cX13_copyOf 7 = .ok (.iload_n 1, 1) := by decide +kernel
theorem dX13_copyOf_8 : decode cX13_copyOf 8 = .ok (.laload, 1) := by decide +kernel
theorem dX13_copyOf_9 : decode cX13_copyOf 9 = .ok (.aload_n 0, 1) := by decide +kernel
theorem dX13_copyOf_10 : decode cX13_copyOf 10 = .ok (.getfield 185, 3) := by decide +kernel
theorem dX13_copyOf_13 : decode cX13_copyOf 13 = .ok (.iload_n 1, 1) := by decide +kernel
theorem dX13_copyOf_14 : decode cX13_copyOf 14 = .ok (.laload, 1) := by decide +kernel
theorem dX13_copyOf_15 : decode cX13_copyOf 15 = .ok (.lconst 0, 1) := by decide +kernel
theorem dX13_copyOf_16 : decode cX13_copyOf 16 = .ok (.invokevirtual 893, 3) := by decide +kernel
theorem dX13_copyOf_19 : decode cX13_copyOf 19 = .ok (.istore_n 2, 1) := by decide +kernel
theorem dX13_copyOf_20 : decode cX13_copyOf 20 = .ok (.aload_n 0, 1) := by decide +kernel
theorem dX13_copyOf_21 : decode cX13_copyOf 21 = .ok (.getfield 887, 3) := by decide +kernel
theorem dX13_copyOf_24 : decode cX13_copyOf 24 = .ok (.iload_n 2, 1) := by decide +kernel
theorem dX13_copyOf_25 : decode cX13_copyOf 25 = .ok (.aload_n 0, 1) := by decide +kernel
theorem dX13_copyOf_26 : decode cX13_copyOf 26 = .ok (.getfield 206, 3) := by decide +kernel
theorem dX13_copyOf_29 : decode cX13_copyOf 29 = .ok (.iload_n 1, 1) := by decide +kernel
theorem dX13_copyOf_30 : decode cX13_copyOf 30 = .ok (.iaload, 1) := by decide +kernel
theorem dX13_copyOf_31 : decode cX13_copyOf 31 = .ok (.iastore, 1) := by decide +kernel
theorem dX13_copyOf_32 : decode cX13_copyOf 32 = .ok (.aload_n 0, 1) := by decide +kernel
theorem dX13_copyOf_33 : decode cX13_copyOf 33 = .ok (.iload_n 2, 1) := by decide +kernel
theorem dX13_copyOf_34 : decode cX13_copyOf 34 = .ok (.invokevirtual 897, 3) := by decide +kernel
theorem dX13_copyOf_37 : decode cX13_copyOf 37 = .ok (.ireturn, 1) := by decide +kernel
theorem dX13_fit_0 : decode cX13_fit 0 = .ok (.aload_n 0, 1) := by decide +kernel
theorem dX13_fit_1 : decode cX13_fit 1 = .ok (.getfield 191, 3) := by decide +kernel
theorem dX13_fit_4 : decode cX13_fit 4 = .ok (.iload_n 1, 1) := by decide +kernel
theorem dX13_fit_5 : decode cX13_fit 5 = .ok (.laload, 1) := by decide +kernel
theorem dX13_fit_6 : decode cX13_fit 6 = .ok (.lstore 4, 2) := by decide +kernel
theorem dX13_fit_8 : decode cX13_fit 8 = .ok (.lload 4, 2) := by decide +kernel
theorem dX13_fit_10 : decode cX13_fit 10 = .ok (.invokestatic 37, 3) := by decide +kernel
theorem dX13_fit_13 : decode cX13_fit 13 = .ok (.ifCond .eq 52, 3) := by decide +kernel
theorem dX13_fit_16 : decode cX13_fit 16 = .ok (.lload_n 2, 1) := by decide +kernel
theorem dX13_fit_17 : decode cX13_fit 17 = .ok (.invokestatic 37, 3) := by decide +kernel
theorem dX13_fit_20 : decode cX13_fit 20 = .ok (.ifCond .eq 45, 3) := by decide +kernel
theorem dX13_fit_23 : decode cX13_fit 23 = .ok (.lload 4, 2) := by decide +kernel
theorem dX13_fit_25 : decode cX13_fit 25 = .ok (.lload_n 2, 1) := by decide +kernel
theorem dX13_fit_26 : decode cX13_fit 26 = .ok (.lcmp, 1) := by decide +kernel
theorem dX13_fit_27 : decode cX13_fit 27 = .ok (.ifCond .eq 38, 3) := by decide +kernel
theorem dX13_fit_30 : decode cX13_fit 30 = .ok (.lload_n 2, 1) := by decide +kernel
theorem dX13_fit_31 : decode cX13_fit 31 = .ok (.ldc2_w 522, 3) := by decide +kernel
theorem dX13_fit_34 : decode cX13_fit 34 = .ok (.lcmp, 1) := by decide +kernel
theorem dX13_fit_35 : decode cX13_fit 35 = .ok (.ifCond .eq 30, 3) := by decide +kernel
theorem dX13_fit_38 : decode cX13_fit 38 = .ok (.aload_n 0, 1) := by decide +kernel
theorem dX13_fit_39 : decode cX13_fit 39 = .ok (.bipush 17, 2) := by decide +kernel
theorem dX13_fit_41 : decode cX13_fit 41 = .ok (.lload 4, 2) := by decide +kernel
theorem dX13_fit_43 : decode cX13_fit 43 = .ok (.lconst 0, 1) := by decide +kernel
theorem dX13_fit_44 : decode cX13_fit 44 = .ok (.lconst 0, 1) := by decide +kernel
theorem dX13_fit_45 : decode cX13_fit 45 = .ok (.invokevirtual 893, 3) := by decide +kernel
theorem dX13_fit_48 : decode cX13_fit 48 = .ok (.istore 6, 2) := by decide +kernel
theorem dX13_fit_50 : decode cX13_fit 50 = .ok (.aload_n 0, 1) := by decide +kernel
theorem dX13_fit_51 : decode cX13_fit 51 = .ok (.getfield 884, 3) := by decide +kernel
theorem dX13_fit_54 : decode cX13_fit 54 = .ok (.iload 6, 2) := by decide +kernel
theorem dX13_fit_56 : decode cX13_fit 56 = .ok (.lload_n 2, 1) := by decide +kernel
theorem dX13_fit_57 : decode cX13_fit 57 = .ok (.lastore, 1) := by decide +kernel
theorem dX13_fit_58 : decode cX13_fit 58 = .ok (.aload_n 0, 1) := by decide +kernel
theorem dX13_fit_59 : decode cX13_fit 59 = .ok (.iload 6, 2) := by decide +kernel
theorem dX13_fit_61 : decode cX13_fit 61 = .ok (.invokevirtual 897, 3) := by decide +kernel
theorem dX13_fit_64 : decode cX13_fit 64 = .ok (.pop, 1) := by decide +kernel
theorem dX13_fit_65 : decode cX13_fit 65 = .ok (.return_, 1) := by decide +kernel
theorem dX13_usesOfAll_0 : decode cX13_usesOfAll 0 = .ok (.aload_n 0, 1) := by decide +kernel
theorem dX13_usesOfAll_1 : decode cX13_usesOfAll 1 = .ok (.getfield 863, 3) := by decide +kernel
theorem dX13_usesOfAll_4 : decode cX13_usesOfAll 4 = .ok (.aload_n 0, 1) := by decide +kernel
theorem dX13_usesOfAll_5 : decode cX13_usesOfAll 5 = .ok (.getfield 84, 3) := by decide +kernel
theorem dX13_usesOfAll_8 : decode cX13_usesOfAll 8 = .ok (.iconst 0, 1) := by decide +kernel
theorem dX13_usesOfAll_9 : decode cX13_usesOfAll 9 = .ok (.iastore, 1) := by decide +kernel
theorem dX13_usesOfAll_10 : decode cX13_usesOfAll 10 = .ok (.iconst 0, 1) := by decide +kernel
theorem dX13_usesOfAll_11 : decode cX13_usesOfAll 11 = .ok (.istore_n 1, 1) := by decide +kernel
theorem dX13_usesOfAll_12 : decode cX13_usesOfAll 12 = .ok (.iload_n 1, 1) := by decide +kernel
theorem dX13_usesOfAll_13 : decode cX13_usesOfAll 13 = .ok (.aload_n 0, 1) := by decide +kernel
theorem dX13_usesOfAll_14 : decode cX13_usesOfAll 14 = .ok (.getfield 230, 3) := by decide +kernel
theorem dX13_usesOfAll_17 : decode cX13_usesOfAll 17 = .ok (.aload_n 0, 1) := by decide +kernel
theorem dX13_usesOfAll_18 : decode cX13_usesOfAll 18 = .ok (.getfield 84, 3) := by decide +kernel
theorem dX13_usesOfAll_21 : decode cX13_usesOfAll 21 = .ok (.iaload, 1) := by decide +kernel
theorem dX13_usesOfAll_22 : decode cX13_usesOfAll 22 = .ok (.if_icmp .ge 22, 3) := by decide +kernel
theorem dX13_usesOfAll_25 : decode cX13_usesOfAll 25 = .ok (.aload_n 0, 1) := by decide +kernel
theorem dX13_usesOfAll_26 : decode cX13_usesOfAll 26 = .ok (.aload_n 0, 1) := by decide +kernel
theorem dX13_usesOfAll_27 : decode cX13_usesOfAll 27 = .ok (.getfield 84, 3) := by decide +kernel
theorem dX13_usesOfAll_30 : decode cX13_usesOfAll 30 = .ok (.bipush 12, 2) := by decide +kernel
theorem dX13_usesOfAll_32 : decode cX13_usesOfAll 32 = .ok (.imul, 1) := by decide +kernel
theorem dX13_usesOfAll_33 : decode cX13_usesOfAll 33 = .ok (.iload_n 1, 1) := by decide +kernel
theorem dX13_usesOfAll_34 : decode cX13_usesOfAll 34 = .ok (.iadd, 1) := by decide +kernel
theorem dX13_usesOfAll_35 : decode cX13_usesOfAll 35 = .ok (.invokevirtual 900, 3) := by decide +kernel
theorem dX13_usesOfAll_38 : decode cX13_usesOfAll 38 = .ok (.iinc 1 1, 3) := by decide +kernel
theorem dX13_usesOfAll_41 : decode cX13_usesOfAll 41 = .ok (.goto (-29), 3) := by decide +kernel
theorem dX13_usesOfAll_44 : decode cX13_usesOfAll 44 = .ok (.return_, 1) := by decide +kernel
theorem dX13_usesOf_0 : decode cX13_usesOf 0 = .ok (.aload_n 0, 1) := by decide +kernel
theorem dX13_usesOf_1 : decode cX13_usesOf 1 = .ok (.iload_n 1, 1) := by decide +kernel
theorem dX13_usesOf_2 : decode cX13_usesOf 2 = .ok (.putfield 745, 3) := by decide +kernel
theorem dX13_usesOf_5 : decode cX13_usesOf 5 = .ok (.aload_n 0, 1) := by decide +kernel
theorem dX13_usesOf_6 : decode cX13_usesOf 6 = .ok (.iconst 0, 1) := by decide +kernel
theorem dX13_usesOf_7 : decode cX13_usesOf 7 = .ok (.putfield 714, 3) := by decide +kernel
theorem dX13_usesOf_10 : decode cX13_usesOf 10 = .ok (.aload_n 0, 1) := by decide +kernel
theorem dX13_usesOf_11 : decode cX13_usesOf 11 = .ok (.getfield 269, 3) := by decide +kernel
theorem dX13_usesOf_14 : decode cX13_usesOf 14 = .ok (.iload_n 1, 1) := by decide +kernel
theorem dX13_usesOf_15 : decode cX13_usesOf 15 = .ok (.laload, 1) := by decide +kernel
theorem dX13_usesOf_16 : decode cX13_usesOf 16 = .ok (.lconst 0, 1) := by decide +kernel
theorem dX13_usesOf_17 : decode cX13_usesOf 17 = .ok (.lcmp, 1) := by decide +kernel
theorem dX13_usesOf_18 : decode cX13_usesOf 18 = .ok (.ifCond .eq 18, 3) := by decide +kernel
theorem dX13_usesOf_21 : decode cX13_usesOf 21 = .ok (.aload_n 0, 1) := by decide +kernel
theorem dX13_usesOf_22 : decode cX13_usesOf 22 = .ok (.bipush 18, 2) := by decide +kernel
theorem dX13_usesOf_24 : decode cX13_usesOf 24 = .ok (.aload_n 0, 1) := by decide +kernel
theorem dX13_usesOf_25 : decode cX13_usesOf 25 = .ok (.getfield 269, 3) := by decide +kernel
theorem dX13_usesOf_28 : decode cX13_usesOf 28 = .ok (.iload_n 1, 1) := by decide +kernel
theorem dX13_usesOf_29 : decode cX13_usesOf 29 = .ok (.laload, 1) := by decide +kernel
theorem dX13_usesOf_30 : decode cX13_usesOf 30 = .ok (.lconst 0, 1) := by decide +kernel
theorem dX13_usesOf_31 : decode cX13_usesOf 31 = .ok (.lconst 0, 1) := by decide +kernel
theorem dX13_usesOf_32 : decode cX13_usesOf 32 = .ok (.invokevirtual 903, 3) := by decide +kernel
theorem dX13_usesOf_35 : decode cX13_usesOf 35 = .ok (.pop, 1) := by decide +kernel
theorem dX13_usesOf_36 : decode cX13_usesOf 36 = .ok (.iconst 0, 1) := by decide +kernel
theorem dX13_usesOf_37 : decode cX13_usesOf 37 = .ok (.istore_n 2, 1) := by decide +kernel
theorem dX13_usesOf_38 : decode cX13_usesOf 38 = .ok (.iload_n 2, 1) := by decide +kernel
theorem dX13_usesOf_39 : decode cX13_usesOf 39 = .ok (.aload_n 0, 1) := by decide +kernel
theorem dX13_usesOf_40 : decode cX13_usesOf 40 = .ok (.getfield 283, 3) := by decide +kernel
theorem dX13_usesOf_43 : decode cX13_usesOf 43 = .ok (.iload_n 1, 1) := by decide +kernel
theorem dX13_usesOf_44 : decode cX13_usesOf 44 = .ok (.iaload, 1) := by decide +kernel
theorem dX13_usesOf_45 : decode cX13_usesOf 45 = .ok (.if_icmp .ge 28, 3) := by decide +kernel
theorem dX13_usesOf_48 : decode cX13_usesOf 48 = .ok (.aload_n 0, 1) := by decide +kernel
theorem dX13_usesOf_49 : decode cX13_usesOf 49 = .ok (.bipush 19, 2) := by decide +kernel
theorem dX13_usesOf_51 : decode cX13_usesOf 51 = .ok (.aload_n 0, 1) := by decide +kernel
theorem dX13_usesOf_52 : decode cX13_usesOf 52 = .ok (.getfield 288, 3) := by decide +kernel
theorem dX13_usesOf_55 : decode cX13_usesOf 55 = .ok (.iconst 4, 1) := by decide +kernel
theorem dX13_usesOf_56 : decode cX13_usesOf 56 = .ok (.iload_n 1, 1) := by decide +kernel
theorem dX13_usesOf_57 : decode cX13_usesOf 57 = .ok (.imul, 1) := by decide +kernel
theorem dX13_usesOf_58 : decode cX13_usesOf 58 = .ok (.iload_n 2, 1) := by decide +kernel
theorem dX13_usesOf_59 : decode cX13_usesOf 59 = .ok (.iadd, 1) := by decide +kernel
theorem dX13_usesOf_60 : decode cX13_usesOf 60 = .ok (.laload, 1) := by decide +kernel
theorem dX13_usesOf_61 : decode cX13_usesOf 61 = .ok (.lconst 0, 1) := by decide +kernel
theorem dX13_usesOf_62 : decode cX13_usesOf 62 = .ok (.lconst 0, 1) := by decide +kernel
theorem dX13_usesOf_63 : decode cX13_usesOf 63 = .ok (.invokevirtual 903, 3) := by decide +kernel
theorem dX13_usesOf_66 : decode cX13_usesOf 66 = .ok (.pop, 1) := by decide +kernel
theorem dX13_usesOf_67 : decode cX13_usesOf 67 = .ok (.iinc 2 1, 3) := by decide +kernel
theorem dX13_usesOf_70 : decode cX13_usesOf 70 = .ok (.goto (-32), 3) := by decide +kernel
theorem dX13_usesOf_73 : decode cX13_usesOf 73 = .ok (.iconst 0, 1) := by decide +kernel
theorem dX13_usesOf_74 : decode cX13_usesOf 74 = .ok (.istore_n 2, 1) := by decide +kernel
theorem dX13_usesOf_75 : decode cX13_usesOf 75 = .ok (.iload_n 2, 1) := by decide +kernel
theorem dX13_usesOf_76 : decode cX13_usesOf 76 = .ok (.aload_n 0, 1) := by decide +kernel
theorem dX13_usesOf_77 : decode cX13_usesOf 77 = .ok (.getfield 275, 3) := by decide +kernel
theorem dX13_usesOf_80 : decode cX13_usesOf 80 = .ok (.iload_n 1, 1) := by decide +kernel
theorem dX13_usesOf_81 : decode cX13_usesOf 81 = .ok (.iaload, 1) := by decide +kernel
theorem dX13_usesOf_82 : decode cX13_usesOf 82 = .ok (.if_icmp .ge 190, 3) := by decide +kernel
theorem dX13_usesOf_85 : decode cX13_usesOf 85 = .ok (.iload_n 1, 1) := by decide +kernel
theorem dX13_usesOf_86 : decode cX13_usesOf 86 = .ok (.bipush 34, 2) := by decide +kernel
theorem dX13_usesOf_88 : decode cX13_usesOf 88 = .ok (.imul, 1) := by decide +kernel
theorem dX13_usesOf_89 : decode cX13_usesOf 89 = .ok (.iload_n 2, 1) := by decide +kernel
theorem dX13_usesOf_90 : decode cX13_usesOf 90 = .ok (.iadd, 1) := by decide +kernel
theorem dX13_usesOf_91 : decode cX13_usesOf 91 = .ok (.istore_n 3, 1) := by decide +kernel
theorem dX13_usesOf_92 : decode cX13_usesOf 92 = .ok (.aload_n 0, 1) := by decide +kernel
theorem dX13_usesOf_93 : decode cX13_usesOf 93 = .ok (.iload_n 3, 1) := by decide +kernel
theorem dX13_usesOf_94 : decode cX13_usesOf 94 = .ok (.putfield 748, 3) := by decide +kernel
theorem dX13_usesOf_97 : decode cX13_usesOf 97 = .ok (.aload_n 0, 1) := by decide +kernel
theorem dX13_usesOf_98 : decode cX13_usesOf 98 = .ok (.getfield 350, 3) := by decide +kernel
theorem dX13_usesOf_101 : decode cX13_usesOf 101 = .ok (.iload_n 3, 1) := by decide +kernel
theorem dX13_usesOf_102 : decode cX13_usesOf 102 = .ok (.baload, 1) := by decide +kernel
theorem dX13_usesOf_103 : decode cX13_usesOf 103 = .ok (.ifCond .eq 18, 3) := by decide +kernel
theorem dX13_usesOf_106 : decode cX13_usesOf 106 = .ok (.aload_n 0, 1) := by decide +kernel
theorem dX13_usesOf_107 : decode cX13_usesOf 107 = .ok (.getfield 386, 3) := by decide +kernel
theorem dX13_usesOf_110 : decode cX13_usesOf 110 = .ok (.iload_n 3, 1) := by decide +kernel
theorem dX13_usesOf_111 : decode cX13_usesOf 111 = .ok (.aload_n 0, 1) := by decide +kernel
theorem dX13_usesOf_112 : decode cX13_usesOf 112 = .ok (.iload_n 1, 1) := by decide +kernel
theorem dX13_usesOf_113 : decode cX13_usesOf 113 = .ok (.iload_n 3, 1) := by decide +kernel
theorem dX13_usesOf_114 : decode cX13_usesOf 114 = .ok (.invokevirtual 906, 3) := by decide +kernel
theorem dX13_usesOf_117 : decode cX13_usesOf 117 = .ok (.iastore, 1) := by decide +kernel
theorem dX13_usesOf_118 : decode cX13_usesOf 118 = .ok (.goto 148, 3) := by decide +kernel
theorem dX13_usesOf_121 : decode cX13_usesOf 121 = .ok (.aload_n 0, 1) := by decide +kernel
theorem dX13_usesOf_122 : decode cX13_usesOf 122 = .ok (.getfield 402, 3) := by decide +kernel
theorem dX13_usesOf_125 : decode cX13_usesOf 125 = .ok (.iload_n 3, 1) := by decide +kernel
theorem dX13_usesOf_126 : decode cX13_usesOf 126 = .ok (.iaload, 1) := by decide +kernel
theorem dX13_usesOf_127 : decode cX13_usesOf 127 = .ok (.ifCond .ne 65, 3) := by decide +kernel
theorem dX13_usesOf_130 : decode cX13_usesOf 130 = .ok (.aload_n 0, 1) := by decide +kernel
theorem dX13_usesOf_131 : decode cX13_usesOf 131 = .ok (.getfield 377, 3) := by decide +kernel
theorem dX13_usesOf_134 : decode cX13_usesOf 134 = .ok (.iload_n 3, 1) := by decide +kernel
theorem dX13_usesOf_135 : decode cX13_usesOf 135 = .ok (.baload, 1) := by decide +kernel
theorem dX13_usesOf_136 : decode cX13_usesOf 136 = .ok (.ifCond .eq 16, 3) := by decide +kernel
theorem dX13_usesOf_139 : decode cX13_usesOf 139 = .ok (.aload_n 0, 1) := by decide +kernel
theorem dX13_usesOf_140 : decode cX13_usesOf 140 = .ok (.aload_n 0, 1) := by decide +kernel
theorem dX13_usesOf_141 : decode cX13_usesOf 141 = .ok (.getfield 365, 3) := by decide +kernel
theorem dX13_usesOf_144 : decode cX13_usesOf 144 = .ok (.iload_n 3, 1) := by decide +kernel
theorem dX13_usesOf_145 : decode cX13_usesOf 145 = .ok (.iaload, 1) := by decide +kernel
theorem dX13_usesOf_146 : decode cX13_usesOf 146 = .ok (.invokevirtual 909, 3) := by decide +kernel
theorem dX13_usesOf_149 : decode cX13_usesOf 149 = .ok (.goto 117, 3) := by decide +kernel
theorem dX13_usesOf_152 : decode cX13_usesOf 152 = .ok (.aload_n 0, 1) := by decide +kernel
theorem dX13_usesOf_153 : decode cX13_usesOf 153 = .ok (.getfield 365, 3) := by decide +kernel
theorem dX13_usesOf_156 : decode cX13_usesOf 156 = .ok (.iload_n 3, 1) := by decide +kernel
theorem dX13_usesOf_157 : decode cX13_usesOf 157 = .ok (.iaload, 1) := by decide +kernel
theorem dX13_usesOf_158 : decode cX13_usesOf 158 = .ok (.bipush (-2), 2) := by decide +kernel
theorem dX13_usesOf_160 : decode cX13_usesOf 160 = .ok (.if_icmp .eq 106, 3) := by decide +kernel
theorem dX13_usesOf_163 : decode cX13_usesOf 163 = .ok (.aload_n 0, 1) := by decide +kernel
theorem dX13_usesOf_164 : decode cX13_usesOf 164 = .ok (.aload_n 0, 1) := by decide +kernel
theorem dX13_usesOf_165 : decode cX13_usesOf 165 = .ok (.getfield 365, 3) := by decide +kernel
theorem dX13_usesOf_168 : decode cX13_usesOf 168 = .ok (.iload_n 3, 1) := by decide +kernel
theorem dX13_usesOf_169 : decode cX13_usesOf 169 = .ok (.iaload, 1) := by decide +kernel
theorem dX13_usesOf_170 : decode cX13_usesOf 170 = .ok (.invokevirtual 912, 3) := by decide +kernel
theorem dX13_usesOf_173 : decode cX13_usesOf 173 = .ok (.aload_n 0, 1) := by decide +kernel
theorem dX13_usesOf_174 : decode cX13_usesOf 174 = .ok (.aload_n 0, 1) := by decide +kernel
theorem dX13_usesOf_175 : decode cX13_usesOf 175 = .ok (.getfield 365, 3) := by decide +kernel
theorem dX13_usesOf_178 : decode cX13_usesOf 178 = .ok (.iload_n 3, 1) := by decide +kernel
theorem dX13_usesOf_179 : decode cX13_usesOf 179 = .ok (.iaload, 1) := by decide +kernel
theorem dX13_usesOf_180 : decode cX13_usesOf 180 = .ok (.aload_n 0, 1) := by decide +kernel
theorem dX13_usesOf_181 : decode cX13_usesOf 181 = .ok (.getfield 359, 3) := by decide +kernel
theorem dX13_usesOf_184 : decode cX13_usesOf 184 = .ok (.iload_n 3, 1) := by decide +kernel
theorem dX13_usesOf_185 : decode cX13_usesOf 185 = .ok (.laload, 1) := by decide +kernel
theorem dX13_usesOf_186 : decode cX13_usesOf 186 = .ok (.invokevirtual 915, 3) := by decide +kernel
theorem dX13_usesOf_189 : decode cX13_usesOf 189 = .ok (.goto 77, 3) := by decide +kernel
theorem dX13_usesOf_192 : decode cX13_usesOf 192 = .ok (.aload_n 0, 1) := by decide +kernel
theorem dX13_usesOf_193 : decode cX13_usesOf 193 = .ok (.getfield 402, 3) := by decide +kernel
theorem dX13_usesOf_196 : decode cX13_usesOf 196 = .ok (.iload_n 3, 1) := by decide +kernel
theorem dX13_usesOf_197 : decode cX13_usesOf 197 = .ok (.iaload, 1) := by decide +kernel
theorem dX13_usesOf_198 : decode cX13_usesOf 198 = .ok (.iconst 2, 1) := by decide +kernel
theorem dX13_usesOf_199 : decode cX13_usesOf 199 = .ok (.if_icmp .ne 46, 3) := by decide +kernel
theorem dX13_usesOf_202 : decode cX13_usesOf 202 = .ok (.aload_n 0, 1) := by decide +kernel
theorem dX13_usesOf_203 : decode cX13_usesOf 203 = .ok (.iload_n 3, 1) := by decide +kernel
theorem dX13_usesOf_204 : decode cX13_usesOf 204 = .ok (.invokevirtual 768, 3) := by decide +kernel
theorem dX13_usesOf_207 : decode cX13_usesOf 207 = .ok (.ifCond .ne 38, 3) := by decide +kernel
theorem dX13_usesOf_210 : decode cX13_usesOf 210 = .ok (.aload_n 0, 1) := by decide +kernel
theorem dX13_usesOf_211 : decode cX13_usesOf 211 = .ok (.getfield 386, 3) := by decide +kernel
theorem dX13_usesOf_214 : decode cX13_usesOf 214 = .ok (.iload_n 3, 1) := by decide +kernel
theorem dX13_usesOf_215 : decode cX13_usesOf 215 = .ok (.aload_n 0, 1) := by decide +kernel
theorem dX13_usesOf_216 : decode cX13_usesOf 216 = .ok (.iload_n 1, 1) := by decide +kernel
theorem dX13_usesOf_217 : decode cX13_usesOf 217 = .ok (.invokevirtual 558, 3) := by decide +kernel
theorem dX13_usesOf_220 : decode cX13_usesOf 220 = .ok (.sipush 204, 3) := by decide +kernel
theorem dX13_usesOf_223 : decode cX13_usesOf 223 = .ok (.if_icmp .ne 8, 3) := by decide +kernel
theorem dX13_usesOf_226 : decode cX13_usesOf 226 = .ok (.bipush (-2), 2) := by decide +kernel
theorem dX13_usesOf_228 : decode cX13_usesOf 228 = .ok (.goto 16, 3) := by decide +kernel
theorem dX13_usesOf_231 : decode cX13_usesOf 231 = .ok (.aload_n 0, 1) := by decide +kernel
theorem dX13_usesOf_232 : decode cX13_usesOf 232 = .ok (.iconst 2, 1) := by decide +kernel
theorem dX13_usesOf_233 : decode cX13_usesOf 233 = .ok (.aload_n 0, 1) := by decide +kernel
theorem dX13_usesOf_234 : decode cX13_usesOf 234 = .ok (.getfield 269, 3) := by decide +kernel
theorem dX13_usesOf_237 : decode cX13_usesOf 237 = .ok (.iload_n 1, 1) := by decide +kernel
theorem dX13_usesOf_238 : decode cX13_usesOf 238 = .ok (.laload, 1) := by decide +kernel
theorem dX13_usesOf_239 : decode cX13_usesOf 239 = .ok (.lconst 0, 1) := by decide +kernel
theorem dX13_usesOf_240 : decode cX13_usesOf 240 = .ok (.lconst 0, 1) := by decide +kernel
theorem dX13_usesOf_241 : decode cX13_usesOf 241 = .ok (.invokevirtual 903, 3) := by decide +kernel
theorem dX13_usesOf_244 : decode cX13_usesOf 244 = .ok (.iastore, 1) := by decide +kernel
theorem dX13_usesOf_245 : decode cX13_usesOf 245 = .ok (.aload_n 0, 1) := by decide +kernel
theorem dX13_usesOf_246 : decode cX13_usesOf 246 = .ok (.getfield 368, 3) := by decide +kernel
theorem dX13_usesOf_249 : decode cX13_usesOf 249 = .ok (.iload_n 3, 1) := by decide +kernel
theorem dX13_usesOf_250 : decode cX13_usesOf 250 = .ok (.iaload, 1) := by decide +kernel
theorem dX13_usesOf_251 : decode cX13_usesOf 251 = .ok (.bipush (-2), 2) := by decide +kernel
theorem dX13_usesOf_253 : decode cX13_usesOf 253 = .ok (.if_icmp .eq 13, 3) := by decide +kernel
theorem dX13_usesOf_256 : decode cX13_usesOf 256 = .ok (.aload_n 0, 1) := by decide +kernel
theorem dX13_usesOf_257 : decode cX13_usesOf 257 = .ok (.aload_n 0, 1) := by decide +kernel
theorem dX13_usesOf_258 : decode cX13_usesOf 258 = .ok (.getfield 368, 3) := by decide +kernel
theorem dX13_usesOf_261 : decode cX13_usesOf 261 = .ok (.iload_n 3, 1) := by decide +kernel
theorem dX13_usesOf_262 : decode cX13_usesOf 262 = .ok (.iaload, 1) := by decide +kernel
theorem dX13_usesOf_263 : decode cX13_usesOf 263 = .ok (.invokevirtual 919, 3) := by decide +kernel
theorem dX13_usesOf_266 : decode cX13_usesOf 266 = .ok (.iinc 2 1, 3) := by decide +kernel
theorem dX13_usesOf_269 : decode cX13_usesOf 269 = .ok (.goto (-194), 3) := by decide +kernel
theorem dX13_usesOf_272 : decode cX13_usesOf 272 = .ok (.return_, 1) := by decide +kernel
theorem dX13_bridgeUse_0 : decode cX13_bridgeUse 0 = .ok (.aload_n 0, 1) := by decide +kernel
theorem dX13_bridgeUse_1 : decode cX13_bridgeUse 1 = .ok (.iload_n 1, 1) := by decide +kernel
theorem dX13_bridgeUse_2 : decode cX13_bridgeUse 2 = .ok (.invokevirtual 548, 3) := by decide +kernel
theorem dX13_bridgeUse_5 : decode cX13_bridgeUse 5 = .ok (.ifCond .eq 8, 3) := by decide +kernel
theorem dX13_bridgeUse_8 : decode cX13_bridgeUse 8 = .ok (.bipush 8, 2) := by decide +kernel
theorem dX13_bridgeUse_10 : decode cX13_bridgeUse 10 = .ok (.goto 5, 3) := by decide +kernel
theorem dX13_bridgeUse_13 : decode cX13_bridgeUse 13 = .ok (.bipush 7, 2) := by decide +kernel
theorem dX13_bridgeUse_15 : decode cX13_bridgeUse 15 = .ok (.aload_n 0, 1) := by decide +kernel
theorem dX13_bridgeUse_16 : decode cX13_bridgeUse 16 = .ok (.getfield 341, 3) := by decide +kernel
theorem dX13_bridgeUse_19 : decode cX13_bridgeUse 19 = .ok (.iload_n 2, 1) := by decide +kernel
theorem dX13_bridgeUse_20 : decode cX13_bridgeUse 20 = .ok (.baload, 1) := by decide +kernel
theorem dX13_bridgeUse_21 : decode cX13_bridgeUse 21 = .ok (.ifCond .eq 7, 3) := by decide +kernel
theorem dX13_bridgeUse_24 : decode cX13_bridgeUse 24 = .ok (.iconst 2, 1) := by decide +kernel
theorem dX13_bridgeUse_25 : decode cX13_bridgeUse 25 = .ok (.goto 4, 3) := by decide +kernel
theorem dX13_bridgeUse_28 : decode cX13_bridgeUse 28 = .ok (.iconst 0, 1) := by decide +kernel
theorem dX13_bridgeUse_29 : decode cX13_bridgeUse 29 = .ok (.iadd, 1) := by decide +kernel
theorem dX13_bridgeUse_30 : decode cX13_bridgeUse 30 = .ok (.istore_n 3, 1) := by decide +kernel
theorem dX13_bridgeUse_31 : decode cX13_bridgeUse 31 = .ok (.aload_n 0, 1) := by decide +kernel
theorem dX13_bridgeUse_32 : decode cX13_bridgeUse 32 = .ok (.iload_n 3, 1) := by decide +kernel
theorem dX13_bridgeUse_33 : decode cX13_bridgeUse 33 = .ok (.aload_n 0, 1) := by decide +kernel
theorem dX13_bridgeUse_34 : decode cX13_bridgeUse 34 = .ok (.getfield 256, 3) := by decide +kernel
theorem dX13_bridgeUse_37 : decode cX13_bridgeUse 37 = .ok (.iload_n 1, 1) := by decide +kernel
theorem dX13_bridgeUse_38 : decode cX13_bridgeUse 38 = .ok (.laload, 1) := by decide +kernel
theorem dX13_bridgeUse_39 : decode cX13_bridgeUse 39 = .ok (.aload_n 0, 1) := by decide +kernel
theorem dX13_bridgeUse_40 : decode cX13_bridgeUse 40 = .ok (.getfield 356, 3) := by decide +kernel
theorem dX13_bridgeUse_43 : decode cX13_bridgeUse 43 = .ok (.iload_n 2, 1) := by decide +kernel
theorem dX13_bridgeUse_44 : decode cX13_bridgeUse 44 = .ok (.laload, 1) := by decide +kernel
theorem dX13_bridgeUse_45 : decode cX13_bridgeUse 45 = .ok (.aload_n 0, 1) := by decide +kernel
theorem dX13_bridgeUse_46 : decode cX13_bridgeUse 46 = .ok (.getfield 383, 3) := by decide +kernel
theorem dX13_bridgeUse_49 : decode cX13_bridgeUse 49 = .ok (.iload_n 2, 1) := by decide +kernel
theorem dX13_bridgeUse_50 : decode cX13_bridgeUse 50 = .ok (.laload, 1) := by decide +kernel
theorem dX13_bridgeUse_51 : decode cX13_bridgeUse 51 = .ok (.invokevirtual 893, 3) := by decide +kernel
theorem dX13_bridgeUse_54 : decode cX13_bridgeUse 54 = .ok (.istore 4, 2) := by decide +kernel
theorem dX13_bridgeUse_56 : decode cX13_bridgeUse 56 = .ok (.aload_n 0, 1) := by decide +kernel
theorem dX13_bridgeUse_57 : decode cX13_bridgeUse 57 = .ok (.getfield 881, 3) := by decide +kernel
theorem dX13_bridgeUse_60 : decode cX13_bridgeUse 60 = .ok (.iload 4, 2) := by decide +kernel
theorem dX13_bridgeUse_62 : decode cX13_bridgeUse 62 = .ok (.aload_n 0, 1) := by decide +kernel
theorem dX13_bridgeUse_63 : decode cX13_bridgeUse 63 = .ok (.getfield 362, 3) := by decide +kernel
theorem dX13_bridgeUse_66 : decode cX13_bridgeUse 66 = .ok (.iload_n 2, 1) := by decide +kernel
theorem dX13_bridgeUse_67 : decode cX13_bridgeUse 67 = .ok (.iaload, 1) := by decide +kernel
theorem dX13_bridgeUse_68 : decode cX13_bridgeUse 68 = .ok (.iastore, 1) := by decide +kernel
theorem dX13_bridgeUse_69 : decode cX13_bridgeUse 69 = .ok (.iconst 0, 1) := by decide +kernel
theorem dX13_bridgeUse_70 : decode cX13_bridgeUse 70 = .ok (.istore 5, 2) := by decide +kernel
theorem dX13_bridgeUse_72 : decode cX13_bridgeUse 72 = .ok (.iload 5, 2) := by decide +kernel
theorem dX13_bridgeUse_74 : decode cX13_bridgeUse 74 = .ok (.aload_n 0, 1) := by decide +kernel
theorem dX13_bridgeUse_75 : decode cX13_bridgeUse 75 = .ok (.getfield 362, 3) := by decide +kernel
theorem dX13_bridgeUse_78 : decode cX13_bridgeUse 78 = .ok (.iload_n 2, 1) := by decide +kernel
theorem dX13_bridgeUse_79 : decode cX13_bridgeUse 79 = .ok (.iaload, 1) := by decide +kernel
theorem dX13_bridgeUse_80 : decode cX13_bridgeUse 80 = .ok (.if_icmp .ge 32, 3) := by decide +kernel
theorem dX13_bridgeUse_83 : decode cX13_bridgeUse 83 = .ok (.aload_n 0, 1) := by decide +kernel
theorem dX13_bridgeUse_84 : decode cX13_bridgeUse 84 = .ok (.getfield 890, 3) := by decide +kernel
theorem dX13_bridgeUse_87 : decode cX13_bridgeUse 87 = .ok (.iconst 4, 1) := by decide +kernel
theorem dX13_bridgeUse_88 : decode cX13_bridgeUse 88 = .ok (.iload 4, 2) := by decide +kernel
theorem dX13_bridgeUse_90 : decode cX13_bridgeUse 90 = .ok (.imul, 1) := by decide +kernel
theorem dX13_bridgeUse_91 : decode cX13_bridgeUse 91 = .ok (.iload 5, 2) := by decide +kernel
theorem dX13_bridgeUse_93 : decode cX13_bridgeUse 93 = .ok (.iadd, 1) := by decide +kernel
theorem dX13_bridgeUse_94 : decode cX13_bridgeUse 94 = .ok (.aload_n 0, 1) := by decide +kernel
theorem dX13_bridgeUse_95 : decode cX13_bridgeUse 95 = .ok (.getfield 442, 3) := by decide +kernel
theorem dX13_bridgeUse_98 : decode cX13_bridgeUse 98 = .ok (.iconst 4, 1) := by decide +kernel
theorem dX13_bridgeUse_99 : decode cX13_bridgeUse 99 = .ok (.iload_n 2, 1) := by decide +kernel
theorem dX13_bridgeUse_100 : decode cX13_bridgeUse 100 = .ok (.imul, 1) := by decide +kernel
theorem dX13_bridgeUse_101 : decode cX13_bridgeUse 101 = .ok (.iload 5, 2) := by decide +kernel
theorem dX13_bridgeUse_103 : decode cX13_bridgeUse 103 = .ok (.iadd, 1) := by decide +kernel
theorem dX13_bridgeUse_104 : decode cX13_bridgeUse 104 = .ok (.laload, 1) := by decide +kernel
theorem dX13_bridgeUse_105 : decode cX13_bridgeUse 105 = .ok (.lastore, 1) := by decide +kernel
theorem dX13_bridgeUse_106 : decode cX13_bridgeUse 106 = .ok (.iinc 5 1, 3) := by decide +kernel
theorem dX13_bridgeUse_109 : decode cX13_bridgeUse 109 = .ok (.goto (-37), 3) := by decide +kernel
theorem dX13_bridgeUse_112 : decode cX13_bridgeUse 112 = .ok (.aload_n 0, 1) := by decide +kernel
theorem dX13_bridgeUse_113 : decode cX13_bridgeUse 113 = .ok (.iload 4, 2) := by decide +kernel
theorem dX13_bridgeUse_115 : decode cX13_bridgeUse 115 = .ok (.invokevirtual 897, 3) := by decide +kernel
theorem dX13_bridgeUse_118 : decode cX13_bridgeUse 118 = .ok (.istore 4, 2) := by decide +kernel
theorem dX13_bridgeUse_120 : decode cX13_bridgeUse 120 = .ok (.aload_n 0, 1) := by decide +kernel
theorem dX13_bridgeUse_121 : decode cX13_bridgeUse 121 = .ok (.getfield 383, 3) := by decide +kernel
theorem dX13_bridgeUse_124 : decode cX13_bridgeUse 124 = .ok (.iload_n 2, 1) := by decide +kernel
theorem dX13_bridgeUse_125 : decode cX13_bridgeUse 125 = .ok (.laload, 1) := by decide +kernel
theorem dX13_bridgeUse_126 : decode cX13_bridgeUse 126 = .ok (.invokestatic 37, 3) := by decide +kernel
theorem dX13_bridgeUse_129 : decode cX13_bridgeUse 129 = .ok (.ifCond .eq 80, 3) := by decide +kernel
theorem dX13_bridgeUse_132 : decode cX13_bridgeUse 132 = .ok (.aload_n 0, 1) := by decide +kernel
theorem dX13_bridgeUse_133 : decode cX13_bridgeUse 133 = .ok (.getfield 359, 3) := by decide +kernel
theorem dX13_bridgeUse_136 : decode cX13_bridgeUse 136 = .ok (.iload_n 2, 1) := by decide +kernel
theorem dX13_bridgeUse_137 : decode cX13_bridgeUse 137 = .ok (.laload, 1) := by decide +kernel
theorem dX13_bridgeUse_138 : decode cX13_bridgeUse 138 = .ok (.invokestatic 37, 3) := by decide +kernel
theorem dX13_bridgeUse_141 : decode cX13_bridgeUse 141 = .ok (.ifCond .eq 68, 3) := by decide +kernel
theorem dX13_bridgeUse_144 : decode cX13_bridgeUse 144 = .ok (.aload_n 0, 1) := by decide +kernel
theorem dX13_bridgeUse_145 : decode cX13_bridgeUse 145 = .ok (.getfield 383, 3) := by decide +kernel
theorem dX13_bridgeUse_148 : decode cX13_bridgeUse 148 = .ok (.iload_n 2, 1) := by decide +kernel
theorem dX13_bridgeUse_149 : decode cX13_bridgeUse 149 = .ok (.laload, 1) := by decide +kernel
theorem dX13_bridgeUse_150 : decode cX13_bridgeUse 150 = .ok (.aload_n 0, 1) := by decide +kernel
theorem dX13_bridgeUse_151 : decode cX13_bridgeUse 151 = .ok (.getfield 359, 3) := by decide +kernel
theorem dX13_bridgeUse_154 : decode cX13_bridgeUse 154 = .ok (.iload_n 2, 1) := by decide +kernel
theorem dX13_bridgeUse_155 : decode cX13_bridgeUse 155 = .ok (.laload, 1) := by decide +kernel
theorem dX13_bridgeUse_156 : decode cX13_bridgeUse 156 = .ok (.lcmp, 1) := by decide +kernel
theorem dX13_bridgeUse_157 : decode cX13_bridgeUse 157 = .ok (.ifCond .eq 52, 3) := by decide +kernel
theorem dX13_bridgeUse_160 : decode cX13_bridgeUse 160 = .ok (.aload_n 0, 1) := by decide +kernel
theorem dX13_bridgeUse_161 : decode cX13_bridgeUse 161 = .ok (.getfield 359, 3) := by decide +kernel
theorem dX13_bridgeUse_164 : decode cX13_bridgeUse 164 = .ok (.iload_n 2, 1) := by decide +kernel
theorem dX13_bridgeUse_165 : decode cX13_bridgeUse 165 = .ok (.laload, 1) := by decide +kernel
theorem dX13_bridgeUse_166 : decode cX13_bridgeUse 166 = .ok (.ldc2_w 522, 3) := by decide +kernel
theorem dX13_bridgeUse_169 : decode cX13_bridgeUse 169 = .ok (.lcmp, 1) := by decide +kernel
theorem dX13_bridgeUse_170 : decode cX13_bridgeUse 170 = .ok (.ifCond .eq 39, 3) := by decide +kernel
theorem dX13_bridgeUse_173 : decode cX13_bridgeUse 173 = .ok (.aload_n 0, 1) := by decide +kernel
theorem dX13_bridgeUse_174 : decode cX13_bridgeUse 174 = .ok (.bipush 17, 2) := by decide +kernel
theorem dX13_bridgeUse_176 : decode cX13_bridgeUse 176 = .ok (.aload_n 0, 1) := by decide +kernel
theorem dX13_bridgeUse_177 : decode cX13_bridgeUse 177 = .ok (.getfield 383, 3) := by decide +kernel
theorem dX13_bridgeUse_180 : decode cX13_bridgeUse 180 = .ok (.iload_n 2, 1) := by decide +kernel
theorem dX13_bridgeUse_181 : decode cX13_bridgeUse 181 = .ok (.laload, 1) := by decide +kernel
theorem dX13_bridgeUse_182 : decode cX13_bridgeUse 182 = .ok (.lconst 0, 1) := by decide +kernel
theorem dX13_bridgeUse_183 : decode cX13_bridgeUse 183 = .ok (.lconst 0, 1) := by decide +kernel
theorem dX13_bridgeUse_184 : decode cX13_bridgeUse 184 = .ok (.invokevirtual 893, 3) := by decide +kernel
theorem dX13_bridgeUse_187 : decode cX13_bridgeUse 187 = .ok (.istore 5, 2) := by decide +kernel
theorem dX13_bridgeUse_189 : decode cX13_bridgeUse 189 = .ok (.aload_n 0, 1) := by decide +kernel
theorem dX13_bridgeUse_190 : decode cX13_bridgeUse 190 = .ok (.getfield 884, 3) := by decide +kernel
theorem dX13_bridgeUse_193 : decode cX13_bridgeUse 193 = .ok (.iload 5, 2) := by decide +kernel
theorem dX13_bridgeUse_195 : decode cX13_bridgeUse 195 = .ok (.aload_n 0, 1) := by decide +kernel
theorem dX13_bridgeUse_196 : decode cX13_bridgeUse 196 = .ok (.getfield 359, 3) := by decide +kernel
theorem dX13_bridgeUse_199 : decode cX13_bridgeUse 199 = .ok (.iload_n 2, 1) := by decide +kernel
theorem dX13_bridgeUse_200 : decode cX13_bridgeUse 200 = .ok (.laload, 1) := by decide +kernel
theorem dX13_bridgeUse_201 : decode cX13_bridgeUse 201 = .ok (.lastore, 1) := by decide +kernel
theorem dX13_bridgeUse_202 : decode cX13_bridgeUse 202 = .ok (.aload_n 0, 1) := by decide +kernel
theorem dX13_bridgeUse_203 : decode cX13_bridgeUse 203 = .ok (.iload 5, 2) := by decide +kernel
theorem dX13_bridgeUse_205 : decode cX13_bridgeUse 205 = .ok (.invokevirtual 897, 3) := by decide +kernel
theorem dX13_bridgeUse_208 : decode cX13_bridgeUse 208 = .ok (.pop, 1) := by decide +kernel
theorem dX13_bridgeUse_209 : decode cX13_bridgeUse 209 = .ok (.iload 4, 2) := by decide +kernel
theorem dX13_bridgeUse_211 : decode cX13_bridgeUse 211 = .ok (.ireturn, 1) := by decide +kernel
theorem dX13_copies_0 : decode cX13_copies 0 = .ok (.aload_n 0, 1) := by decide +kernel
theorem dX13_copies_1 : decode cX13_copies 1 = .ok (.getfield 714, 3) := by decide +kernel
theorem dX13_copies_4 : decode cX13_copies 4 = .ok (.istore_n 2, 1) := by decide +kernel
theorem dX13_copies_5 : decode cX13_copies 5 = .ok (.iload_n 1, 1) := by decide +kernel
theorem dX13_copies_6 : decode cX13_copies 6 = .ok (.istore_n 3, 1) := by decide +kernel
theorem dX13_copies_7 : decode cX13_copies 7 = .ok (.aload_n 0, 1) := by decide +kernel
theorem dX13_copies_8 : decode cX13_copies 8 = .ok (.getfield 173, 3) := by decide +kernel
theorem dX13_copies_11 : decode cX13_copies 11 = .ok (.iload_n 3, 1) := by decide +kernel
theorem dX13_copies_12 : decode cX13_copies 12 = .ok (.iaload, 1) := by decide +kernel
theorem dX13_copies_13 : decode cX13_copies 13 = .ok (.invokestatic 723, 3) := by decide +kernel
theorem dX13_copies_16 : decode cX13_copies 16 = .ok (.ifCond .ne 14, 3) := by decide +kernel
theorem dX13_copies_19 : decode cX13_copies 19 = .ok (.aload_n 0, 1) := by decide +kernel
theorem dX13_copies_20 : decode cX13_copies 20 = .ok (.getfield 173, 3) := by decide +kernel
theorem dX13_copies_23 : decode cX13_copies 23 = .ok (.iload_n 3, 1) := by decide +kernel
theorem dX13_copies_24 : decode cX13_copies 24 = .ok (.iaload, 1) := by decide +kernel
theorem dX13_copies_25 : decode cX13_copies 25 = .ok (.bipush 11, 2) := by decide +kernel
theorem dX13_copies_27 : decode cX13_copies 27 = .ok (.if_icmp .ne 33, 3) := by decide +kernel
theorem dX13_copies_30 : decode cX13_copies 30 = .ok (.aload_n 0, 1) := by decide +kernel
theorem dX13_copies_31 : decode cX13_copies 31 = .ok (.getfield 726, 3) := by decide +kernel
theorem dX13_copies_34 : decode cX13_copies 34 = .ok (.aload_n 0, 1) := by decide +kernel
theorem dX13_copies_35 : decode cX13_copies 35 = .ok (.getfield 714, 3) := by decide +kernel
theorem dX13_copies_38 : decode cX13_copies 38 = .ok (.iload_n 3, 1) := by decide +kernel
theorem dX13_copies_39 : decode cX13_copies 39 = .ok (.iastore, 1) := by decide +kernel
theorem dX13_copies_40 : decode cX13_copies 40 = .ok (.aload_n 0, 1) := by decide +kernel
theorem dX13_copies_41 : decode cX13_copies 41 = .ok (.dup, 1) := by decide +kernel
theorem dX13_copies_42 : decode cX13_copies 42 = .ok (.getfield 714, 3) := by decide +kernel
theorem dX13_copies_45 : decode cX13_copies 45 = .ok (.iconst 1, 1) := by decide +kernel
theorem dX13_copies_46 : decode cX13_copies 46 = .ok (.iadd, 1) := by decide +kernel
theorem dX13_copies_47 : decode cX13_copies 47 = .ok (.putfield 714, 3) := by decide +kernel
theorem dX13_copies_50 : decode cX13_copies 50 = .ok (.aload_n 0, 1) := by decide +kernel
theorem dX13_copies_51 : decode cX13_copies 51 = .ok (.getfield 194, 3) := by decide +kernel
theorem dX13_copies_54 : decode cX13_copies 54 = .ok (.iload_n 3, 1) := by decide +kernel
theorem dX13_copies_55 : decode cX13_copies 55 = .ok (.iaload, 1) := by decide +kernel
theorem dX13_copies_56 : decode cX13_copies 56 = .ok (.istore_n 3, 1) := by decide +kernel
theorem dX13_copies_57 : decode cX13_copies 57 = .ok (.goto (-50), 3) := by decide +kernel
theorem dX13_copies_60 : decode cX13_copies 60 = .ok (.aload_n 0, 1) := by decide +kernel
theorem dX13_copies_61 : decode cX13_copies 61 = .ok (.getfield 173, 3) := by decide +kernel
theorem dX13_copies_64 : decode cX13_copies 64 = .ok (.iload_n 3, 1) := by decide +kernel
theorem dX13_copies_65 : decode cX13_copies 65 = .ok (.iaload, 1) := by decide +kernel
theorem dX13_copies_66 : decode cX13_copies 66 = .ok (.iconst 3, 1) := by decide +kernel
theorem dX13_copies_67 : decode cX13_copies 67 = .ok (.if_icmp .eq 13, 3) := by decide +kernel
theorem dX13_copies_70 : decode cX13_copies 70 = .ok (.aload_n 0, 1) := by decide +kernel
theorem dX13_copies_71 : decode cX13_copies 71 = .ok (.getfield 173, 3) := by decide +kernel
theorem dX13_copies_74 : decode cX13_copies 74 = .ok (.iload_n 3, 1) := by decide +kernel
theorem dX13_copies_75 : decode cX13_copies 75 = .ok (.iaload, 1) := by decide +kernel
theorem dX13_copies_76 : decode cX13_copies 76 = .ok (.iconst 5, 1) := by decide +kernel
theorem dX13_copies_77 : decode cX13_copies 77 = .ok (.if_icmp .ne 9, 3) := by decide +kernel
theorem dX13_copies_80 : decode cX13_copies 80 = .ok (.aload_n 0, 1) := by decide +kernel
theorem dX13_copies_81 : decode cX13_copies 81 = .ok (.iload_n 3, 1) := by decide +kernel
theorem dX13_copies_82 : decode cX13_copies 82 = .ok (.invokevirtual 922, 3) := by decide +kernel
theorem dX13_copies_85 : decode cX13_copies 85 = .ok (.pop, 1) := by decide +kernel
theorem dX13_copies_86 : decode cX13_copies 86 = .ok (.aload_n 0, 1) := by decide +kernel
theorem dX13_copies_87 : decode cX13_copies 87 = .ok (.getfield 714, 3) := by decide +kernel
theorem dX13_copies_90 : decode cX13_copies 90 = .ok (.iload_n 2, 1) := by decide +kernel
theorem dX13_copies_91 : decode cX13_copies 91 = .ok (.if_icmp .le 48, 3) := by decide +kernel
theorem dX13_copies_94 : decode cX13_copies 94 = .ok (.aload_n 0, 1) := by decide +kernel
theorem dX13_copies_95 : decode cX13_copies 95 = .ok (.dup, 1) := by decide +kernel
theorem dX13_copies_96 : decode cX13_copies 96 = .ok (.getfield 714, 3) := by decide +kernel
theorem dX13_copies_99 : decode cX13_copies 99 = .ok (.iconst 1, 1) := by decide +kernel
theorem dX13_copies_100 : decode cX13_copies 100 = .ok (.isub, 1) := by decide +kernel
theorem dX13_copies_101 : decode cX13_copies 101 = .ok (.putfield 714, 3) := by decide +kernel
theorem dX13_copies_104 : decode cX13_copies 104 = .ok (.aload_n 0, 1) := by decide +kernel
theorem dX13_copies_105 : decode cX13_copies 105 = .ok (.getfield 726, 3) := by decide +kernel
theorem dX13_copies_108 : decode cX13_copies 108 = .ok (.aload_n 0, 1) := by decide +kernel
theorem dX13_copies_109 : decode cX13_copies 109 = .ok (.getfield 714, 3) := by decide +kernel
theorem dX13_copies_112 : decode cX13_copies 112 = .ok (.iaload, 1) := by decide +kernel
theorem dX13_copies_113 : decode cX13_copies 113 = .ok (.istore_n 3, 1) := by decide +kernel
theorem dX13_copies_114 : decode cX13_copies 114 = .ok (.aload_n 0, 1) := by decide +kernel
theorem dX13_copies_115 : decode cX13_copies 115 = .ok (.getfield 173, 3) := by decide +kernel
theorem dX13_copies_118 : decode cX13_copies 118 = .ok (.iload_n 3, 1) := by decide +kernel
theorem dX13_copies_119 : decode cX13_copies 119 = .ok (.iaload, 1) := by decide +kernel
theorem dX13_copies_120 : decode cX13_copies 120 = .ok (.invokestatic 723, 3) := by decide +kernel
theorem dX13_copies_123 : decode cX13_copies 123 = .ok (.ifCond .eq (-37), 3) := by decide +kernel
theorem dX13_copies_126 : decode cX13_copies 126 = .ok (.aload_n 0, 1) := by decide +kernel
theorem dX13_copies_127 : decode cX13_copies 127 = .ok (.aload_n 0, 1) := by decide +kernel
theorem dX13_copies_128 : decode cX13_copies 128 = .ok (.getfield 197, 3) := by decide +kernel
theorem dX13_copies_131 : decode cX13_copies 131 = .ok (.iload_n 3, 1) := by decide +kernel
theorem dX13_copies_132 : decode cX13_copies 132 = .ok (.iaload, 1) := by decide +kernel
theorem dX13_copies_133 : decode cX13_copies 133 = .ok (.invokevirtual 909, 3) := by decide +kernel
theorem dX13_copies_136 : decode cX13_copies 136 = .ok (.goto (-50), 3) := by decide +kernel
theorem dX13_copies_139 : decode cX13_copies 139 = .ok (.return_, 1) := by decide +kernel
theorem dX13_usesE_0 : decode cX13_usesE 0 = .ok (.aload_n 0, 1) := by decide +kernel
theorem dX13_usesE_1 : decode cX13_usesE 1 = .ok (.getfield 714, 3) := by decide +kernel
theorem dX13_usesE_4 : decode cX13_usesE 4 = .ok (.istore_n 2, 1) := by decide +kernel
theorem dX13_usesE_5 : decode cX13_usesE 5 = .ok (.iload_n 1, 1) := by decide +kernel
theorem dX13_usesE_6 : decode cX13_usesE 6 = .ok (.istore_n 3, 1) := by decide +kernel
theorem dX13_usesE_7 : decode cX13_usesE 7 = .ok (.aload_n 0, 1) := by decide +kernel
theorem dX13_usesE_8 : decode cX13_usesE 8 = .ok (.getfield 173, 3) := by decide +kernel
theorem dX13_usesE_11 : decode cX13_usesE 11 = .ok (.iload_n 3, 1) := by decide +kernel
theorem dX13_usesE_12 : decode cX13_usesE 12 = .ok (.iaload, 1) := by decide +kernel
theorem dX13_usesE_13 : decode cX13_usesE 13 = .ok (.invokestatic 723, 3) := by decide +kernel
theorem dX13_usesE_16 : decode cX13_usesE 16 = .ok (.ifCond .ne 47, 3) := by decide +kernel
theorem dX13_usesE_19 : decode cX13_usesE 19 = .ok (.aload_n 0, 1) := by decide +kernel
theorem dX13_usesE_20 : decode cX13_usesE 20 = .ok (.getfield 173, 3) := by decide +kernel
theorem dX13_usesE_23 : decode cX13_usesE 23 = .ok (.iload_n 3, 1) := by decide +kernel
theorem dX13_usesE_24 : decode cX13_usesE 24 = .ok (.iaload, 1) := by decide +kernel
theorem dX13_usesE_25 : decode cX13_usesE 25 = .ok (.bipush 11, 2) := by decide +kernel
theorem dX13_usesE_27 : decode cX13_usesE 27 = .ok (.if_icmp .eq 36, 3) := by decide +kernel
theorem dX13_usesE_30 : decode cX13_usesE 30 = .ok (.aload_n 0, 1) := by decide +kernel
theorem dX13_usesE_31 : decode cX13_usesE 31 = .ok (.getfield 173, 3) := by decide +kernel
theorem dX13_usesE_34 : decode cX13_usesE 34 = .ok (.iload_n 3, 1) := by decide +kernel
theorem dX13_usesE_35 : decode cX13_usesE 35 = .ok (.iaload, 1) := by decide +kernel
theorem dX13_usesE_36 : decode cX13_usesE 36 = .ok (.bipush 12, 2) := by decide +kernel
theorem dX13_usesE_38 : decode cX13_usesE 38 = .ok (.if_icmp .eq 25, 3) := by decide +kernel
theorem dX13_usesE_41 : decode cX13_usesE 41 = .ok (.aload_n 0, 1) := by decide +kernel
theorem dX13_usesE_42 : decode cX13_usesE 42 = .ok (.getfield 173, 3) := by decide +kernel
theorem dX13_usesE_45 : decode cX13_usesE 45 = .ok (.iload_n 3, 1) := by decide +kernel
theorem dX13_usesE_46 : decode cX13_usesE 46 = .ok (.iaload, 1) := by decide +kernel
theorem dX13_usesE_47 : decode cX13_usesE 47 = .ok (.bipush 13, 2) := by decide +kernel
theorem dX13_usesE_49 : decode cX13_usesE 49 = .ok (.if_icmp .eq 14, 3) := by decide +kernel
theorem dX13_usesE_52 : decode cX13_usesE 52 = .ok (.aload_n 0, 1) := by decide +kernel
theorem dX13_usesE_53 : decode cX13_usesE 53 = .ok (.getfield 173, 3) := by decide +kernel
theorem dX13_usesE_56 : decode cX13_usesE 56 = .ok (.iload_n 3, 1) := by decide +kernel
theorem dX13_usesE_57 : decode cX13_usesE 57 = .ok (.iaload, 1) := by decide +kernel
theorem dX13_usesE_58 : decode cX13_usesE 58 = .ok (.bipush 14, 2) := by decide +kernel
theorem dX13_usesE_60 : decode cX13_usesE 60 = .ok (.if_icmp .ne 33, 3) := by decide +kernel
theorem dX13_usesE_63 : decode cX13_usesE 63 = .ok (.aload_n 0, 1) := by decide +kernel
theorem dX13_usesE_64 : decode cX13_usesE 64 = .ok (.getfield 726, 3) := by decide +kernel
theorem dX13_usesE_67 : decode cX13_usesE 67 = .ok (.aload_n 0, 1) := by decide +kernel
theorem dX13_usesE_68 : decode cX13_usesE 68 = .ok (.getfield 714, 3) := by decide +kernel
theorem dX13_usesE_71 : decode cX13_usesE 71 = .ok (.iload_n 3, 1) := by decide +kernel
theorem dX13_usesE_72 : decode cX13_usesE 72 = .ok (.iastore, 1) := by decide +kernel
theorem dX13_usesE_73 : decode cX13_usesE 73 = .ok (.aload_n 0, 1) := by decide +kernel
theorem dX13_usesE_74 : decode cX13_usesE 74 = .ok (.dup, 1) := by decide +kernel
theorem dX13_usesE_75 : decode cX13_usesE 75 = .ok (.getfield 714, 3) := by decide +kernel
theorem dX13_usesE_78 : decode cX13_usesE 78 = .ok (.iconst 1, 1) := by decide +kernel
theorem dX13_usesE_79 : decode cX13_usesE 79 = .ok (.iadd, 1) := by decide +kernel
theorem dX13_usesE_80 : decode cX13_usesE 80 = .ok (.putfield 714, 3) := by decide +kernel
theorem dX13_usesE_83 : decode cX13_usesE 83 = .ok (.aload_n 0, 1) := by decide +kernel
theorem dX13_usesE_84 : decode cX13_usesE 84 = .ok (.getfield 194, 3) := by decide +kernel
theorem dX13_usesE_87 : decode cX13_usesE 87 = .ok (.iload_n 3, 1) := by decide +kernel
theorem dX13_usesE_88 : decode cX13_usesE 88 = .ok (.iaload, 1) := by decide +kernel
theorem dX13_usesE_89 : decode cX13_usesE 89 = .ok (.istore_n 3, 1) := by decide +kernel
theorem dX13_usesE_90 : decode cX13_usesE 90 = .ok (.goto (-83), 3) := by decide +kernel
theorem dX13_usesE_93 : decode cX13_usesE 93 = .ok (.aload_n 0, 1) := by decide +kernel
theorem dX13_usesE_94 : decode cX13_usesE 94 = .ok (.iload_n 3, 1) := by decide +kernel
theorem dX13_usesE_95 : decode cX13_usesE 95 = .ok (.invokevirtual 925, 3) := by decide +kernel
theorem dX13_usesE_98 : decode cX13_usesE 98 = .ok (.aload_n 0, 1) := by decide +kernel
theorem dX13_usesE_99 : decode cX13_usesE 99 = .ok (.getfield 714, 3) := by decide +kernel
theorem dX13_usesE_102 : decode cX13_usesE 102 = .ok (.iload_n 2, 1) := by decide +kernel
theorem dX13_usesE_103 : decode cX13_usesE 103 = .ok (.if_icmp .le 144, 3) := by decide +kernel
theorem dX13_usesE_106 : decode cX13_usesE 106 = .ok (.aload_n 0, 1) := by decide +kernel
theorem dX13_usesE_107 : decode cX13_usesE 107 = .ok (.dup, 1) := by decide +kernel
theorem dX13_usesE_108 : decode cX13_usesE 108 = .ok (.getfield 714, 3) := by decide +kernel
theorem dX13_usesE_111 : decode cX13_usesE 111 = .ok (.iconst 1, 1) := by decide +kernel
theorem dX13_usesE_112 : decode cX13_usesE 112 = .ok (.isub, 1) := by decide +kernel
theorem dX13_usesE_113 : decode cX13_usesE 113 = .ok (.putfield 714, 3) := by decide +kernel
theorem dX13_usesE_116 : decode cX13_usesE 116 = .ok (.aload_n 0, 1) := by decide +kernel
theorem dX13_usesE_117 : decode cX13_usesE 117 = .ok (.getfield 726, 3) := by decide +kernel
theorem dX13_usesE_120 : decode cX13_usesE 120 = .ok (.aload_n 0, 1) := by decide +kernel
theorem dX13_usesE_121 : decode cX13_usesE 121 = .ok (.getfield 714, 3) := by decide +kernel
theorem dX13_usesE_124 : decode cX13_usesE 124 = .ok (.iaload, 1) := by decide +kernel
theorem dX13_usesE_125 : decode cX13_usesE 125 = .ok (.istore_n 3, 1) := by decide +kernel
theorem dX13_usesE_126 : decode cX13_usesE 126 = .ok (.aload_n 0, 1) := by decide +kernel
theorem dX13_usesE_127 : decode cX13_usesE 127 = .ok (.getfield 173, 3) := by decide +kernel
theorem dX13_usesE_130 : decode cX13_usesE 130 = .ok (.iload_n 3, 1) := by decide +kernel
theorem dX13_usesE_131 : decode cX13_usesE 131 = .ok (.iaload, 1) := by decide +kernel
theorem dX13_usesE_132 : decode cX13_usesE 132 = .ok (.invokestatic 723, 3) := by decide +kernel
theorem dX13_usesE_135 : decode cX13_usesE 135 = .ok (.ifCond .eq 16, 3) := by decide +kernel
theorem dX13_usesE_138 : decode cX13_usesE 138 = .ok (.aload_n 0, 1) := by decide +kernel
theorem dX13_usesE_139 : decode cX13_usesE 139 = .ok (.aload_n 0, 1) := by decide +kernel
theorem dX13_usesE_140 : decode cX13_usesE 140 = .ok (.getfield 197, 3) := by decide +kernel
theorem dX13_usesE_143 : decode cX13_usesE 143 = .ok (.iload_n 3, 1) := by decide +kernel
theorem dX13_usesE_144 : decode cX13_usesE 144 = .ok (.iaload, 1) := by decide +kernel
theorem dX13_usesE_145 : decode cX13_usesE 145 = .ok (.invokevirtual 912, 3) := by decide +kernel
theorem dX13_usesE_148 : decode cX13_usesE 148 = .ok (.goto (-50), 3) := by decide +kernel
theorem dX13_usesE_151 : decode cX13_usesE 151 = .ok (.aload_n 0, 1) := by decide +kernel
theorem dX13_usesE_152 : decode cX13_usesE 152 = .ok (.getfield 173, 3) := by decide +kernel
theorem dX13_usesE_155 : decode cX13_usesE 155 = .ok (.iload_n 3, 1) := by decide +kernel
theorem dX13_usesE_156 : decode cX13_usesE 156 = .ok (.iaload, 1) := by decide +kernel
theorem dX13_usesE_157 : decode cX13_usesE 157 = .ok (.bipush 12, 2) := by decide +kernel
theorem dX13_usesE_159 : decode cX13_usesE 159 = .ok (.if_icmp .ne 18, 3) := by decide +kernel
theorem dX13_usesE_162 : decode cX13_usesE 162 = .ok (.aload_n 0, 1) := by decide +kernel
theorem dX13_usesE_163 : decode cX13_usesE 163 = .ok (.getfield 221, 3) := by decide +kernel
theorem dX13_usesE_166 : decode cX13_usesE 166 = .ok (.iload_n 3, 1) := by decide +kernel
theorem dX13_usesE_167 : decode cX13_usesE 167 = .ok (.aload_n 0, 1) := by decide +kernel
theorem dX13_usesE_168 : decode cX13_usesE 168 = .ok (.iload_n 3, 1) := by decide +kernel
theorem dX13_usesE_169 : decode cX13_usesE 169 = .ok (.iconst 3, 1) := by decide +kernel

theorem dX6_goOne_81 : decode cX6_goOne 81 = .ok (.iconst 1, 1) := by decide +kernel
theorem dX6_goOne_82 : decode cX6_goOne 82 = .ok (.goto 4, 3) := by decide +kernel
theorem dX6_goOne_85 : decode cX6_goOne 85 = .ok (.iconst 0, 1) := by decide +kernel
theorem dX6_goOne_86 : decode cX6_goOne 86 = .ok (.istore 4, 2) := by decide +kernel
theorem dX6_goOne_88 : decode cX6_goOne 88 = .ok (.iload 4, 2) := by decide +kernel
theorem dX6_goOne_90 : decode cX6_goOne 90 = .ok (.ifCond .eq 7, 3) := by decide +kernel
theorem dX6_goOne_93 : decode cX6_goOne 93 = .ok (.aload_n 1, 1) := by decide +kernel
theorem dX6_goOne_94 : decode cX6_goOne 94 = .ok (.iconst 1, 1) := by decide +kernel
theorem dX6_goOne_95 : decode cX6_goOne 95 = .ok (.iload_n 3, 1) := by decide +kernel
theorem dX6_goOne_96 : decode cX6_goOne 96 = .ok (.iastore, 1) := by decide +kernel
theorem dX6_goOne_97 : decode cX6_goOne 97 = .ok (.iload 4, 2) := by decide +kernel
theorem dX6_goOne_99 : decode cX6_goOne 99 = .ok (.ifCond .ne 7, 3) := by decide +kernel
theorem dX6_goOne_102 : decode cX6_goOne 102 = .ok (.iconst 1, 1) := by decide +kernel
theorem dX6_goOne_103 : decode cX6_goOne 103 = .ok (.goto 4, 3) := by decide +kernel
theorem dX6_goOne_106 : decode cX6_goOne 106 = .ok (.iconst 0, 1) := by decide +kernel
theorem dX6_goOne_107 : decode cX6_goOne 107 = .ok (.ireturn, 1) := by decide +kernel
theorem dX6_goOne_108 : decode cX6_goOne 108 = .ok (.aload_n 0, 1) := by decide +kernel
theorem dX6_goOne_109 : decode cX6_goOne 109 = .ok (.invokevirtual 227, 3) := by decide +kernel
theorem dX6_goOne_112 : decode cX6_goOne 112 = .ok (.istore 5, 2) := by decide +kernel
theorem dX6_goOne_114 : decode cX6_goOne 114 = .ok (.aload_n 0, 1) := by decide +kernel
theorem dX6_goOne_115 : decode cX6_goOne 115 = .ok (.getfield 71, 3) := by decide +kernel
theorem dX6_goOne_118 : decode cX6_goOne 118 = .ok (.bipush 100, 2) := by decide +kernel
theorem dX6_goOne_120 : decode cX6_goOne 120 = .ok (.if_icmp .ge 24, 3) := by decide +kernel
theorem dX6_goOne_123 : decode cX6_goOne 123 = .ok (.aload_n 0, 1) := by decide +kernel
theorem dX6_goOne_124 : decode cX6_goOne 124 = .ok (.getfield 44, 3) := by decide +kernel
theorem dX6_goOne_127 : decode cX6_goOne 127 = .ok (.aload_n 0, 1) := by decide +kernel
theorem dX6_goOne_128 : decode cX6_goOne 128 = .ok (.getfield 71, 3) := by decide +kernel
theorem dX6_goOne_131 : decode cX6_goOne 131 = .ok (.iload 5, 2) := by decide +kernel
theorem dX6_goOne_133 : decode cX6_goOne 133 = .ok (.iastore, 1) := by decide +kernel
theorem dX6_goOne_134 : decode cX6_goOne 134 = .ok (.aload_n 0, 1) := by decide +kernel
theorem dX6_goOne_135 : decode cX6_goOne 135 = .ok (.dup, 1) := by decide +kernel
theorem dX6_goOne_136 : decode cX6_goOne 136 = .ok (.getfield 71, 3) := by decide +kernel
theorem dX6_goOne_139 : decode cX6_goOne 139 = .ok (.iconst 1, 1) := by decide +kernel
theorem dX6_goOne_140 : decode cX6_goOne 140 = .ok (.iadd, 1) := by decide +kernel
theorem dX6_goOne_141 : decode cX6_goOne 141 = .ok (.putfield 71, 3) := by decide +kernel
theorem dX6_goOne_144 : decode cX6_goOne 144 = .ok (.iconst 1, 1) := by decide +kernel
theorem dX6_goOne_145 : decode cX6_goOne 145 = .ok (.ireturn, 1) := by decide +kernel
theorem dX6_goOne_146 : decode cX6_goOne 146 = .ok (.aload_n 0, 1) := by decide +kernel
theorem dX6_goOne_147 : decode cX6_goOne 147 = .ok (.aload_n 0, 1) := by decide +kernel
theorem dX6_goOne_148 : decode cX6_goOne 148 = .ok (.invokevirtual 227, 3) := by decide +kernel
theorem dX6_goOne_151 : decode cX6_goOne 151 = .ok (.invokevirtual 235, 3) := by decide +kernel
theorem dX6_goOne_154 : decode cX6_goOne 154 = .ok (.iconst 0, 1) := by decide +kernel
theorem dX6_goOne_155 : decode cX6_goOne 155 = .ok (.ireturn, 1) := by decide +kernel
theorem dX6_goOne_156 : decode cX6_goOne 156 = .ok (.iconst 2, 1) := by decide +kernel
theorem dX6_goOne_157 : decode cX6_goOne 157 = .ok (.aload_n 0, 1) := by decide +kernel
theorem dX6_goOne_158 : decode cX6_goOne 158 = .ok (.getfield 89, 3) := by decide +kernel
theorem dX6_goOne_161 : decode cX6_goOne 161 = .ok (.imul, 1) := by decide +kernel
theorem dX6_goOne_162 : decode cX6_goOne 162 = .ok (.iconst 1, 1) := by decide +kernel
theorem dX6_goOne_163 : decode cX6_goOne 163 = .ok (.iadd, 1) := by decide +kernel
theorem dX6_goOne_164 : decode cX6_goOne 164 = .ok (.aload_n 0, 1) := by decide +kernel
theorem dX6_goOne_165 : decode cX6_goOne 165 = .ok (.getfield 29, 3) := by decide +kernel
theorem dX6_goOne_168 : decode cX6_goOne 168 = .ok (.arraylength, 1) := by decide +kernel
theorem dX6_goOne_169 : decode cX6_goOne 169 = .ok (.if_icmp .ge 42, 3) := by decide +kernel
theorem dX6_goOne_172 : decode cX6_goOne 172 = .ok (.aload_n 0, 1) := by decide +kernel
theorem dX6_goOne_173 : decode cX6_goOne 173 = .ok (.getfield 29, 3) := by decide +kernel
theorem dX6_goOne_176 : decode cX6_goOne 176 = .ok (.iconst 2, 1) := by decide +kernel
theorem dX6_goOne_177 : decode cX6_goOne 177 = .ok (.aload_n 0, 1) := by decide +kernel
theorem dX6_goOne_178 : decode cX6_goOne 178 = .ok (.getfield 89, 3) := by decide +kernel
theorem dX6_goOne_181 : decode cX6_goOne 181 = .ok (.imul, 1) := by decide +kernel
theorem dX6_goOne_182 : decode cX6_goOne 182 = .ok (.iload_n 3, 1) := by decide +kernel
theorem dX6_goOne_183 : decode cX6_goOne 183 = .ok (.iastore, 1) := by decide +kernel
theorem dX6_goOne_184 : decode cX6_goOne 184 = .ok (.aload_n 0, 1) := by decide +kernel
theorem dX6_goOne_185 : decode cX6_goOne 185 = .ok (.getfield 29, 3) := by decide +kernel
theorem dX6_goOne_188 : decode cX6_goOne 188 = .ok (.iconst 2, 1) := by decide +kernel
theorem dX6_goOne_189 : decode cX6_goOne 189 = .ok (.aload_n 0, 1) := by decide +kernel
theorem dX6_goOne_190 : decode cX6_goOne 190 = .ok (.getfield 89, 3) := by decide +kernel
theorem dX6_goOne_193 : decode cX6_goOne 193 = .ok (.imul, 1) := by decide +kernel
theorem dX6_goOne_194 : decode cX6_goOne 194 = .ok (.iconst 1, 1) := by decide +kernel
theorem dX6_goOne_195 : decode cX6_goOne 195 = .ok (.iadd, 1) := by decide +kernel
theorem dX6_goOne_196 : decode cX6_goOne 196 = .ok (.aload_n 0, 1) := by decide +kernel
theorem dX6_goOne_197 : decode cX6_goOne 197 = .ok (.getfield 83, 3) := by decide +kernel
theorem dX6_goOne_200 : decode cX6_goOne 200 = .ok (.iastore, 1) := by decide +kernel
theorem dX6_goOne_201 : decode cX6_goOne 201 = .ok (.aload_n 0, 1) := by decide +kernel
theorem dX6_goOne_202 : decode cX6_goOne 202 = .ok (.dup, 1) := by decide +kernel
theorem dX6_goOne_203 : decode cX6_goOne 203 = .ok (.getfield 89, 3) := by decide +kernel
theorem dX6_goOne_206 : decode cX6_goOne 206 = .ok (.iconst 1, 1) := by decide +kernel
theorem dX6_goOne_207 : decode cX6_goOne 207 = .ok (.iadd, 1) := by decide +kernel
theorem dX6_goOne_208 : decode cX6_goOne 208 = .ok (.putfield 89, 3) := by decide +kernel
theorem dX6_goOne_211 : decode cX6_goOne 211 = .ok (.iconst 1, 1) := by decide +kernel
theorem dX6_goOne_212 : decode cX6_goOne 212 = .ok (.ireturn, 1) := by decide +kernel
theorem dX6_goOne_213 : decode cX6_goOne 213 = .ok (.aload_n 0, 1) := by decide +kernel
theorem dX6_goOne_214 : decode cX6_goOne 214 = .ok (.aload_n 0, 1) := by decide +kernel
theorem dX6_goOne_215 : decode cX6_goOne 215 = .ok (.getfield 89, 3) := by decide +kernel
theorem dX6_goOne_218 : decode cX6_goOne 218 = .ok (.iconst 1, 1) := by decide +kernel
theorem dX6_goOne_219 : decode cX6_goOne 219 = .ok (.isub, 1) := by decide +kernel
theorem dX6_goOne_220 : decode cX6_goOne 220 = .ok (.aload_n 1, 1) := by decide +kernel
theorem dX6_goOne_221 : decode cX6_goOne 221 = .ok (.iconst 3, 1) := by decide +kernel
theorem dX6_goOne_222 : decode cX6_goOne 222 = .ok (.iaload, 1) := by decide +kernel
theorem dX6_goOne_223 : decode cX6_goOne 223 = .ok (.invokestatic 238, 3) := by decide +kernel
theorem dX6_goOne_226 : decode cX6_goOne 226 = .ok (.putfield 89, 3) := by decide +kernel
theorem dX6_goOne_229 : decode cX6_goOne 229 = .ok (.iconst 1, 1) := by decide +kernel
theorem dX6_goOne_230 : decode cX6_goOne 230 = .ok (.ireturn, 1) := by decide +kernel
theorem dX6_goOne_231 : decode cX6_goOne 231 = .ok (.aload_n 1, 1) := by decide +kernel
theorem dX6_goOne_232 : decode cX6_goOne 232 = .ok (.iconst 5, 1) := by decide +kernel
theorem dX6_goOne_233 : decode cX6_goOne 233 = .ok (.aload_n 1, 1) := by decide +kernel
theorem dX6_goOne_234 : decode cX6_goOne 234 = .ok (.iconst 1, 1) := by decide +kernel
theorem dX6_goOne_235 : decode cX6_goOne 235 = .ok (.iaload, 1) := by decide +kernel
theorem dX6_goOne_236 : decode cX6_goOne 236 = .ok (.iconst 2, 1) := by decide +kernel
theorem dX6_goOne_237 : decode cX6_goOne 237 = .ok (.iadd, 1) := by decide +kernel
theorem dX6_goOne_238 : decode cX6_goOne 238 = .ok (.iastore, 1) := by decide +kernel
theorem dX6_goOne_239 : decode cX6_goOne 239 = .ok (.aload_n 1, 1) := by decide +kernel
theorem dX6_goOne_240 : decode cX6_goOne 240 = .ok (.iconst 1, 1) := by decide +kernel
theorem dX6_goOne_241 : decode cX6_goOne 241 = .ok (.aload_n 0, 1) := by decide +kernel
theorem dX6_goOne_242 : decode cX6_goOne 242 = .ok (.getfield 47, 3) := by decide +kernel
theorem dX6_goOne_245 : decode cX6_goOne 245 = .ok (.getfield 110, 3) := by decide +kernel
theorem dX6_goOne_248 : decode cX6_goOne 248 = .ok (.aload_n 1, 1) := by decide +kernel
theorem dX6_goOne_249 : decode cX6_goOne 249 = .ok (.iconst 0, 1) := by decide +kernel
theorem dX6_goOne_250 : decode cX6_goOne 250 = .ok (.iaload, 1) := by decide +kernel
theorem dX6_goOne_251 : decode cX6_goOne 251 = .ok (.aaload, 1) := by decide +kernel
theorem dX6_goOne_252 : decode cX6_goOne 252 = .ok (.getfield 243, 3) := by decide +kernel
theorem dX6_goOne_255 : decode cX6_goOne 255 = .ok (.iastore, 1) := by decide +kernel
theorem dX6_goOne_256 : decode cX6_goOne 256 = .ok (.iconst 0, 1) := by decide +kernel
theorem dX6_goOne_257 : decode cX6_goOne 257 = .ok (.ireturn, 1) := by decide +kernel
theorem dX6_goOne_258 : decode cX6_goOne 258 = .ok (.aload_n 1, 1) := by decide +kernel
theorem dX6_goOne_259 : decode cX6_goOne 259 = .ok (.iconst 1, 1) := by decide +kernel
theorem dX6_goOne_260 : decode cX6_goOne 260 = .ok (.aload_n 1, 1) := by decide +kernel
theorem dX6_goOne_261 : decode cX6_goOne 261 = .ok (.iconst 5, 1) := by decide +kernel
theorem dX6_goOne_262 : decode cX6_goOne 262 = .ok (.iaload, 1) := by decide +kernel
theorem dX6_goOne_263 : decode cX6_goOne 263 = .ok (.iastore, 1) := by decide +kernel
theorem dX6_goOne_264 : decode cX6_goOne 264 = .ok (.iconst 0, 1) := by decide +kernel
theorem dX6_goOne_265 : decode cX6_goOne 265 = .ok (.ireturn, 1) := by decide +kernel
theorem dX6_goOne_266 : decode cX6_goOne 266 = .ok (.aload_n 0, 1) := by decide +kernel
theorem dX6_goOne_267 : decode cX6_goOne 267 = .ok (.iconst 1, 1) := by decide +kernel
theorem dX6_goOne_268 : decode cX6_goOne 268 = .ok (.aload_n 1, 1) := by decide +kernel
theorem dX6_goOne_269 : decode cX6_goOne 269 = .ok (.iconst 0, 1) := by decide +kernel
theorem dX6_goOne_270 : decode cX6_goOne 270 = .ok (.iaload, 1) := by decide +kernel
theorem dX6_goOne_271 : decode cX6_goOne 271 = .ok (.iload_n 3, 1) := by decide +kernel
theorem dX6_goOne_272 : decode cX6_goOne 272 = .ok (.invokevirtual 246, 3) := by decide +kernel
theorem dX6_goOne_275 : decode cX6_goOne 275 = .ok (.ireturn, 1) := by decide +kernel
theorem dX6_goOne_276 : decode cX6_goOne 276 = .ok (.aload_n 0, 1) := by decide +kernel
theorem dX6_goOne_277 : decode cX6_goOne 277 = .ok (.iconst 1, 1) := by decide +kernel
theorem dX6_goOne_278 : decode cX6_goOne 278 = .ok (.aload_n 1, 1) := by decide +kernel
theorem dX6_goOne_279 : decode cX6_goOne 279 = .ok (.iconst 0, 1) := by decide +kernel
theorem dX6_goOne_280 : decode cX6_goOne 280 = .ok (.iaload, 1) := by decide +kernel
theorem dX6_goOne_281 : decode cX6_goOne 281 = .ok (.iload_n 3, 1) := by decide +kernel
theorem dX6_goOne_282 : decode cX6_goOne 282 = .ok (.invokevirtual 250, 3) := by decide +kernel
theorem dX6_goOne_285 : decode cX6_goOne 285 = .ok (.ireturn, 1) := by decide +kernel
theorem dX6_goOne_286 : decode cX6_goOne 286 = .ok (.aload_n 0, 1) := by decide +kernel
theorem dX6_goOne_287 : decode cX6_goOne 287 = .ok (.getfield 14, 3) := by decide +kernel
theorem dX6_goOne_290 : decode cX6_goOne 290 = .ok (.getfield 96, 3) := by decide +kernel
theorem dX6_goOne_293 : decode cX6_goOne 293 = .ok (.aload_n 1, 1) := by decide +kernel
theorem dX6_goOne_294 : decode cX6_goOne 294 = .ok (.iconst 0, 1) := by decide +kernel
theorem dX6_goOne_295 : decode cX6_goOne 295 = .ok (.iaload, 1) := by decide +kernel
theorem dX6_goOne_296 : decode cX6_goOne 296 = .ok (.iconst 4, 1) := by decide +kernel
theorem dX6_goOne_297 : decode cX6_goOne 297 = .ok (.iastore, 1) := by decide +kernel
theorem dX6_goOne_298 : decode cX6_goOne 298 = .ok (.aload_n 0, 1) := by decide +kernel
theorem dX6_goOne_299 : decode cX6_goOne 299 = .ok (.getfield 14, 3) := by decide +kernel
theorem dX6_goOne_302 : decode cX6_goOne 302 = .ok (.aload_n 1, 1) := by decide +kernel
theorem dX6_goOne_303 : decode cX6_goOne 303 = .ok (.iconst 0, 1) := by decide +kernel
theorem dX6_goOne_304 : decode cX6_goOne 304 = .ok (.iaload, 1) := by decide +kernel
theorem dX6_goOne_305 : decode cX6_goOne 305 = .ok (.iconst 4, 1) := by decide +kernel
theorem dX6_goOne_306 : decode cX6_goOne 306 = .ok (.invokevirtual 99, 3) := by decide +kernel
theorem dX6_goOne_309 : decode cX6_goOne 309 = .ok (.aload_n 0, 1) := by decide +kernel
theorem dX6_goOne_310 : decode cX6_goOne 310 = .ok (.aload_n 1, 1) := by decide +kernel
theorem dX6_goOne_311 : decode cX6_goOne 311 = .ok (.invokevirtual 253, 3) := by decide +kernel
theorem dX6_goOne_314 : decode cX6_goOne 314 = .ok (.iconst 0, 1) := by decide +kernel
theorem dX6_goOne_315 : decode cX6_goOne 315 = .ok (.ireturn, 1) := by decide +kernel
theorem dX6_goOne_316 : decode cX6_goOne 316 = .ok (.aload_n 0, 1) := by decide +kernel
theorem dX6_goOne_317 : decode cX6_goOne 317 = .ok (.aload_n 1, 1) := by decide +kernel
theorem dX6_goOne_318 : decode cX6_goOne 318 = .ok (.iload_n 2, 1) := by decide +kernel
theorem dX6_goOne_319 : decode cX6_goOne 319 = .ok (.bipush 19, 2) := by decide +kernel
theorem dX6_goOne_321 : decode cX6_goOne 321 = .ok (.if_icmp .ne 10, 3) := by decide +kernel
theorem dX6_goOne_324 : decode cX6_goOne 324 = .ok (.aload_n 0, 1) := by decide +kernel
theorem dX6_goOne_325 : decode cX6_goOne 325 = .ok (.invokevirtual 227, 3) := by decide +kernel
theorem dX6_goOne_328 : decode cX6_goOne 328 = .ok (.goto 4, 3) := by decide +kernel
theorem dX6_goOne_331 : decode cX6_goOne 331 = .ok (.iconst 0, 1) := by decide +kernel
theorem dX6_goOne_332 : decode cX6_goOne 332 = .ok (.invokevirtual 257, 3) := by decide +kernel
theorem dX6_goOne_335 : decode cX6_goOne 335 = .ok (.iconst 0, 1) := by decide +kernel
theorem dX6_goOne_336 : decode cX6_goOne 336 = .ok (.ireturn, 1) := by decide +kernel
theorem dX6_close_0 : decode cX6_close 0 = .ok (.aload_n 0, 1) := by decide +kernel
theorem dX6_close_1 : decode cX6_close 1 = .ok (.dup, 1) := by decide +kernel
theorem dX6_close_2 : decode cX6_close 2 = .ok (.getfield 86, 3) := by decide +kernel
theorem dX6_close_5 : decode cX6_close 5 = .ok (.iconst 1, 1) := by decide +kernel
theorem dX6_close_6 : decode cX6_close 6 = .ok (.isub, 1) := by decide +kernel
theorem dX6_close_7 : decode cX6_close 7 = .ok (.putfield 86, 3) := by decide +kernel
theorem dX6_close_10 : decode cX6_close 10 = .ok (.aload_n 0, 1) := by decide +kernel
theorem dX6_close_11 : decode cX6_close 11 = .ok (.aload_n 1, 1) := by decide +kernel
theorem dX6_close_12 : decode cX6_close 12 = .ok (.iconst 2, 1) := by decide +kernel
theorem dX6_close_13 : decode cX6_close 13 = .ok (.iaload, 1) := by decide +kernel
theorem dX6_close_14 : decode cX6_close 14 = .ok (.putfield 83, 3) := by decide +kernel
theorem dX6_close_17 : decode cX6_close 17 = .ok (.aload_n 0, 1) := by decide +kernel
theorem dX6_close_18 : decode cX6_close 18 = .ok (.aload_n 1, 1) := by decide +kernel
theorem dX6_close_19 : decode cX6_close 19 = .ok (.iconst 3, 1) := by decide +kernel
theorem dX6_close_20 : decode cX6_close 20 = .ok (.iaload, 1) := by decide +kernel
theorem dX6_close_21 : decode cX6_close 21 = .ok (.putfield 89, 3) := by decide +kernel
theorem dX6_close_24 : decode cX6_close 24 = .ok (.return_, 1) := by decide +kernel
theorem dX6_giveBack_0 : decode cX6_giveBack 0 = .ok (.aload_n 0, 1) := by decide +kernel
theorem dX6_giveBack_1 : decode cX6_giveBack 1 = .ok (.aload_n 1, 1) := by decide +kernel
theorem dX6_giveBack_2 : decode cX6_giveBack 2 = .ok (.invokevirtual 253, 3) := by decide +kernel
theorem dX6_giveBack_5 : decode cX6_giveBack 5 = .ok (.aload_n 1, 1) := by decide +kernel
theorem dX6_giveBack_6 : decode cX6_giveBack 6 = .ok (.iconst 4, 1) := by decide +kernel
theorem dX6_giveBack_7 : decode cX6_giveBack 7 = .ok (.iaload, 1) := by decide +kernel
theorem dX6_giveBack_8 : decode cX6_giveBack 8 = .ok (.iconst 1, 1) := by decide +kernel
theorem dX6_giveBack_9 : decode cX6_giveBack 9 = .ok (.if_icmp .ne 23, 3) := by decide +kernel
theorem dX6_giveBack_12 : decode cX6_giveBack 12 = .ok (.aload_n 0, 1) := by decide +kernel
theorem dX6_giveBack_13 : decode cX6_giveBack 13 = .ok (.getfield 86, 3) := by decide +kernel
theorem dX6_giveBack_16 : decode cX6_giveBack 16 = .ok (.ifCond .ne 11, 3) := by decide +kernel
theorem dX6_giveBack_19 : decode cX6_giveBack 19 = .ok (.aload_n 0, 1) := by decide +kernel
theorem dX6_giveBack_20 : decode cX6_giveBack 20 = .ok (.iload_n 2, 1) := by decide +kernel
theorem dX6_giveBack_21 : decode cX6_giveBack 21 = .ok (.putfield 80, 3) := by decide +kernel
theorem dX6_giveBack_24 : decode cX6_giveBack 24 = .ok (.goto 8, 3) := by decide +kernel
theorem dX6_giveBack_27 : decode cX6_giveBack 27 = .ok (.aload_n 0, 1) := by decide +kernel
theorem dX6_giveBack_28 : decode cX6_giveBack 28 = .ok (.iload_n 2, 1) := by decide +kernel
theorem dX6_giveBack_29 : decode cX6_giveBack 29 = .ok (.invokevirtual 224, 3) := by decide +kernel
theorem dX6_giveBack_32 : decode cX6_giveBack 32 = .ok (.return_, 1) := by decide +kernel
theorem dX6_throwOne_0 : decode cX6_throwOne 0 = .ok (.iload_n 1, 1) := by decide +kernel
theorem dX6_throwOne_1 : decode cX6_throwOne 1 = .ok (.ifCond .ne 10, 3) := by decide +kernel
theorem dX6_throwOne_4 : decode cX6_throwOne 4 = .ok (.aload_n 0, 1) := by decide +kernel
theorem dX6_throwOne_5 : decode cX6_throwOne 5 = .ok (.bipush 13, 2) := by decide +kernel
theorem dX6_throwOne_7 : decode cX6_throwOne 7 = .ok (.invokevirtual 103, 3) := by decide +kernel
theorem dX6_throwOne_10 : decode cX6_throwOne 10 = .ok (.return_, 1) := by decide +kernel
theorem dX6_throwOne_11 : decode cX6_throwOne 11 = .ok (.iconst 0, 1) := by decide +kernel
theorem dX6_throwOne_12 : decode cX6_throwOne 12 = .ok (.istore_n 2, 1) := by decide +kernel
theorem dX6_throwOne_13 : decode cX6_throwOne 13 = .ok (.iload_n 2, 1) := by decide +kernel
theorem dX6_throwOne_14 : decode cX6_throwOne 14 = .ok (.bipush 24, 2) := by decide +kernel
theorem dX6_throwOne_16 : decode cX6_throwOne 16 = .ok (.if_icmp .gt 104, 3) := by decide +kernel
theorem dX6_throwOne_19 : decode cX6_throwOne 19 = .ok (.aload_n 0, 1) := by decide +kernel
theorem dX6_throwOne_20 : decode cX6_throwOne 20 = .ok (.getfield 86, 3) := by decide +kernel
theorem dX6_throwOne_23 : decode cX6_throwOne 23 = .ok (.ifCond .le 97, 3) := by decide +kernel
theorem dX6_throwOne_26 : decode cX6_throwOne 26 = .ok (.aload_n 0, 1) := by decide +kernel
theorem dX6_throwOne_27 : decode cX6_throwOne 27 = .ok (.getfield 26, 3) := by decide +kernel
theorem dX6_throwOne_30 : decode cX6_throwOne 30 = .ok (.aload_n 0, 1) := by decide +kernel
theorem dX6_throwOne_31 : decode cX6_throwOne 31 = .ok (.getfield 86, 3) := by decide +kernel
theorem dX6_throwOne_34 : decode cX6_throwOne 34 = .ok (.iconst 1, 1) := by decide +kernel
theorem dX6_throwOne_35 : decode cX6_throwOne 35 = .ok (.isub, 1) := by decide +kernel
theorem dX6_throwOne_36 : decode cX6_throwOne 36 = .ok (.aaload, 1) := by decide +kernel
theorem dX6_throwOne_37 : decode cX6_throwOne 37 = .ok (.astore_n 3, 1) := by decide +kernel
theorem dX6_throwOne_38 : decode cX6_throwOne 38 = .ok (.aload_n 0, 1) := by decide +kernel
theorem dX6_throwOne_39 : decode cX6_throwOne 39 = .ok (.getfield 89, 3) := by decide +kernel
theorem dX6_throwOne_42 : decode cX6_throwOne 42 = .ok (.aload_n 3, 1) := by decide +kernel
theorem dX6_throwOne_43 : decode cX6_throwOne 43 = .ok (.iconst 3, 1) := by decide +kernel
theorem dX6_throwOne_44 : decode cX6_throwOne 44 = .ok (.iaload, 1) := by decide +kernel
theorem dX6_throwOne_45 : decode cX6_throwOne 45 = .ok (.if_icmp .le 50, 3) := by decide +kernel
theorem dX6_throwOne_48 : decode cX6_throwOne 48 = .ok (.aload_n 0, 1) := by decide +kernel
theorem dX6_throwOne_49 : decode cX6_throwOne 49 = .ok (.dup, 1) := by decide +kernel
theorem dX6_throwOne_50 : decode cX6_throwOne 50 = .ok (.getfield 89, 3) := by decide +kernel
theorem dX6_throwOne_53 : decode cX6_throwOne 53 = .ok (.iconst 1, 1) := by decide +kernel
theorem dX6_throwOne_54 : decode cX6_throwOne 54 = .ok (.isub, 1) := by decide +kernel
theorem dX6_throwOne_55 : decode cX6_throwOne 55 = .ok (.putfield 89, 3) := by decide +kernel
theorem dX6_throwOne_58 : decode cX6_throwOne 58 = .ok (.aload_n 3, 1) := by decide +kernel
theorem dX6_throwOne_59 : decode cX6_throwOne 59 = .ok (.iconst 1, 1) := by decide +kernel
theorem dX6_throwOne_60 : decode cX6_throwOne 60 = .ok (.aload_n 0, 1) := by decide +kernel
theorem dX6_throwOne_61 : decode cX6_throwOne 61 = .ok (.getfield 29, 3) := by decide +kernel
theorem dX6_throwOne_64 : decode cX6_throwOne 64 = .ok (.iconst 2, 1) := by decide +kernel
theorem dX6_throwOne_65 : decode cX6_throwOne 65 = .ok (.aload_n 0, 1) := by decide +kernel
theorem dX6_throwOne_66 : decode cX6_throwOne 66 = .ok (.getfield 89, 3) := by decide +kernel
theorem dX6_throwOne_69 : decode cX6_throwOne 69 = .ok (.imul, 1) := by decide +kernel
theorem dX6_throwOne_70 : decode cX6_throwOne 70 = .ok (.iaload, 1) := by decide +kernel
theorem dX6_throwOne_71 : decode cX6_throwOne 71 = .ok (.iastore, 1) := by decide +kernel
theorem dX6_throwOne_72 : decode cX6_throwOne 72 = .ok (.aload_n 0, 1) := by decide +kernel
theorem dX6_throwOne_73 : decode cX6_throwOne 73 = .ok (.aload_n 0, 1) := by decide +kernel
theorem dX6_throwOne_74 : decode cX6_throwOne 74 = .ok (.getfield 29, 3) := by decide +kernel
theorem dX6_throwOne_77 : decode cX6_throwOne 77 = .ok (.iconst 2, 1) := by decide +kernel
theorem dX6_throwOne_78 : decode cX6_throwOne 78 = .ok (.aload_n 0, 1) := by decide +kernel
theorem dX6_throwOne_79 : decode cX6_throwOne 79 = .ok (.getfield 89, 3) := by decide +kernel
theorem dX6_throwOne_82 : decode cX6_throwOne 82 = .ok (.imul, 1) := by decide +kernel
theorem dX6_throwOne_83 : decode cX6_throwOne 83 = .ok (.iconst 1, 1) := by decide +kernel
theorem dX6_throwOne_84 : decode cX6_throwOne 84 = .ok (.iadd, 1) := by decide +kernel
theorem dX6_throwOne_85 : decode cX6_throwOne 85 = .ok (.iaload, 1) := by decide +kernel
theorem dX6_throwOne_86 : decode cX6_throwOne 86 = .ok (.putfield 83, 3) := by decide +kernel
theorem dX6_throwOne_89 : decode cX6_throwOne 89 = .ok (.aload_n 0, 1) := by decide +kernel
theorem dX6_throwOne_90 : decode cX6_throwOne 90 = .ok (.iload_n 1, 1) := by decide +kernel
theorem dX6_throwOne_91 : decode cX6_throwOne 91 = .ok (.invokevirtual 224, 3) := by decide +kernel
theorem dX6_throwOne_94 : decode cX6_throwOne 94 = .ok (.return_, 1) := by decide +kernel
theorem dX6_throwOne_95 : decode cX6_throwOne 95 = .ok (.aload_n 3, 1) := by decide +kernel
theorem dX6_throwOne_96 : decode cX6_throwOne 96 = .ok (.iconst 4, 1) := by decide +kernel
theorem dX6_throwOne_97 : decode cX6_throwOne 97 = .ok (.iaload, 1) := by decide +kernel
theorem dX6_throwOne_98 : decode cX6_throwOne 98 = .ok (.iconst 3, 1) := by decide +kernel
theorem dX6_throwOne_99 : decode cX6_throwOne 99 = .ok (.if_icmp .ne 10, 3) := by decide +kernel
theorem dX6_throwOne_102 : decode cX6_throwOne 102 = .ok (.aload_n 0, 1) := by decide +kernel
theorem dX6_throwOne_103 : decode cX6_throwOne 103 = .ok (.bipush 8, 2) := by decide +kernel
theorem dX6_throwOne_105 : decode cX6_throwOne 105 = .ok (.invokevirtual 103, 3) := by decide +kernel
theorem dX6_throwOne_108 : decode cX6_throwOne 108 = .ok (.return_, 1) := by decide +kernel
theorem dX6_throwOne_109 : decode cX6_throwOne 109 = .ok (.aload_n 0, 1) := by decide +kernel
theorem dX6_throwOne_110 : decode cX6_throwOne 110 = .ok (.aload_n 3, 1) := by decide +kernel
theorem dX6_throwOne_111 : decode cX6_throwOne 111 = .ok (.invokevirtual 253, 3) := by decide +kernel
theorem dX6_throwOne_114 : decode cX6_throwOne 114 = .ok (.iinc 2 1, 3) := by decide +kernel
theorem dX6_throwOne_117 : decode cX6_throwOne 117 = .ok (.goto (-104), 3) := by decide +kernel
theorem dX6_throwOne_120 : decode cX6_throwOne 120 = .ok (.aload_n 0, 1) := by decide +kernel
theorem dX6_throwOne_121 : decode cX6_throwOne 121 = .ok (.iload_n 1, 1) := by decide +kernel
theorem dX6_throwOne_122 : decode cX6_throwOne 122 = .ok (.putfield 77, 3) := by decide +kernel
theorem dX6_throwOne_125 : decode cX6_throwOne 125 = .ok (.return_, 1) := by decide +kernel
theorem dX6_useOne_0 : decode cX6_useOne 0 = .ok (.aload_n 0, 1) := by decide +kernel
theorem dX6_useOne_1 : decode cX6_useOne 1 = .ok (.getfield 14, 3) := by decide +kernel
theorem dX6_useOne_4 : decode cX6_useOne 4 = .ok (.getfield 167, 3) := by decide +kernel
theorem dX6_useOne_7 : decode cX6_useOne 7 = .ok (.istore 4, 2) := by decide +kernel
theorem dX6_useOne_9 : decode cX6_useOne 9 = .ok (.aload_n 0, 1) := by decide +kernel
theorem dX6_useOne_10 : decode cX6_useOne 10 = .ok (.getfield 14, 3) := by decide +kernel
theorem dX6_useOne_13 : decode cX6_useOne 13 = .ok (.getfield 177, 3) := by decide +kernel
theorem dX6_useOne_16 : decode cX6_useOne 16 = .ok (.istore 5, 2) := by decide +kernel
theorem dX6_useOne_18 : decode cX6_useOne 18 = .ok (.aload_n 0, 1) := by decide +kernel
theorem dX6_useOne_19 : decode cX6_useOne 19 = .ok (.getfield 14, 3) := by decide +kernel
theorem dX6_useOne_22 : decode cX6_useOne 22 = .ok (.getfield 170, 3) := by decide +kernel
theorem dX6_useOne_25 : decode cX6_useOne 25 = .ok (.astore 6, 2) := by decide +kernel
theorem dX6_useOne_27 : decode cX6_useOne 27 = .ok (.iload_n 2, 1) := by decide +kernel
theorem dX6_useOne_28 : decode cX6_useOne 28 = .ok (.bipush 35, 2) := by decide +kernel
theorem dX6_useOne_30 : decode cX6_useOne 30 = .ok (.if_icmp .ne 10, 3) := by decide +kernel
theorem dX6_useOne_33 : decode cX6_useOne 33 = .ok (.aload_n 0, 1) := by decide +kernel
theorem dX6_useOne_34 : decode cX6_useOne 34 = .ok (.iload 4, 2) := by decide +kernel
theorem dX6_useOne_36 : decode cX6_useOne 36 = .ok (.invokevirtual 260, 3) := by decide +kernel
theorem dX6_useOne_39 : decode cX6_useOne 39 = .ok (.ireturn, 1) := by decide +kernel
theorem dX6_useOne_40 : decode cX6_useOne 40 = .ok (.iload_n 2, 1) := by decide +kernel
theorem dX6_useOne_41 : decode cX6_useOne 41 = .ok (.bipush 37, 2) := by decide +kernel
theorem dX6_useOne_43 : decode cX6_useOne 43 = .ok (.if_icmp .lt 11, 3) := by decide +kernel
theorem dX6_useOne_46 : decode cX6_useOne 46 = .ok (.aload_n 0, 1) := by decide +kernel
theorem dX6_useOne_47 : decode cX6_useOne 47 = .ok (.iload_n 2, 1) := by decide +kernel
theorem dX6_useOne_48 : decode cX6_useOne 48 = .ok (.iload 4, 2) := by decide +kernel
theorem dX6_useOne_50 : decode cX6_useOne 50 = .ok (.invokevirtual 263, 3) := by decide +kernel
theorem dX6_useOne_53 : decode cX6_useOne 53 = .ok (.ireturn, 1) := by decide +kernel
theorem dX6_useOne_54 : decode cX6_useOne 54 = .ok (.aload 6, 2) := by decide +kernel
theorem dX6_useOne_56 : decode cX6_useOne 56 = .ok (.ifnull 8, 3) := by decide +kernel
theorem dX6_useOne_59 : decode cX6_useOne 59 = .ok (.iload 5, 2) := by decide +kernel
theorem dX6_useOne_61 : decode cX6_useOne 61 = .ok (.ifCond .ge 10, 3) := by decide +kernel
theorem dX6_useOne_64 : decode cX6_useOne 64 = .ok (.aload_n 0, 1) := by decide +kernel
theorem dX6_useOne_65 : decode cX6_useOne 65 = .ok (.iconst 5, 1) := by decide +kernel
theorem dX6_useOne_66 : decode cX6_useOne 66 = .ok (.invokevirtual 103, 3) := by decide +kernel
theorem dX6_useOne_69 : decode cX6_useOne 69 = .ok (.iconst 0, 1) := by decide +kernel
theorem dX6_useOne_70 : decode cX6_useOne 70 = .ok (.ireturn, 1) := by decide +kernel
theorem dX6_useOne_71 : decode cX6_useOne 71 = .ok (.iload_n 2, 1) := by decide +kernel
theorem dX6_useOne_72 : decode cX6_useOne 72 = .ok (.bipush 31, 2) := by decide +kernel
theorem dX6_useOne_74 : decode cX6_useOne 74 = .ok (.if_icmp .gt 26, 3) := by decide +kernel
theorem dX6_useOne_77 : decode cX6_useOne 77 = .ok (.aload_n 0, 1) := by decide +kernel
theorem dX6_useOne_78 : decode cX6_useOne 78 = .ok (.iload_n 2, 1) := by decide +kernel
theorem dX6_useOne_79 : decode cX6_useOne 79 = .ok (.bipush 31, 2) := by decide +kernel
theorem dX6_useOne_81 : decode cX6_useOne 81 = .ok (.if_icmp .ne 7, 3) := by decide +kernel
theorem dX6_useOne_84 : decode cX6_useOne 84 = .ok (.iconst 1, 1) := by decide +kernel
theorem dX6_useOne_85 : decode cX6_useOne 85 = .ok (.goto 4, 3) := by decide +kernel
theorem dX6_useOne_88 : decode cX6_useOne 88 = .ok (.iconst 0, 1) := by decide +kernel
theorem dX6_useOne_89 : decode cX6_useOne 89 = .ok (.iload 5, 2) := by decide +kernel
theorem dX6_useOne_91 : decode cX6_useOne 91 = .ok (.aload 6, 2) := by decide +kernel
theorem dX6_useOne_93 : decode cX6_useOne 93 = .ok (.getfield 126, 3) := by decide +kernel
theorem dX6_useOne_96 : decode cX6_useOne 96 = .ok (.invokevirtual 246, 3) := by decide +kernel
theorem dX6_useOne_99 : decode cX6_useOne 99 = .ok (.ireturn, 1) := by decide +kernel
theorem dX6_useOne_100 : decode cX6_useOne 100 = .ok (.iload_n 2, 1) := by decide +kernel
theorem dX6_useOne_101 : decode cX6_useOne 101 = .ok (.bipush 33, 2) := by decide +kernel
theorem dX6_useOne_103 : decode cX6_useOne 103 = .ok (.if_icmp .gt 26, 3) := by decide +kernel
theorem dX6_useOne_106 : decode cX6_useOne 106 = .ok (.aload_n 0, 1) := by decide +kernel
theorem dX6_useOne_107 : decode cX6_useOne 107 = .ok (.iload_n 2, 1) := by decide +kernel
theorem dX6_useOne_108 : decode cX6_useOne 108 = .ok (.bipush 33, 2) := by decide +kernel
theorem dX6_useOne_110 : decode cX6_useOne 110 = .ok (.if_icmp .ne 7, 3) := by decide +kernel
theorem dX6_useOne_113 : decode cX6_useOne 113 = .ok (.iconst 1, 1) := by decide +kernel
theorem dX6_useOne_114 : decode cX6_useOne 114 = .ok (.goto 4, 3) := by decide +kernel
theorem dX6_useOne_117 : decode cX6_useOne 117 = .ok (.iconst 0, 1) := by decide +kernel
theorem dX6_useOne_118 : decode cX6_useOne 118 = .ok (.iload 5, 2) := by decide +kernel
theorem dX6_useOne_120 : decode cX6_useOne 120 = .ok (.aload 6, 2) := by decide +kernel
theorem dX6_useOne_122 : decode cX6_useOne 122 = .ok (.getfield 126, 3) := by decide +kernel
theorem dX6_useOne_125 : decode cX6_useOne 125 = .ok (.invokevirtual 250, 3) := by decide +kernel
theorem dX6_useOne_128 : decode cX6_useOne 128 = .ok (.ireturn, 1) := by decide +kernel
theorem dX6_useOne_129 : decode cX6_useOne 129 = .ok (.iload_n 2, 1) := by decide +kernel
theorem dX6_useOne_130 : decode cX6_useOne 130 = .ok (.bipush 36, 2) := by decide +kernel
theorem dX6_useOne_132 : decode cX6_useOne 132 = .ok (.if_icmp .ne 13, 3) := by decide +kernel
theorem dX6_useOne_135 : decode cX6_useOne 135 = .ok (.aload_n 0, 1) := by decide +kernel
theorem dX6_useOne_136 : decode cX6_useOne 136 = .ok (.aload_n 1, 1) := by decide +kernel
theorem dX6_useOne_137 : decode cX6_useOne 137 = .ok (.iload 5, 2) := by decide +kernel
theorem dX6_useOne_139 : decode cX6_useOne 139 = .ok (.aload 6, 2) := by decide +kernel
theorem dX6_useOne_141 : decode cX6_useOne 141 = .ok (.invokevirtual 266, 3) := by decide +kernel
theorem dX6_useOne_144 : decode cX6_useOne 144 = .ok (.ireturn, 1) := by decide +kernel
theorem dX6_useOne_145 : decode cX6_useOne 145 = .ok (.iload_n 3, 1) := by decide +kernel
theorem dX6_useOne_146 : decode cX6_useOne 146 = .ok (.bipush 7, 2) := by decide +kernel
theorem dX6_useOne_148 : decode cX6_useOne 148 = .ok (.if_icmp .eq 9, 3) := by decide +kernel
theorem dX6_useOne_151 : decode cX6_useOne 151 = .ok (.iload_n 3, 1) := by decide +kernel
theorem dX6_useOne_152 : decode cX6_useOne 152 = .ok (.bipush 8, 2) := by decide +kernel
theorem dX6_useOne_154 : decode cX6_useOne 154 = .ok (.if_icmp .ne 17, 3) := by decide +kernel
theorem dX6_useOne_157 : decode cX6_useOne 157 = .ok (.aload_n 0, 1) := by decide +kernel
theorem dX6_useOne_158 : decode cX6_useOne 158 = .ok (.aload_n 1, 1) := by decide +kernel
theorem dX6_useOne_159 : decode cX6_useOne 159 = .ok (.iload_n 3, 1) := by decide +kernel
theorem dX6_useOne_160 : decode cX6_useOne 160 = .ok (.iload 4, 2) := by decide +kernel
theorem dX6_useOne_162 : decode cX6_useOne 162 = .ok (.iload 5, 2) := by decide +kernel
theorem dX6_useOne_164 : decode cX6_useOne 164 = .ok (.aload 6, 2) := by decide +kernel
theorem dX6_useOne_166 : decode cX6_useOne 166 = .ok (.invokevirtual 270, 3) := by decide +kernel
theorem dX6_useOne_169 : decode cX6_useOne 169 = .ok (.iconst 0, 1) := by decide +kernel
theorem dX6_useOne_170 : decode cX6_useOne 170 = .ok (.ireturn, 1) := by decide +kernel
theorem dX6_useOne_171 : decode cX6_useOne 171 = .ok (.aload_n 1, 1) := by decide +kernel
theorem dX6_useOne_172 : decode cX6_useOne 172 = .ok (.iconst 1, 1) := by decide +kernel
theorem dX6_useOne_173 : decode cX6_useOne 173 = .ok (.dup2, 1) := by decide +kernel
theorem dX6_useOne_174 : decode cX6_useOne 174 = .ok (.iaload, 1) := by decide +kernel
theorem dX6_useOne_175 : decode cX6_useOne 175 = .ok (.iconst 2, 1) := by decide +kernel
theorem dX6_useOne_176 : decode cX6_useOne 176 = .ok (.iadd, 1) := by decide +kernel
theorem dX6_useOne_177 : decode cX6_useOne 177 = .ok (.iastore, 1) := by decide +kernel
theorem dX6_useOne_178 : decode cX6_useOne 178 = .ok (.aload_n 0, 1) := by decide +kernel
theorem dX6_useOne_179 : decode cX6_useOne 179 = .ok (.iload 5, 2) := by decide +kernel
theorem dX6_useOne_181 : decode cX6_useOne 181 = .ok (.aload 6, 2) := by decide +kernel
theorem dX6_useOne_183 : decode cX6_useOne 183 = .ok (.aload 6, 2) := by decide +kernel
theorem dX6_useOne_185 : decode cX6_useOne 185 = .ok (.getfield 274, 3) := by decide +kernel
theorem dX6_useOne_188 : decode cX6_useOne 188 = .ok (.aload 6, 2) := by decide +kernel
theorem dX6_useOne_190 : decode cX6_useOne 190 = .ok (.getfield 173, 3) := by decide +kernel
theorem dX6_useOne_193 : decode cX6_useOne 193 = .ok (.ifCond .eq 7, 3) := by decide +kernel
theorem dX6_useOne_196 : decode cX6_useOne 196 = .ok (.iconst 0, 1) := by decide +kernel
theorem dX6_useOne_197 : decode cX6_useOne 197 = .ok (.goto 4, 3) := by decide +kernel
theorem dX6_useOne_200 : decode cX6_useOne 200 = .ok (.iconst 1, 1) := by decide +kernel
theorem dX6_useOne_201 : decode cX6_useOne 201 = .ok (.iadd, 1) := by decide +kernel
theorem dX6_useOne_202 : decode cX6_useOne 202 = .ok (.iconst 1, 1) := by decide +kernel
theorem dX6_useOne_203 : decode cX6_useOne 203 = .ok (.invokevirtual 277, 3) := by decide +kernel
theorem dX6_useOne_206 : decode cX6_useOne 206 = .ok (.iconst 0, 1) := by decide +kernel
theorem dX6_useOne_207 : decode cX6_useOne 207 = .ok (.ireturn, 1) := by decide +kernel
theorem dX6_newOne_0 : decode cX6_newOne 0 = .ok (.aload_n 0, 1) := by decide +kernel
theorem dX6_newOne_1 : decode cX6_newOne 1 = .ok (.iload_n 1, 1) := by decide +kernel
theorem dX6_newOne_2 : decode cX6_newOne 2 = .ok (.invokevirtual 281, 3) := by decide +kernel
theorem dX6_newOne_5 : decode cX6_newOne 5 = .ok (.istore_n 2, 1) := by decide +kernel
theorem dX6_newOne_6 : decode cX6_newOne 6 = .ok (.aload_n 0, 1) := by decide +kernel
theorem dX6_newOne_7 : decode cX6_newOne 7 = .ok (.getfield 55, 3) := by decide +kernel
theorem dX6_newOne_10 : decode cX6_newOne 10 = .ok (.sipush 200, 3) := by decide +kernel
theorem dX6_newOne_13 : decode cX6_newOne 13 = .ok (.if_icmp .ge 15, 3) := by decide +kernel
theorem dX6_newOne_16 : decode cX6_newOne 16 = .ok (.aload_n 0, 1) := by decide +kernel
theorem dX6_newOne_17 : decode cX6_newOne 17 = .ok (.getfield 59, 3) := by decide +kernel
theorem dX6_newOne_20 : decode cX6_newOne 20 = .ok (.iload_n 2, 1) := by decide +kernel
theorem dX6_newOne_21 : decode cX6_newOne 21 = .ok (.iadd, 1) := by decide +kernel
theorem dX6_newOne_22 : decode cX6_newOne 22 = .ok (.sipush 2000, 3) := by decide +kernel
theorem dX6_newOne_25 : decode cX6_newOne 25 = .ok (.if_icmp .le 11, 3) := by decide +kernel
theorem dX6_newOne_28 : decode cX6_newOne 28 = .ok (.aload_n 0, 1) := by decide +kernel
theorem dX6_newOne_29 : decode cX6_newOne 29 = .ok (.bipush 16, 2) := by decide +kernel
theorem dX6_newOne_31 : decode cX6_newOne 31 = .ok (.invokevirtual 103, 3) := by decide +kernel
theorem dX6_newOne_34 : decode cX6_newOne 34 = .ok (.iconst 0, 1) := by decide +kernel
theorem dX6_newOne_35 : decode cX6_newOne 35 = .ok (.ireturn, 1) := by decide +kernel
theorem dX6_newOne_36 : decode cX6_newOne 36 = .ok (.aload_n 0, 1) := by decide +kernel
theorem dX6_newOne_37 : decode cX6_newOne 37 = .ok (.dup, 1) := by decide +kernel
theorem dX6_newOne_38 : decode cX6_newOne 38 = .ok (.getfield 55, 3) := by decide +kernel
theorem dX6_newOne_41 : decode cX6_newOne 41 = .ok (.iconst 1, 1) := by decide +kernel
theorem dX6_newOne_42 : decode cX6_newOne 42 = .ok (.iadd, 1) := by decide +kernel
theorem dX6_newOne_43 : decode cX6_newOne 43 = .ok (.putfield 55, 3) := by decide +kernel
theorem dX6_newOne_46 : decode cX6_newOne 46 = .ok (.aload_n 0, 1) := by decide +kernel
theorem dX6_newOne_47 : decode cX6_newOne 47 = .ok (.getfield 32, 3) := by decide +kernel
theorem dX6_newOne_50 : decode cX6_newOne 50 = .ok (.aload_n 0, 1) := by decide +kernel
theorem dX6_newOne_51 : decode cX6_newOne 51 = .ok (.getfield 55, 3) := by decide +kernel
theorem dX6_newOne_54 : decode cX6_newOne 54 = .ok (.iload_n 1, 1) := by decide +kernel
theorem dX6_newOne_55 : decode cX6_newOne 55 = .ok (.iastore, 1) := by decide +kernel
theorem dX6_newOne_56 : decode cX6_newOne 56 = .ok (.aload_n 0, 1) := by decide +kernel
theorem dX6_newOne_57 : decode cX6_newOne 57 = .ok (.getfield 35, 3) := by decide +kernel
theorem dX6_newOne_60 : decode cX6_newOne 60 = .ok (.aload_n 0, 1) := by decide +kernel
theorem dX6_newOne_61 : decode cX6_newOne 61 = .ok (.getfield 55, 3) := by decide +kernel
theorem dX6_newOne_64 : decode cX6_newOne 64 = .ok (.aload_n 0, 1) := by decide +kernel
theorem dX6_newOne_65 : decode cX6_newOne 65 = .ok (.getfield 59, 3) := by decide +kernel
theorem dX6_newOne_68 : decode cX6_newOne 68 = .ok (.iastore, 1) := by decide +kernel
theorem dX6_newOne_69 : decode cX6_newOne 69 = .ok (.iconst 0, 1) := by decide +kernel
theorem dX6_newOne_70 : decode cX6_newOne 70 = .ok (.istore_n 3, 1) := by decide +kernel
theorem dX6_newOne_71 : decode cX6_newOne 71 = .ok (.iload_n 3, 1) := by decide +kernel
theorem dX6_newOne_72 : decode cX6_newOne 72 = .ok (.iload_n 2, 1) := by decide +kernel
theorem dX6_newOne_73 : decode cX6_newOne 73 = .ok (.if_icmp .ge 29, 3) := by decide +kernel
theorem dX6_newOne_76 : decode cX6_newOne 76 = .ok (.aload_n 0, 1) := by decide +kernel
theorem dX6_newOne_77 : decode cX6_newOne 77 = .ok (.getfield 38, 3) := by decide +kernel
theorem dX6_newOne_80 : decode cX6_newOne 80 = .ok (.aload_n 0, 1) := by decide +kernel
theorem dX6_newOne_81 : decode cX6_newOne 81 = .ok (.getfield 59, 3) := by decide +kernel
theorem dX6_newOne_84 : decode cX6_newOne 84 = .ok (.iconst 0, 1) := by decide +kernel
theorem dX6_newOne_85 : decode cX6_newOne 85 = .ok (.iastore, 1) := by decide +kernel
theorem dX6_newOne_86 : decode cX6_newOne 86 = .ok (.aload_n 0, 1) := by decide +kernel
theorem dX6_newOne_87 : decode cX6_newOne 87 = .ok (.dup, 1) := by decide +kernel
theorem dX6_newOne_88 : decode cX6_newOne 88 = .ok (.getfield 59, 3) := by decide +kernel
theorem dX6_newOne_91 : decode cX6_newOne 91 = .ok (.iconst 1, 1) := by decide +kernel
theorem dX6_newOne_92 : decode cX6_newOne 92 = .ok (.iadd, 1) := by decide +kernel
theorem dX6_newOne_93 : decode cX6_newOne 93 = .ok (.putfield 59, 3) := by decide +kernel
theorem dX6_newOne_96 : decode cX6_newOne 96 = .ok (.iinc 3 1, 3) := by decide +kernel
theorem dX6_newOne_99 : decode cX6_newOne 99 = .ok (.goto (-28), 3) := by decide +kernel
theorem dX6_newOne_102 : decode cX6_newOne 102 = .ok (.aload_n 0, 1) := by decide +kernel
theorem dX6_newOne_103 : decode cX6_newOne 103 = .ok (.aload_n 0, 1) := by decide +kernel
theorem dX6_newOne_104 : decode cX6_newOne 104 = .ok (.getfield 55, 3) := by decide +kernel
theorem dX6_newOne_107 : decode cX6_newOne 107 = .ok (.invokevirtual 224, 3) := by decide +kernel
theorem dX6_newOne_110 : decode cX6_newOne 110 = .ok (.iconst 1, 1) := by decide +kernel
theorem dX6_newOne_111 : decode cX6_newOne 111 = .ok (.ireturn, 1) := by decide +kernel
theorem dX6_slotsTo_0 : decode cX6_slotsTo 0 = .ok (.aload_n 0, 1) := by decide +kernel
theorem dX6_slotsTo_1 : decode cX6_slotsTo 1 = .ok (.getfield 47, 3) := by decide +kernel
theorem dX6_slotsTo_4 : decode cX6_slotsTo 4 = .ok (.getfield 110, 3) := by decide +kernel
theorem dX6_slotsTo_7 : decode cX6_slotsTo 7 = .ok (.iload_n 1, 1) := by decide +kernel
theorem dX6_slotsTo_8 : decode cX6_slotsTo 8 = .ok (.aaload, 1) := by decide +kernel
theorem dX6_slotsTo_9 : decode cX6_slotsTo 9 = .ok (.getfield 284, 3) := by decide +kernel
theorem dX6_slotsTo_12 : decode cX6_slotsTo 12 = .ok (.istore_n 2, 1) := by decide +kernel
theorem dX6_slotsTo_13 : decode cX6_slotsTo 13 = .ok (.aload_n 0, 1) := by decide +kernel
theorem dX6_slotsTo_14 : decode cX6_slotsTo 14 = .ok (.getfield 47, 3) := by decide +kernel
theorem dX6_slotsTo_17 : decode cX6_slotsTo 17 = .ok (.getfield 195, 3) := by decide +kernel
theorem dX6_slotsTo_20 : decode cX6_slotsTo 20 = .ok (.iload_n 1, 1) := by decide +kernel
theorem dX6_slotsTo_21 : decode cX6_slotsTo 21 = .ok (.iaload, 1) := by decide +kernel
theorem dX6_slotsTo_22 : decode cX6_slotsTo 22 = .ok (.istore_n 3, 1) := by decide +kernel
theorem dX6_slotsTo_23 : decode cX6_slotsTo 23 = .ok (.iconst 0, 1) := by decide +kernel
theorem dX6_slotsTo_24 : decode cX6_slotsTo 24 = .ok (.istore 4, 2) := by decide +kernel
theorem dX6_slotsTo_26 : decode cX6_slotsTo 26 = .ok (.iload 4, 2) := by decide +kernel
theorem dX6_slotsTo_28 : decode cX6_slotsTo 28 = .ok (.aload_n 0, 1) := by decide +kernel
theorem dX6_slotsTo_29 : decode cX6_slotsTo 29 = .ok (.getfield 47, 3) := by decide +kernel
theorem dX6_slotsTo_32 : decode cX6_slotsTo 32 = .ok (.getfield 287, 3) := by decide +kernel
theorem dX6_slotsTo_35 : decode cX6_slotsTo 35 = .ok (.iload_n 1, 1) := by decide +kernel
theorem dX6_slotsTo_36 : decode cX6_slotsTo 36 = .ok (.iaload, 1) := by decide +kernel
theorem dX6_slotsTo_37 : decode cX6_slotsTo 37 = .ok (.if_icmp .ge 38, 3) := by decide +kernel
theorem dX6_slotsTo_40 : decode cX6_slotsTo 40 = .ok (.iload_n 3, 1) := by decide +kernel
theorem dX6_slotsTo_41 : decode cX6_slotsTo 41 = .ok (.ifCond .lt 34, 3) := by decide +kernel
theorem dX6_slotsTo_44 : decode cX6_slotsTo 44 = .ok (.iload_n 2, 1) := by decide +kernel
theorem dX6_slotsTo_45 : decode cX6_slotsTo 45 = .ok (.aload_n 0, 1) := by decide +kernel
theorem dX6_slotsTo_46 : decode cX6_slotsTo 46 = .ok (.getfield 47, 3) := by decide +kernel
theorem dX6_slotsTo_49 : decode cX6_slotsTo 49 = .ok (.getfield 110, 3) := by decide +kernel
theorem dX6_slotsTo_52 : decode cX6_slotsTo 52 = .ok (.iload_n 3, 1) := by decide +kernel
theorem dX6_slotsTo_53 : decode cX6_slotsTo 53 = .ok (.aaload, 1) := by decide +kernel
theorem dX6_slotsTo_54 : decode cX6_slotsTo 54 = .ok (.getfield 284, 3) := by decide +kernel
theorem dX6_slotsTo_57 : decode cX6_slotsTo 57 = .ok (.iadd, 1) := by decide +kernel
theorem dX6_slotsTo_58 : decode cX6_slotsTo 58 = .ok (.istore_n 2, 1) := by decide +kernel
theorem dX6_slotsTo_59 : decode cX6_slotsTo 59 = .ok (.aload_n 0, 1) := by decide +kernel
theorem dX6_slotsTo_60 : decode cX6_slotsTo 60 = .ok (.getfield 47, 3) := by decide +kernel
theorem dX6_slotsTo_63 : decode cX6_slotsTo 63 = .ok (.getfield 195, 3) := by decide +kernel
theorem dX6_slotsTo_66 : decode cX6_slotsTo 66 = .ok (.iload_n 3, 1) := by decide +kernel
theorem dX6_slotsTo_67 : decode cX6_slotsTo 67 = .ok (.iaload, 1) := by decide +kernel
theorem dX6_slotsTo_68 : decode cX6_slotsTo 68 = .ok (.istore_n 3, 1) := by decide +kernel
theorem dX6_slotsTo_69 : decode cX6_slotsTo 69 = .ok (.iinc 4 1, 3) := by decide +kernel
theorem dX6_slotsTo_72 : decode cX6_slotsTo 72 = .ok (.goto (-46), 3) := by decide +kernel
theorem dX6_slotsTo_75 : decode cX6_slotsTo 75 = .ok (.iload_n 2, 1) := by decide +kernel
theorem dX6_slotsTo_76 : decode cX6_slotsTo 76 = .ok (.ireturn, 1) := by decide +kernel
theorem dX6_isOne_0 : decode cX6_isOne 0 = .ok (.aload_n 0, 1) := by decide +kernel
theorem dX6_isOne_1 : decode cX6_isOne 1 = .ok (.iconst 0, 1) := by decide +kernel
theorem dX6_isOne_2 : decode cX6_isOne 2 = .ok (.invokevirtual 156, 3) := by decide +kernel
theorem dX6_isOne_5 : decode cX6_isOne 5 = .ok (.istore_n 3, 1) := by decide +kernel
theorem dX6_isOne_6 : decode cX6_isOne 6 = .ok (.iload_n 3, 1) := by decide +kernel
theorem dX6_isOne_7 : decode cX6_isOne 7 = .ok (.ifCond .le 20, 3) := by decide +kernel
theorem dX6_isOne_10 : decode cX6_isOne 10 = .ok (.iload_n 3, 1) := by decide +kernel
theorem dX6_isOne_11 : decode cX6_isOne 11 = .ok (.aload_n 0, 1) := by decide +kernel
theorem dX6_isOne_12 : decode cX6_isOne 12 = .ok (.getfield 55, 3) := by decide +kernel
theorem dX6_isOne_15 : decode cX6_isOne 15 = .ok (.if_icmp .gt 12, 3) := by decide +kernel
theorem dX6_isOne_18 : decode cX6_isOne 18 = .ok (.aload_n 0, 1) := by decide +kernel
theorem dX6_isOne_19 : decode cX6_isOne 19 = .ok (.getfield 32, 3) := by decide +kernel
theorem dX6_isOne_22 : decode cX6_isOne 22 = .ok (.iload_n 3, 1) := by decide +kernel
theorem dX6_isOne_23 : decode cX6_isOne 23 = .ok (.iaload, 1) := by decide +kernel
theorem dX6_isOne_24 : decode cX6_isOne 24 = .ok (.goto 4, 3) := by decide +kernel
theorem dX6_isOne_27 : decode cX6_isOne 27 = .ok (.iconst 0, 1) := by decide +kernel
theorem dX6_isOne_28 : decode cX6_isOne 28 = .ok (.istore 4, 2) := by decide +kernel
theorem dX6_isOne_30 : decode cX6_isOne 30 = .ok (.iload_n 2, 1) := by decide +kernel
theorem dX6_isOne_31 : decode cX6_isOne 31 = .ok (.ifCond .lt 26, 3) := by decide +kernel
theorem dX6_isOne_34 : decode cX6_isOne 34 = .ok (.iload 4, 2) := by decide +kernel
theorem dX6_isOne_36 : decode cX6_isOne 36 = .ok (.iload_n 2, 1) := by decide +kernel
theorem dX6_isOne_37 : decode cX6_isOne 37 = .ok (.if_icmp .eq 16, 3) := by decide +kernel
theorem dX6_isOne_40 : decode cX6_isOne 40 = .ok (.aload_n 0, 1) := by decide +kernel
theorem dX6_isOne_41 : decode cX6_isOne 41 = .ok (.getfield 47, 3) := by decide +kernel
theorem dX6_isOne_44 : decode cX6_isOne 44 = .ok (.iload 4, 2) := by decide +kernel
theorem dX6_isOne_46 : decode cX6_isOne 46 = .ok (.iload_n 2, 1) := by decide +kernel
theorem dX6_isOne_47 : decode cX6_isOne 47 = .ok (.invokevirtual 290, 3) := by decide +kernel
theorem dX6_isOne_50 : decode cX6_isOne 50 = .ok (.ifCond .eq 7, 3) := by decide +kernel
theorem dX6_isOne_53 : decode cX6_isOne 53 = .ok (.iconst 1, 1) := by decide +kernel
theorem dX6_isOne_54 : decode cX6_isOne 54 = .ok (.goto 4, 3) := by decide +kernel
theorem dX6_isOne_57 : decode cX6_isOne 57 = .ok (.iconst 0, 1) := by decide +kernel
theorem dX6_isOne_58 : decode cX6_isOne 58 = .ok (.istore 5, 2) := by decide +kernel
theorem dX6_isOne_60 : decode cX6_isOne 60 = .ok (.iload_n 1, 1) := by decide +kernel
theorem dX6_isOne_61 : decode cX6_isOne 61 = .ok (.bipush 38, 2) := by decide +kernel
theorem dX6_isOne_63 : decode cX6_isOne 63 = .ok (.if_icmp .ne 24, 3) := by decide +kernel
theorem dX6_isOne_66 : decode cX6_isOne 66 = .ok (.aload_n 0, 1) := by decide +kernel
theorem dX6_isOne_67 : decode cX6_isOne 67 = .ok (.invokevirtual 227, 3) := by decide +kernel
theorem dX6_isOne_70 : decode cX6_isOne 70 = .ok (.pop, 1) := by decide +kernel
theorem dX6_isOne_71 : decode cX6_isOne 71 = .ok (.aload_n 0, 1) := by decide +kernel
theorem dX6_isOne_72 : decode cX6_isOne 72 = .ok (.iload 5, 2) := by decide +kernel
theorem dX6_isOne_74 : decode cX6_isOne 74 = .ok (.ifCond .eq 7, 3) := by decide +kernel
theorem dX6_isOne_77 : decode cX6_isOne 77 = .ok (.iconst 1, 1) := by decide +kernel
theorem dX6_isOne_78 : decode cX6_isOne 78 = .ok (.goto 4, 3) := by decide +kernel
theorem dX6_isOne_81 : decode cX6_isOne 81 = .ok (.iconst 0, 1) := by decide +kernel
theorem dX6_isOne_82 : decode cX6_isOne 82 = .ok (.invokevirtual 224, 3) := by decide +kernel
theorem dX6_isOne_85 : decode cX6_isOne 85 = .ok (.iconst 1, 1) := by decide +kernel
theorem dX6_isOne_86 : decode cX6_isOne 86 = .ok (.ireturn, 1) := by decide +kernel
theorem dX6_isOne_87 : decode cX6_isOne 87 = .ok (.iload 5, 2) := by decide +kernel
theorem dX6_isOne_89 : decode cX6_isOne 89 = .ok (.ifCond .eq 5, 3) := by decide +kernel
theorem dX6_isOne_92 : decode cX6_isOne 92 = .ok (.iconst 1, 1) := by decide +kernel
theorem dX6_isOne_93 : decode cX6_isOne 93 = .ok (.ireturn, 1) := by decide +kernel
theorem dX6_isOne_94 : decode cX6_isOne 94 = .ok (.iload_n 1, 1) := by decide +kernel
theorem dX6_isOne_95 : decode cX6_isOne 95 = .ok (.bipush 37, 2) := by decide +kernel
theorem dX6_isOne_97 : decode cX6_isOne 97 = .ok (.if_icmp .ne 12, 3) := by decide +kernel
theorem dX6_isOne_100 : decode cX6_isOne 100 = .ok (.aload_n 0, 1) := by decide +kernel
theorem dX6_isOne_101 : decode cX6_isOne 101 = .ok (.bipush 12, 2) := by decide +kernel
theorem dX6_isOne_103 : decode cX6_isOne 103 = .ok (.invokevirtual 103, 3) := by decide +kernel
theorem dX6_isOne_106 : decode cX6_isOne 106 = .ok (.goto 8, 3) := by decide +kernel
theorem dX6_isOne_109 : decode cX6_isOne 109 = .ok (.aload_n 0, 1) := by decide +kernel
theorem dX6_isOne_110 : decode cX6_isOne 110 = .ok (.iload_n 3, 1) := by decide +kernel
theorem dX6_isOne_111 : decode cX6_isOne 111 = .ok (.invokevirtual 235, 3) := by decide +kernel
theorem dX6_isOne_114 : decode cX6_isOne 114 = .ok (.iconst 0, 1) := by decide +kernel
theorem dX6_isOne_115 : decode cX6_isOne 115 = .ok (.ireturn, 1) := by decide +kernel
theorem dX6_fieldOne_0 : decode cX6_fieldOne 0 = .ok (.iload_n 1, 1) := by decide +kernel
theorem dX6_fieldOne_1 : decode cX6_fieldOne 1 = .ok (.ifCond .eq 10, 3) := by decide +kernel
theorem dX6_fieldOne_4 : decode cX6_fieldOne 4 = .ok (.aload_n 0, 1) := by decide +kernel
theorem dX6_fieldOne_5 : decode cX6_fieldOne 5 = .ok (.invokevirtual 227, 3) := by decide +kernel
theorem dX6_fieldOne_8 : decode cX6_fieldOne 8 = .ok (.goto 4, 3) := by decide +kernel
theorem dX6_fieldOne_11 : decode cX6_fieldOne 11 = .ok (.iconst 0, 1) := by decide +kernel
theorem dX6_fieldOne_12 : decode cX6_fieldOne 12 = .ok (.istore 4, 2) := by decide +kernel
theorem dX6_fieldOne_14 : decode cX6_fieldOne 14 = .ok (.aload_n 0, 1) := by decide +kernel
theorem dX6_fieldOne_15 : decode cX6_fieldOne 15 = .ok (.invokevirtual 227, 3) := by decide +kernel
theorem dX6_fieldOne_18 : decode cX6_fieldOne 18 = .ok (.istore 5, 2) := by decide +kernel
theorem dX6_fieldOne_20 : decode cX6_fieldOne 20 = .ok (.iload 5, 2) := by decide +kernel
theorem dX6_fieldOne_22 : decode cX6_fieldOne 22 = .ok (.ifCond .le 12, 3) := by decide +kernel
theorem dX6_fieldOne_25 : decode cX6_fieldOne 25 = .ok (.iload 5, 2) := by decide +kernel
theorem dX6_fieldOne_27 : decode cX6_fieldOne 27 = .ok (.aload_n 0, 1) := by decide +kernel
theorem dX6_fieldOne_28 : decode cX6_fieldOne 28 = .ok (.getfield 55, 3) := by decide +kernel
theorem dX6_fieldOne_31 : decode cX6_fieldOne 31 = .ok (.if_icmp .le 11, 3) := by decide +kernel
theorem dX6_fieldOne_34 : decode cX6_fieldOne 34 = .ok (.aload_n 0, 1) := by decide +kernel
theorem dX6_fieldOne_35 : decode cX6_fieldOne 35 = .ok (.bipush 13, 2) := by decide +kernel
theorem dX6_fieldOne_37 : decode cX6_fieldOne 37 = .ok (.invokevirtual 103, 3) := by decide +kernel
theorem dX6_fieldOne_40 : decode cX6_fieldOne 40 = .ok (.iconst 0, 1) := by decide +kernel
theorem dX6_fieldOne_41 : decode cX6_fieldOne 41 = .ok (.ireturn, 1) := by decide +kernel
theorem dX6_fieldOne_42 : decode cX6_fieldOne 42 = .ok (.aload_n 0, 1) := by decide +kernel
theorem dX6_fieldOne_43 : decode cX6_fieldOne 43 = .ok (.getfield 35, 3) := by decide +kernel
theorem dX6_fieldOne_46 : decode cX6_fieldOne 46 = .ok (.iload 5, 2) := by decide +kernel
theorem dX6_fieldOne_48 : decode cX6_fieldOne 48 = .ok (.iaload, 1) := by decide +kernel
theorem dX6_fieldOne_49 : decode cX6_fieldOne 49 = .ok (.aload_n 0, 1) := by decide +kernel
theorem dX6_fieldOne_50 : decode cX6_fieldOne 50 = .ok (.iload_n 2, 1) := by decide +kernel
theorem dX6_fieldOne_51 : decode cX6_fieldOne 51 = .ok (.invokevirtual 281, 3) := by decide +kernel
theorem dX6_fieldOne_54 : decode cX6_fieldOne 54 = .ok (.iadd, 1) := by decide +kernel
theorem dX6_fieldOne_55 : decode cX6_fieldOne 55 = .ok (.aload_n 0, 1) := by decide +kernel
theorem dX6_fieldOne_56 : decode cX6_fieldOne 56 = .ok (.getfield 47, 3) := by decide +kernel
theorem dX6_fieldOne_59 : decode cX6_fieldOne 59 = .ok (.getfield 110, 3) := by decide +kernel
theorem dX6_fieldOne_62 : decode cX6_fieldOne 62 = .ok (.iload_n 2, 1) := by decide +kernel
theorem dX6_fieldOne_63 : decode cX6_fieldOne 63 = .ok (.aaload, 1) := by decide +kernel
theorem dX6_fieldOne_64 : decode cX6_fieldOne 64 = .ok (.getfield 284, 3) := by decide +kernel
theorem dX6_fieldOne_67 : decode cX6_fieldOne 67 = .ok (.isub, 1) := by decide +kernel
theorem dX6_fieldOne_68 : decode cX6_fieldOne 68 = .ok (.iload_n 3, 1) := by decide +kernel
theorem dX6_fieldOne_69 : decode cX6_fieldOne 69 = .ok (.iadd, 1) := by decide +kernel
theorem dX6_fieldOne_70 : decode cX6_fieldOne 70 = .ok (.istore 6, 2) := by decide +kernel
theorem dX6_fieldOne_72 : decode cX6_fieldOne 72 = .ok (.iload 6, 2) := by decide +kernel
theorem dX6_fieldOne_74 : decode cX6_fieldOne 74 = .ok (.ifCond .lt 12, 3) := by decide +kernel
theorem dX6_fieldOne_77 : decode cX6_fieldOne 77 = .ok (.iload 6, 2) := by decide +kernel
theorem dX6_fieldOne_79 : decode cX6_fieldOne 79 = .ok (.aload_n 0, 1) := by decide +kernel
theorem dX6_fieldOne_80 : decode cX6_fieldOne 80 = .ok (.getfield 59, 3) := by decide +kernel
theorem dX6_fieldOne_83 : decode cX6_fieldOne 83 = .ok (.if_icmp .lt 10, 3) := by decide +kernel
theorem dX6_fieldOne_86 : decode cX6_fieldOne 86 = .ok (.aload_n 0, 1) := by decide +kernel
theorem dX6_fieldOne_87 : decode cX6_fieldOne 87 = .ok (.iconst 3, 1) := by decide +kernel
theorem dX6_fieldOne_88 : decode cX6_fieldOne 88 = .ok (.invokevirtual 103, 3) := by decide +kernel
theorem dX6_fieldOne_91 : decode cX6_fieldOne 91 = .ok (.iconst 0, 1) := by decide +kernel
theorem dX6_fieldOne_92 : decode cX6_fieldOne 92 = .ok (.ireturn, 1) := by decide +kernel
theorem dX6_fieldOne_93 : decode cX6_fieldOne 93 = .ok (.iload_n 1, 1) := by decide +kernel
theorem dX6_fieldOne_94 : decode cX6_fieldOne 94 = .ok (.ifCond .eq 15, 3) := by decide +kernel
theorem dX6_fieldOne_97 : decode cX6_fieldOne 97 = .ok (.aload_n 0, 1) := by decide +kernel
theorem dX6_fieldOne_98 : decode cX6_fieldOne 98 = .ok (.getfield 38, 3) := by decide +kernel
theorem dX6_fieldOne_101 : decode cX6_fieldOne 101 = .ok (.iload 6, 2) := by decide +kernel
theorem dX6_fieldOne_103 : decode cX6_fieldOne 103 = .ok (.iload 4, 2) := by decide +kernel
theorem dX6_fieldOne_105 : decode cX6_fieldOne 105 = .ok (.iastore, 1) := by decide +kernel
theorem dX6_fieldOne_106 : decode cX6_fieldOne 106 = .ok (.goto 14, 3) := by decide +kernel
theorem dX6_fieldOne_109 : decode cX6_fieldOne 109 = .ok (.aload_n 0, 1) := by decide +kernel
theorem dX6_fieldOne_110 : decode cX6_fieldOne 110 = .ok (.aload_n 0, 1) := by decide +kernel
theorem dX6_fieldOne_111 : decode cX6_fieldOne 111 = .ok (.getfield 38, 3) := by decide +kernel
theorem dX6_fieldOne_114 : decode cX6_fieldOne 114 = .ok (.iload 6, 2) := by decide +kernel
theorem dX6_fieldOne_116 : decode cX6_fieldOne 116 = .ok (.iaload, 1) := by decide +kernel
theorem dX6_fieldOne_117 : decode cX6_fieldOne 117 = .ok (.invokevirtual 224, 3) := by decide +kernel
theorem dX6_fieldOne_120 : decode cX6_fieldOne 120 = .ok (.iconst 1, 1) := by decide +kernel
theorem dX6_fieldOne_121 : decode cX6_fieldOne 121 = .ok (.ireturn, 1) := by decide +kernel
theorem dX6_staticOne_0 : decode cX6_staticOne 0 = .ok (.iload_n 2, 1) := by decide +kernel
theorem dX6_staticOne_1 : decode cX6_staticOne 1 = .ok (.bipush 20, 2) := by decide +kernel
theorem dX6_staticOne_3 : decode cX6_staticOne 3 = .ok (.imul, 1) := by decide +kernel
theorem dX6_staticOne_4 : decode cX6_staticOne 4 = .ok (.iload_n 3, 1) := by decide +kernel
theorem dX6_staticOne_5 : decode cX6_staticOne 5 = .ok (.iadd, 1) := by decide +kernel
theorem dX6_staticOne_6 : decode cX6_staticOne 6 = .ok (.istore 4, 2) := by decide +kernel
theorem dX6_staticOne_8 : decode cX6_staticOne 8 = .ok (.iload 4, 2) := by decide +kernel
theorem dX6_staticOne_10 : decode cX6_staticOne 10 = .ok (.ifCond .lt 13, 3) := by decide +kernel
theorem dX6_staticOne_13 : decode cX6_staticOne 13 = .ok (.iload 4, 2) := by decide +kernel
theorem dX6_staticOne_15 : decode cX6_staticOne 15 = .ok (.aload_n 0, 1) := by decide +kernel
theorem dX6_staticOne_16 : decode cX6_staticOne 16 = .ok (.getfield 41, 3) := by decide +kernel
theorem dX6_staticOne_19 : decode cX6_staticOne 19 = .ok (.arraylength, 1) := by decide +kernel
theorem dX6_staticOne_20 : decode cX6_staticOne 20 = .ok (.if_icmp .lt 5, 3) := by decide +kernel
theorem dX6_staticOne_23 : decode cX6_staticOne 23 = .ok (.iconst 1, 1) := by decide +kernel
theorem dX6_staticOne_24 : decode cX6_staticOne 24 = .ok (.ireturn, 1) := by decide +kernel
theorem dX6_staticOne_25 : decode cX6_staticOne 25 = .ok (.iload_n 1, 1) := by decide +kernel
theorem dX6_staticOne_26 : decode cX6_staticOne 26 = .ok (.ifCond .eq 17, 3) := by decide +kernel
theorem dX6_staticOne_29 : decode cX6_staticOne 29 = .ok (.aload_n 0, 1) := by decide +kernel
theorem dX6_staticOne_30 : decode cX6_staticOne 30 = .ok (.getfield 41, 3) := by decide +kernel
theorem dX6_staticOne_33 : decode cX6_staticOne 33 = .ok (.iload 4, 2) := by decide +kernel
theorem dX6_staticOne_35 : decode cX6_staticOne 35 = .ok (.aload_n 0, 1) := by decide +kernel
theorem dX6_staticOne_36 : decode cX6_staticOne 36 = .ok (.invokevirtual 227, 3) := by decide +kernel
theorem dX6_staticOne_39 : decode cX6_staticOne 39 = .ok (.iastore, 1) := by decide +kernel
theorem dX6_staticOne_40 : decode cX6_staticOne 40 = .ok (.goto 14, 3) := by decide +kernel
theorem dX6_staticOne_43 : decode cX6_staticOne 43 = .ok (.aload_n 0, 1) := by decide +kernel
theorem dX6_staticOne_44 : decode cX6_staticOne 44 = .ok (.aload_n 0, 1) := by decide +kernel
theorem dX6_staticOne_45 : decode cX6_staticOne 45 = .ok (.getfield 41, 3) := by decide +kernel
theorem dX6_staticOne_48 : decode cX6_staticOne 48 = .ok (.iload 4, 2) := by decide +kernel
theorem dX6_staticOne_50 : decode cX6_staticOne 50 = .ok (.iaload, 1) := by decide +kernel
theorem dX6_staticOne_51 : decode cX6_staticOne 51 = .ok (.invokevirtual 224, 3) := by decide +kernel
theorem dX6_staticOne_54 : decode cX6_staticOne 54 = .ok (.iconst 1, 1) := by decide +kernel
theorem dX6_staticOne_55 : decode cX6_staticOne 55 = .ok (.ireturn, 1) := by decide +kernel
theorem dX6_selectOne_0 : decode cX6_selectOne 0 = .ok (.aload_n 0, 1) := by decide +kernel
theorem dX6_selectOne_1 : decode cX6_selectOne 1 = .ok (.aload 5, 2) := by decide +kernel
theorem dX6_selectOne_3 : decode cX6_selectOne 3 = .ok (.getfield 274, 3) := by decide +kernel
theorem dX6_selectOne_6 : decode cX6_selectOne 6 = .ok (.invokevirtual 156, 3) := by decide +kernel
theorem dX6_selectOne_9 : decode cX6_selectOne 9 = .ok (.istore 6, 2) := by decide +kernel
theorem dX6_selectOne_11 : decode cX6_selectOne 11 = .ok (.iload 6, 2) := by decide +kernel
theorem dX6_selectOne_13 : decode cX6_selectOne 13 = .ok (.ifCond .le 12, 3) := by decide +kernel
theorem dX6_selectOne_16 : decode cX6_selectOne 16 = .ok (.iload 6, 2) := by decide +kernel
theorem dX6_selectOne_18 : decode cX6_selectOne 18 = .ok (.aload_n 0, 1) := by decide +kernel
theorem dX6_selectOne_19 : decode cX6_selectOne 19 = .ok (.getfield 55, 3) := by decide +kernel
theorem dX6_selectOne_22 : decode cX6_selectOne 22 = .ok (.if_icmp .le 10, 3) := by decide +kernel
theorem dX6_selectOne_25 : decode cX6_selectOne 25 = .ok (.aload_n 0, 1) := by decide +kernel
theorem dX6_selectOne_26 : decode cX6_selectOne 26 = .ok (.bipush 13, 2) := by decide +kernel
theorem dX6_selectOne_28 : decode cX6_selectOne 28 = .ok (.invokevirtual 103, 3) := by decide +kernel
theorem dX6_selectOne_31 : decode cX6_selectOne 31 = .ok (.return_, 1) := by decide +kernel
theorem dX6_selectOne_32 : decode cX6_selectOne 32 = .ok (.aload_n 0, 1) := by decide +kernel
theorem dX6_selectOne_33 : decode cX6_selectOne 33 = .ok (.getfield 32, 3) := by decide +kernel
theorem dX6_selectOne_36 : decode cX6_selectOne 36 = .ok (.iload 6, 2) := by decide +kernel
theorem dX6_selectOne_38 : decode cX6_selectOne 38 = .ok (.iaload, 1) := by decide +kernel
theorem dX6_selectOne_39 : decode cX6_selectOne 39 = .ok (.istore 7, 2) := by decide +kernel
theorem dX6_selectOne_41 : decode cX6_selectOne 41 = .ok (.iload_n 2, 1) := by decide +kernel
theorem dX6_selectOne_42 : decode cX6_selectOne 42 = .ok (.bipush 8, 2) := by decide +kernel
theorem dX6_selectOne_44 : decode cX6_selectOne 44 = .ok (.if_icmp .ne 22, 3) := by decide +kernel
theorem dX6_selectOne_47 : decode cX6_selectOne 47 = .ok (.aload_n 0, 1) := by decide +kernel
theorem dX6_selectOne_48 : decode cX6_selectOne 48 = .ok (.getfield 47, 3) := by decide +kernel
theorem dX6_selectOne_51 : decode cX6_selectOne 51 = .ok (.iload 7, 2) := by decide +kernel
theorem dX6_selectOne_53 : decode cX6_selectOne 53 = .ok (.iload_n 3, 1) := by decide +kernel
theorem dX6_selectOne_54 : decode cX6_selectOne 54 = .ok (.invokevirtual 290, 3) := by decide +kernel
theorem dX6_selectOne_57 : decode cX6_selectOne 57 = .ok (.ifCond .ne 9, 3) := by decide +kernel
theorem dX6_selectOne_60 : decode cX6_selectOne 60 = .ok (.aload_n 0, 1) := by decide +kernel
theorem dX6_selectOne_61 : decode cX6_selectOne 61 = .ok (.iconst 3, 1) := by decide +kernel
theorem dX6_selectOne_62 : decode cX6_selectOne 62 = .ok (.invokevirtual 103, 3) := by decide +kernel
theorem dX6_selectOne_65 : decode cX6_selectOne 65 = .ok (.return_, 1) := by decide +kernel
theorem dX6_selectOne_66 : decode cX6_selectOne 66 = .ok (.aload_n 0, 1) := by decide +kernel
theorem dX6_selectOne_67 : decode cX6_selectOne 67 = .ok (.getfield 47, 3) := by decide +kernel
theorem dX6_selectOne_70 : decode cX6_selectOne 70 = .ok (.aload 5, 2) := by decide +kernel
theorem dX6_selectOne_72 : decode cX6_selectOne 72 = .ok (.iload 4, 2) := by decide +kernel
theorem dX6_selectOne_74 : decode cX6_selectOne 74 = .ok (.iload 7, 2) := by decide +kernel
theorem dX6_selectOne_76 : decode cX6_selectOne 76 = .ok (.invokevirtual 293, 3) := by decide +kernel
theorem dX6_selectOne_79 : decode cX6_selectOne 79 = .ok (.astore 8, 2) := by decide +kernel
theorem dX6_selectOne_81 : decode cX6_selectOne 81 = .ok (.aload 8, 2) := by decide +kernel
theorem dX6_selectOne_83 : decode cX6_selectOne 83 = .ok (.ifnonnull 17, 3) := by decide +kernel
theorem dX6_selectOne_86 : decode cX6_selectOne 86 = .ok (.aload_n 0, 1) := by decide +kernel
theorem dX6_selectOne_87 : decode cX6_selectOne 87 = .ok (.aload_n 0, 1) := by decide +kernel
theorem dX6_selectOne_88 : decode cX6_selectOne 88 = .ok (.getfield 47, 3) := by decide +kernel
theorem dX6_selectOne_91 : decode cX6_selectOne 91 = .ok (.getfield 297, 3) := by decide +kernel
theorem dX6_selectOne_94 : decode cX6_selectOne 94 = .ok (.invokevirtual 103, 3) := by decide +kernel
theorem dX6_selectOne_97 : decode cX6_selectOne 97 = .ok (.goto 62, 3) := by decide +kernel
theorem dX6_selectOne_100 : decode cX6_selectOne 100 = .ok (.iload_n 2, 1) := by decide +kernel
theorem dX6_selectOne_101 : decode cX6_selectOne 101 = .ok (.bipush 8, 2) := by decide +kernel
theorem dX6_selectOne_103 : decode cX6_selectOne 103 = .ok (.if_icmp .ne 28, 3) := by decide +kernel
theorem dX6_selectOne_106 : decode cX6_selectOne 106 = .ok (.aload 8, 2) := by decide +kernel
theorem dX6_selectOne_108 : decode cX6_selectOne 108 = .ok (.getfield 300, 3) := by decide +kernel
theorem dX6_selectOne_111 : decode cX6_selectOne 111 = .ok (.iconst 3, 1) := by decide +kernel
theorem dX6_selectOne_112 : decode cX6_selectOne 112 = .ok (.if_icmp .eq 19, 3) := by decide +kernel
theorem dX6_selectOne_115 : decode cX6_selectOne 115 = .ok (.aload 8, 2) := by decide +kernel
theorem dX6_selectOne_117 : decode cX6_selectOne 117 = .ok (.getfield 300, 3) := by decide +kernel
theorem dX6_selectOne_120 : decode cX6_selectOne 120 = .ok (.ifCond .eq 11, 3) := by decide +kernel
theorem dX6_selectOne_123 : decode cX6_selectOne 123 = .ok (.aload_n 0, 1) := by decide +kernel
theorem dX6_selectOne_124 : decode cX6_selectOne 124 = .ok (.iconst 2, 1) := by decide +kernel
theorem dX6_selectOne_125 : decode cX6_selectOne 125 = .ok (.invokevirtual 103, 3) := by decide +kernel
theorem dX6_selectOne_128 : decode cX6_selectOne 128 = .ok (.goto 31, 3) := by decide +kernel
theorem dX6_selectOne_131 : decode cX6_selectOne 131 = .ok (.aload_n 1, 1) := by decide +kernel
theorem dX6_selectOne_132 : decode cX6_selectOne 132 = .ok (.iconst 1, 1) := by decide +kernel
theorem dX6_selectOne_133 : decode cX6_selectOne 133 = .ok (.dup2, 1) := by decide +kernel
theorem dX6_selectOne_134 : decode cX6_selectOne 134 = .ok (.iaload, 1) := by decide +kernel
theorem dX6_selectOne_135 : decode cX6_selectOne 135 = .ok (.iconst 2, 1) := by decide +kernel
theorem dX6_selectOne_136 : decode cX6_selectOne 136 = .ok (.iadd, 1) := by decide +kernel
theorem dX6_selectOne_137 : decode cX6_selectOne 137 = .ok (.iastore, 1) := by decide +kernel
theorem dX6_selectOne_138 : decode cX6_selectOne 138 = .ok (.aload_n 0, 1) := by decide +kernel
theorem dX6_selectOne_139 : decode cX6_selectOne 139 = .ok (.aload_n 0, 1) := by decide +kernel
theorem dX6_selectOne_140 : decode cX6_selectOne 140 = .ok (.getfield 47, 3) := by decide +kernel
theorem dX6_selectOne_143 : decode cX6_selectOne 143 = .ok (.getfield 303, 3) := by decide +kernel
theorem dX6_selectOne_146 : decode cX6_selectOne 146 = .ok (.aload 8, 2) := by decide +kernel
theorem dX6_selectOne_148 : decode cX6_selectOne 148 = .ok (.aload 5, 2) := by decide +kernel
theorem dX6_selectOne_150 : decode cX6_selectOne 150 = .ok (.getfield 274, 3) := by decide +kernel
theorem dX6_selectOne_153 : decode cX6_selectOne 153 = .ok (.iconst 1, 1) := by decide +kernel
theorem dX6_selectOne_154 : decode cX6_selectOne 154 = .ok (.iadd, 1) := by decide +kernel
theorem dX6_selectOne_155 : decode cX6_selectOne 155 = .ok (.iconst 1, 1) := by decide +kernel
theorem dX6_selectOne_156 : decode cX6_selectOne 156 = .ok (.invokevirtual 277, 3) := by decide +kernel
theorem dX6_selectOne_159 : decode cX6_selectOne 159 = .ok (.return_, 1) := by decide +kernel
theorem dX6_makerOne_0 : decode cX6_makerOne 0 = .ok (.iload_n 2, 1) := by decide +kernel
theorem dX6_makerOne_1 : decode cX6_makerOne 1 = .ok (.iconst 1, 1) := by decide +kernel
theorem dX6_makerOne_2 : decode cX6_makerOne 2 = .ok (.if_icmp .gt 24, 3) := by decide +kernel
theorem dX6_makerOne_5 : decode cX6_makerOne 5 = .ok (.aload_n 0, 1) := by decide +kernel
theorem dX6_makerOne_6 : decode cX6_makerOne 6 = .ok (.aload_n 0, 1) := by decide +kernel
theorem dX6_makerOne_7 : decode cX6_makerOne 7 = .ok (.getfield 83, 3) := by decide +kernel
theorem dX6_makerOne_10 : decode cX6_makerOne 10 = .ok (.aload_n 3, 1) := by decide +kernel
theorem dX6_makerOne_11 : decode cX6_makerOne 11 = .ok (.getfield 274, 3) := by decide +kernel
theorem dX6_makerOne_14 : decode cX6_makerOne 14 = .ok (.isub, 1) := by decide +kernel
theorem dX6_makerOne_15 : decode cX6_makerOne 15 = .ok (.iconst 1, 1) := by decide +kernel
theorem dX6_makerOne_16 : decode cX6_makerOne 16 = .ok (.isub, 1) := by decide +kernel
theorem dX6_makerOne_17 : decode cX6_makerOne 17 = .ok (.iconst 0, 1) := by decide +kernel
theorem dX6_makerOne_18 : decode cX6_makerOne 18 = .ok (.invokestatic 238, 3) := by decide +kernel
theorem dX6_makerOne_21 : decode cX6_makerOne 21 = .ok (.putfield 83, 3) := by decide +kernel
theorem dX6_makerOne_24 : decode cX6_makerOne 24 = .ok (.iconst 1, 1) := by decide +kernel
theorem dX6_makerOne_25 : decode cX6_makerOne 25 = .ok (.ireturn, 1) := by decide +kernel
theorem dX6_makerOne_26 : decode cX6_makerOne 26 = .ok (.aload_n 1, 1) := by decide +kernel
theorem dX6_makerOne_27 : decode cX6_makerOne 27 = .ok (.iconst 1, 1) := by decide +kernel
theorem dX6_makerOne_28 : decode cX6_makerOne 28 = .ok (.dup2, 1) := by decide +kernel
theorem dX6_makerOne_29 : decode cX6_makerOne 29 = .ok (.iaload, 1) := by decide +kernel
theorem dX6_makerOne_30 : decode cX6_makerOne 30 = .ok (.iconst 2, 1) := by decide +kernel
theorem dX6_makerOne_31 : decode cX6_makerOne 31 = .ok (.iadd, 1) := by decide +kernel
theorem dX6_makerOne_32 : decode cX6_makerOne 32 = .ok (.iastore, 1) := by decide +kernel
theorem dX6_makerOne_33 : decode cX6_makerOne 33 = .ok (.aload_n 0, 1) := by decide +kernel
theorem dX6_makerOne_34 : decode cX6_makerOne 34 = .ok (.iload_n 2, 1) := by decide +kernel
theorem dX6_makerOne_35 : decode cX6_makerOne 35 = .ok (.aload_n 3, 1) := by decide +kernel
theorem dX6_makerOne_36 : decode cX6_makerOne 36 = .ok (.aload_n 3, 1) := by decide +kernel
theorem dX6_makerOne_37 : decode cX6_makerOne 37 = .ok (.getfield 274, 3) := by decide +kernel
theorem dX6_makerOne_40 : decode cX6_makerOne 40 = .ok (.iconst 1, 1) := by decide +kernel
theorem dX6_makerOne_41 : decode cX6_makerOne 41 = .ok (.iadd, 1) := by decide +kernel
theorem dX6_makerOne_42 : decode cX6_makerOne 42 = .ok (.iconst 2, 1) := by decide +kernel
theorem dX6_makerOne_43 : decode cX6_makerOne 43 = .ok (.invokevirtual 277, 3) := by decide +kernel
theorem dX6_makerOne_46 : decode cX6_makerOne 46 = .ok (.iconst 0, 1) := by decide +kernel
theorem dX6_makerOne_47 : decode cX6_makerOne 47 = .ok (.ireturn, 1) := by decide +kernel
theorem dX7_init_0 : decode cX7_init 0 = .ok (.aload_n 0, 1) := by decide +kernel
theorem dX7_init_1 : decode cX7_init 1 = .ok (.invokespecial 3, 3) := by decide +kernel
theorem dX7_init_4 : decode cX7_init 4 = .ok (.aload_n 0, 1) := by decide +kernel
theorem dX7_init_5 : decode cX7_init 5 = .ok (.iconst 4, 1) := by decide +kernel
theorem dX7_init_6 : decode cX7_init 6 = .ok (.newarray .long, 2) := by decide +kernel
theorem dX7_init_8 : decode cX7_init 8 = .ok (.putfield 9, 3) := by decide +kernel
theorem dX7_init_11 : decode cX7_init 11 = .ok (.return_, 1) := by decide +kernel
theorem dX7_clear_0 : decode cX7_clear 0 = .ok (.aload_n 0, 1) := by decide +kernel
theorem dX7_clear_1 : decode cX7_clear 1 = .ok (.iconst 0, 1) := by decide +kernel
theorem dX7_clear_2 : decode cX7_clear 2 = .ok (.putfield 15, 3) := by decide +kernel
theorem dX7_clear_5 : decode cX7_clear 5 = .ok (.aload_n 0, 1) := by decide +kernel
theorem dX7_clear_6 : decode cX7_clear 6 = .ok (.iconst 1, 1) := by decide +kernel
theorem dX7_clear_7 : decode cX7_clear 7 = .ok (.putfield 19, 3) := by decide +kernel
theorem dX7_clear_10 : decode cX7_clear 10 = .ok (.aload_n 0, 1) := by decide +kernel
theorem dX7_clear_11 : decode cX7_clear 11 = .ok (.iconst 0, 1) := by decide +kernel
theorem dX7_clear_12 : decode cX7_clear 12 = .ok (.putfield 22, 3) := by decide +kernel
theorem dX7_clear_15 : decode cX7_clear 15 = .ok (.aload_n 0, 1) := by decide +kernel
theorem dX7_clear_16 : decode cX7_clear 16 = .ok (.iconst 0, 1) := by decide +kernel
theorem dX7_clear_17 : decode cX7_clear 17 = .ok (.putfield 26, 3) := by decide +kernel
theorem dX7_clear_20 : decode cX7_clear 20 = .ok (.aload_n 0, 1) := by decide +kernel
theorem dX7_clear_21 : decode cX7_clear 21 = .ok (.iconst 0, 1) := by decide +kernel
theorem dX7_clear_22 : decode cX7_clear 22 = .ok (.putfield 29, 3) := by decide +kernel
theorem dX7_clear_25 : decode cX7_clear 25 = .ok (.aload_n 0, 1) := by decide +kernel
theorem dX7_clear_26 : decode cX7_clear 26 = .ok (.iconst 0, 1) := by decide +kernel
theorem dX7_clear_27 : decode cX7_clear 27 = .ok (.putfield 32, 3) := by decide +kernel
theorem dX7_clear_30 : decode cX7_clear 30 = .ok (.aload_n 0, 1) := by decide +kernel
theorem dX7_clear_31 : decode cX7_clear 31 = .ok (.iconst 0, 1) := by decide +kernel
theorem dX7_clear_32 : decode cX7_clear 32 = .ok (.putfield 35, 3) := by decide +kernel
theorem dX7_clear_35 : decode cX7_clear 35 = .ok (.aload_n 0, 1) := by decide +kernel
theorem dX7_clear_36 : decode cX7_clear 36 = .ok (.ldc2_w 38, 3) := by decide +kernel
theorem dX7_clear_39 : decode cX7_clear 39 = .ok (.putfield 40, 3) := by decide +kernel
theorem dX7_clear_42 : decode cX7_clear 42 = .ok (.aload_n 0, 1) := by decide +kernel
theorem dX7_clear_43 : decode cX7_clear 43 = .ok (.ldc2_w 44, 3) := by decide +kernel
theorem dX7_clear_46 : decode cX7_clear 46 = .ok (.putfield 46, 3) := by decide +kernel
theorem dX7_clear_49 : decode cX7_clear 49 = .ok (.aload_n 0, 1) := by decide +kernel
theorem dX7_clear_50 : decode cX7_clear 50 = .ok (.iconst 0, 1) := by decide +kernel
theorem dX7_clear_51 : decode cX7_clear 51 = .ok (.putfield 49, 3) := by decide +kernel
theorem dX7_clear_54 : decode cX7_clear 54 = .ok (.aload_n 0, 1) := by decide +kernel
theorem dX7_clear_55 : decode cX7_clear 55 = .ok (.getfield 9, 3) := by decide +kernel
theorem dX7_clear_58 : decode cX7_clear 58 = .ok (.ldc2_w 38, 3) := by decide +kernel
theorem dX7_clear_61 : decode cX7_clear 61 = .ok (.invokestatic 52, 3) := by decide +kernel
theorem dX7_clear_64 : decode cX7_clear 64 = .ok (.aload_n 0, 1) := by decide +kernel
theorem dX7_clear_65 : decode cX7_clear 65 = .ok (.iconst 0, 1) := by decide +kernel
theorem dX7_clear_66 : decode cX7_clear 66 = .ok (.putfield 58, 3) := by decide +kernel
theorem dX7_clear_69 : decode cX7_clear 69 = .ok (.aload_n 0, 1) := by decide +kernel
theorem dX7_clear_70 : decode cX7_clear 70 = .ok (.iconst 0, 1) := by decide +kernel
theorem dX7_clear_71 : decode cX7_clear 71 = .ok (.putfield 61, 3) := by decide +kernel
theorem dX7_clear_74 : decode cX7_clear 74 = .ok (.aload_n 0, 1) := by decide +kernel
theorem dX7_clear_75 : decode cX7_clear 75 = .ok (.iconst 0, 1) := by decide +kernel
theorem dX7_clear_76 : decode cX7_clear 76 = .ok (.putfield 64, 3) := by decide +kernel
theorem dX7_clear_79 : decode cX7_clear 79 = .ok (.aload_n 0, 1) := by decide +kernel
theorem dX7_clear_80 : decode cX7_clear 80 = .ok (.aconst_null, 1) := by decide +kernel
theorem dX7_clear_81 : decode cX7_clear 81 = .ok (.putfield 67, 3) := by decide +kernel
theorem dX7_clear_84 : decode cX7_clear 84 = .ok (.aload_n 0, 1) := by decide +kernel
theorem dX7_clear_85 : decode cX7_clear 85 = .ok (.iconst 0, 1) := by decide +kernel
theorem dX7_clear_86 : decode cX7_clear 86 = .ok (.putfield 71, 3) := by decide +kernel
theorem dX7_clear_89 : decode cX7_clear 89 = .ok (.aload_n 0, 1) := by decide +kernel
theorem dX7_clear_90 : decode cX7_clear 90 = .ok (.iconst 0, 1) := by decide +kernel
theorem dX7_clear_91 : decode cX7_clear 91 = .ok (.putfield 74, 3) := by decide +kernel
theorem dX7_clear_94 : decode cX7_clear 94 = .ok (.aload_n 0, 1) := by decide +kernel
theorem dX7_clear_95 : decode cX7_clear 95 = .ok (.iconst 0, 1) := by decide +kernel
theorem dX7_clear_96 : decode cX7_clear 96 = .ok (.putfield 77, 3) := by decide +kernel
theorem dX7_clear_99 : decode cX7_clear 99 = .ok (.aload_n 0, 1) := by decide +kernel
theorem dX7_clear_100 : decode cX7_clear 100 = .ok (.iconst 0, 1) := by decide +kernel
theorem dX7_clear_101 : decode cX7_clear 101 = .ok (.putfield 80, 3) := by decide +kernel
theorem dX7_clear_104 : decode cX7_clear 104 = .ok (.return_, 1) := by decide +kernel
theorem dX7_sameParams_0 : decode cX7_sameParams 0 = .ok (.aload_n 0, 1) := by decide +kernel
theorem dX7_sameParams_1 : decode cX7_sameParams 1 = .ok (.getfield 49, 3) := by decide +kernel
theorem dX7_sameParams_4 : decode cX7_sameParams 4 = .ok (.aload_n 1, 1) := by decide +kernel
theorem dX7_sameParams_5 : decode cX7_sameParams 5 = .ok (.getfield 49, 3) := by decide +kernel
theorem dX7_sameParams_8 : decode cX7_sameParams 8 = .ok (.if_icmp .ne 71, 3) := by decide +kernel
theorem dX7_sameParams_11 : decode cX7_sameParams 11 = .ok (.aload_n 0, 1) := by decide +kernel
theorem dX7_sameParams_12 : decode cX7_sameParams 12 = .ok (.getfield 9, 3) := by decide +kernel
theorem dX7_sameParams_15 : decode cX7_sameParams 15 = .ok (.iconst 0, 1) := by decide +kernel
theorem dX7_sameParams_16 : decode cX7_sameParams 16 = .ok (.laload, 1) := by decide +kernel
theorem dX7_sameParams_17 : decode cX7_sameParams 17 = .ok (.aload_n 1, 1) := by decide +kernel
theorem dX7_sameParams_18 : decode cX7_sameParams 18 = .ok (.getfield 9, 3) := by decide +kernel
theorem dX7_sameParams_21 : decode cX7_sameParams 21 = .ok (.iconst 0, 1) := by decide +kernel
theorem dX7_sameParams_22 : decode cX7_sameParams 22 = .ok (.laload, 1) := by decide +kernel
theorem dX7_sameParams_23 : decode cX7_sameParams 23 = .ok (.lcmp, 1) := by decide +kernel
theorem dX7_sameParams_24 : decode cX7_sameParams 24 = .ok (.ifCond .ne 55, 3) := by decide +kernel
theorem dX7_sameParams_27 : decode cX7_sameParams 27 = .ok (.aload_n 0, 1) := by decide +kernel
theorem dX7_sameParams_28 : decode cX7_sameParams 28 = .ok (.getfield 9, 3) := by decide +kernel
theorem dX7_sameParams_31 : decode cX7_sameParams 31 = .ok (.iconst 1, 1) := by decide +kernel
theorem dX7_sameParams_32 : decode cX7_sameParams 32 = .ok (.laload, 1) := by decide +kernel
theorem dX7_sameParams_33 : decode cX7_sameParams 33 = .ok (.aload_n 1, 1) := by decide +kernel
theorem dX7_sameParams_34 : decode cX7_sameParams 34 = .ok (.getfield 9, 3) := by decide +kernel
theorem dX7_sameParams_37 : decode cX7_sameParams 37 = .ok (.iconst 1, 1) := by decide +kernel
theorem dX7_sameParams_38 : decode cX7_sameParams 38 = .ok (.laload, 1) := by decide +kernel
theorem dX7_sameParams_39 : decode cX7_sameParams 39 = .ok (.lcmp, 1) := by decide +kernel
theorem dX7_sameParams_40 : decode cX7_sameParams 40 = .ok (.ifCond .ne 39, 3) := by decide +kernel
theorem dX7_sameParams_43 : decode cX7_sameParams 43 = .ok (.aload_n 0, 1) := by decide +kernel
theorem dX7_sameParams_44 : decode cX7_sameParams 44 = .ok (.getfield 9, 3) := by decide +kernel
theorem dX7_sameParams_47 : decode cX7_sameParams 47 = .ok (.iconst 2, 1) := by decide +kernel
theorem dX7_sameParams_48 : decode cX7_sameParams 48 = .ok (.laload, 1) := by decide +kernel
theorem dX7_sameParams_49 : decode cX7_sameParams 49 = .ok (.aload_n 1, 1) := by decide +kernel
theorem dX7_sameParams_50 : decode cX7_sameParams 50 = .ok (.getfield 9, 3) := by decide +kernel
theorem dX7_sameParams_53 : decode cX7_sameParams 53 = .ok (.iconst 2, 1) := by decide +kernel
theorem dX7_sameParams_54 : decode cX7_sameParams 54 = .ok (.laload, 1) := by decide +kernel
theorem dX7_sameParams_55 : decode cX7_sameParams 55 = .ok (.lcmp, 1) := by decide +kernel
theorem dX7_sameParams_56 : decode cX7_sameParams 56 = .ok (.ifCond .ne 23, 3) := by decide +kernel
theorem dX7_sameParams_59 : decode cX7_sameParams 59 = .ok (.aload_n 0, 1) := by decide +kernel
theorem dX7_sameParams_60 : decode cX7_sameParams 60 = .ok (.getfield 9, 3) := by decide +kernel
theorem dX7_sameParams_63 : decode cX7_sameParams 63 = .ok (.iconst 3, 1) := by decide +kernel
theorem dX7_sameParams_64 : decode cX7_sameParams 64 = .ok (.laload, 1) := by decide +kernel
theorem dX7_sameParams_65 : decode cX7_sameParams 65 = .ok (.aload_n 1, 1) := by decide +kernel
theorem dX7_sameParams_66 : decode cX7_sameParams 66 = .ok (.getfield 9, 3) := by decide +kernel
theorem dX7_sameParams_69 : decode cX7_sameParams 69 = .ok (.iconst 3, 1) := by decide +kernel
theorem dX7_sameParams_70 : decode cX7_sameParams 70 = .ok (.laload, 1) := by decide +kernel
theorem dX7_sameParams_71 : decode cX7_sameParams 71 = .ok (.lcmp, 1) := by decide +kernel
theorem dX7_sameParams_72 : decode cX7_sameParams 72 = .ok (.ifCond .ne 7, 3) := by decide +kernel
theorem dX7_sameParams_75 : decode cX7_sameParams 75 = .ok (.iconst 1, 1) := by decide +kernel
theorem dX7_sameParams_76 : decode cX7_sameParams 76 = .ok (.goto 4, 3) := by decide +kernel
theorem dX7_sameParams_79 : decode cX7_sameParams 79 = .ok (.iconst 0, 1) := by decide +kernel
theorem dX7_sameParams_80 : decode cX7_sameParams 80 = .ok (.ireturn, 1) := by decide +kernel
theorem dX7_like_0 : decode cX7_like 0 = .ok (.aload_n 0, 1) := by decide +kernel
theorem dX7_like_1 : decode cX7_like 1 = .ok (.getfield 40, 3) := by decide +kernel
theorem dX7_like_4 : decode cX7_like 4 = .ok (.aload_n 1, 1) := by decide +kernel
theorem dX7_like_5 : decode cX7_like 5 = .ok (.getfield 40, 3) := by decide +kernel
theorem dX7_like_8 : decode cX7_like 8 = .ok (.lcmp, 1) := by decide +kernel
theorem dX7_like_9 : decode cX7_like 9 = .ok (.ifCond .ne 94, 3) := by decide +kernel
theorem dX7_like_12 : decode cX7_like 12 = .ok (.aload_n 0, 1) := by decide +kernel
theorem dX7_like_13 : decode cX7_like 13 = .ok (.getfield 46, 3) := by decide +kernel
theorem dX7_like_16 : decode cX7_like 16 = .ok (.aload_n 1, 1) := by decide +kernel
theorem dX7_like_17 : decode cX7_like 17 = .ok (.getfield 46, 3) := by decide +kernel
theorem dX7_like_20 : decode cX7_like 20 = .ok (.lcmp, 1) := by decide +kernel
theorem dX7_like_21 : decode cX7_like 21 = .ok (.ifCond .ne 82, 3) := by decide +kernel
theorem dX7_like_24 : decode cX7_like 24 = .ok (.aload_n 0, 1) := by decide +kernel
theorem dX7_like_25 : decode cX7_like 25 = .ok (.getfield 49, 3) := by decide +kernel
theorem dX7_like_28 : decode cX7_like 28 = .ok (.aload_n 1, 1) := by decide +kernel
theorem dX7_like_29 : decode cX7_like 29 = .ok (.getfield 49, 3) := by decide +kernel
theorem dX7_like_32 : decode cX7_like 32 = .ok (.if_icmp .ne 71, 3) := by decide +kernel
theorem dX7_like_35 : decode cX7_like 35 = .ok (.aload_n 0, 1) := by decide +kernel
theorem dX7_like_36 : decode cX7_like 36 = .ok (.getfield 9, 3) := by decide +kernel
theorem dX7_like_39 : decode cX7_like 39 = .ok (.iconst 0, 1) := by decide +kernel
theorem dX7_like_40 : decode cX7_like 40 = .ok (.laload, 1) := by decide +kernel
theorem dX7_like_41 : decode cX7_like 41 = .ok (.aload_n 1, 1) := by decide +kernel
theorem dX7_like_42 : decode cX7_like 42 = .ok (.getfield 9, 3) := by decide +kernel
theorem dX7_like_45 : decode cX7_like 45 = .ok (.iconst 0, 1) := by decide +kernel
theorem dX7_like_46 : decode cX7_like 46 = .ok (.laload, 1) := by decide +kernel
theorem dX7_like_47 : decode cX7_like 47 = .ok (.lcmp, 1) := by decide +kernel
theorem dX7_like_48 : decode cX7_like 48 = .ok (.ifCond .ne 55, 3) := by decide +kernel
theorem dX7_like_51 : decode cX7_like 51 = .ok (.aload_n 0, 1) := by decide +kernel
theorem dX7_like_52 : decode cX7_like 52 = .ok (.getfield 9, 3) := by decide +kernel
theorem dX7_like_55 : decode cX7_like 55 = .ok (.iconst 1, 1) := by decide +kernel
theorem dX7_like_56 : decode cX7_like 56 = .ok (.laload, 1) := by decide +kernel
theorem dX7_like_57 : decode cX7_like 57 = .ok (.aload_n 1, 1) := by decide +kernel
theorem dX7_like_58 : decode cX7_like 58 = .ok (.getfield 9, 3) := by decide +kernel
theorem dX7_like_61 : decode cX7_like 61 = .ok (.iconst 1, 1) := by decide +kernel
theorem dX7_like_62 : decode cX7_like 62 = .ok (.laload, 1) := by decide +kernel
theorem dX7_like_63 : decode cX7_like 63 = .ok (.lcmp, 1) := by decide +kernel
theorem dX7_like_64 : decode cX7_like 64 = .ok (.ifCond .ne 39, 3) := by decide +kernel
theorem dX7_like_67 : decode cX7_like 67 = .ok (.aload_n 0, 1) := by decide +kernel
theorem dX7_like_68 : decode cX7_like 68 = .ok (.getfield 9, 3) := by decide +kernel
theorem dX7_like_71 : decode cX7_like 71 = .ok (.iconst 2, 1) := by decide +kernel
theorem dX7_like_72 : decode cX7_like 72 = .ok (.laload, 1) := by decide +kernel
theorem dX7_like_73 : decode cX7_like 73 = .ok (.aload_n 1, 1) := by decide +kernel
theorem dX7_like_74 : decode cX7_like 74 = .ok (.getfield 9, 3) := by decide +kernel
theorem dX7_like_77 : decode cX7_like 77 = .ok (.iconst 2, 1) := by decide +kernel
theorem dX7_like_78 : decode cX7_like 78 = .ok (.laload, 1) := by decide +kernel
theorem dX7_like_79 : decode cX7_like 79 = .ok (.lcmp, 1) := by decide +kernel
theorem dX7_like_80 : decode cX7_like 80 = .ok (.ifCond .ne 23, 3) := by decide +kernel
theorem dX7_like_83 : decode cX7_like 83 = .ok (.aload_n 0, 1) := by decide +kernel
theorem dX7_like_84 : decode cX7_like 84 = .ok (.getfield 9, 3) := by decide +kernel
theorem dX7_like_87 : decode cX7_like 87 = .ok (.iconst 3, 1) := by decide +kernel
theorem dX7_like_88 : decode cX7_like 88 = .ok (.laload, 1) := by decide +kernel
theorem dX7_like_89 : decode cX7_like 89 = .ok (.aload_n 1, 1) := by decide +kernel
theorem dX7_like_90 : decode cX7_like 90 = .ok (.getfield 9, 3) := by decide +kernel
theorem dX7_like_93 : decode cX7_like 93 = .ok (.iconst 3, 1) := by decide +kernel
theorem dX7_like_94 : decode cX7_like 94 = .ok (.laload, 1) := by decide +kernel
theorem dX7_like_95 : decode cX7_like 95 = .ok (.lcmp, 1) := by decide +kernel
theorem dX7_like_96 : decode cX7_like 96 = .ok (.ifCond .ne 7, 3) := by decide +kernel
theorem dX7_like_99 : decode cX7_like 99 = .ok (.iconst 1, 1) := by decide +kernel
theorem dX7_like_100 : decode cX7_like 100 = .ok (.goto 4, 3) := by decide +kernel
theorem dX7_like_103 : decode cX7_like 103 = .ok (.iconst 0, 1) := by decide +kernel
theorem dX7_like_104 : decode cX7_like 104 = .ok (.ireturn, 1) := by decide +kernel
theorem dX7_ofObjects_0 : decode cX7_ofObjects 0 = .ok (.aload_n 0, 1) := by decide +kernel
theorem dX7_ofObjects_1 : decode cX7_ofObjects 1 = .ok (.getfield 22, 3) := by decide +kernel
theorem dX7_ofObjects_4 : decode cX7_ofObjects 4 = .ok (.ifCond .ne 14, 3) := by decide +kernel
theorem dX7_ofObjects_7 : decode cX7_ofObjects 7 = .ok (.aload_n 0, 1) := by decide +kernel
theorem dX7_ofObjects_8 : decode cX7_ofObjects 8 = .ok (.getfield 19, 3) := by decide +kernel
theorem dX7_ofObjects_11 : decode cX7_ofObjects 11 = .ok (.ifCond .eq 7, 3) := by decide +kernel
theorem dX7_ofObjects_14 : decode cX7_ofObjects 14 = .ok (.iconst 1, 1) := by decide +kernel
theorem dX7_ofObjects_15 : decode cX7_ofObjects 15 = .ok (.goto 4, 3) := by decide +kernel
theorem dX7_ofObjects_18 : decode cX7_ofObjects 18 = .ok (.iconst 0, 1) := by decide +kernel
theorem dX7_ofObjects_19 : decode cX7_ofObjects 19 = .ok (.ireturn, 1) := by decide +kernel
theorem dX8_init_0 : decode cX8_init 0 = .ok (.aload_n 0, 1) := by decide +kernel
theorem dX8_init_1 : decode cX8_init 1 = .ok (.invokespecial 3, 3) := by decide +kernel
theorem dX8_init_4 : decode cX8_init 4 = .ok (.return_, 1) := by decide +kernel
theorem dX8_clear_0 : decode cX8_clear 0 = .ok (.aload_n 0, 1) := by decide +kernel
theorem dX8_clear_1 : decode cX8_clear 1 = .ok (.iload_n 1, 1) := by decide +kernel
theorem dX8_clear_2 : decode cX8_clear 2 = .ok (.putfield 9, 3) := by decide +kernel
theorem dX8_clear_5 : decode cX8_clear 5 = .ok (.aload_n 0, 1) := by decide +kernel
theorem dX8_clear_6 : decode cX8_clear 6 = .ok (.iload_n 2, 1) := by decide +kernel
theorem dX8_clear_7 : decode cX8_clear 7 = .ok (.putfield 15, 3) := by decide +kernel
theorem dX8_clear_10 : decode cX8_clear 10 = .ok (.aload_n 0, 1) := by decide +kernel
theorem dX8_clear_11 : decode cX8_clear 11 = .ok (.iload_n 2, 1) := by decide +kernel
theorem dX8_clear_12 : decode cX8_clear 12 = .ok (.putfield 18, 3) := by decide +kernel
theorem dX8_clear_15 : decode cX8_clear 15 = .ok (.aload_n 0, 1) := by decide +kernel
theorem dX8_clear_16 : decode cX8_clear 16 = .ok (.iconst 0, 1) := by decide +kernel
theorem dX8_clear_17 : decode cX8_clear 17 = .ok (.putfield 21, 3) := by decide +kernel
theorem dX8_clear_20 : decode cX8_clear 20 = .ok (.aload_n 0, 1) := by decide +kernel
theorem dX8_clear_21 : decode cX8_clear 21 = .ok (.iconst (-1), 1) := by decide +kernel
theorem dX8_clear_22 : decode cX8_clear 22 = .ok (.putfield 24, 3) := by decide +kernel
theorem dX8_clear_25 : decode cX8_clear 25 = .ok (.aload_n 0, 1) := by decide +kernel
theorem dX8_clear_26 : decode cX8_clear 26 = .ok (.aconst_null, 1) := by decide +kernel
theorem dX8_clear_27 : decode cX8_clear 27 = .ok (.putfield 27, 3) := by decide +kernel
theorem dX8_clear_30 : decode cX8_clear 30 = .ok (.aload_n 0, 1) := by decide +kernel
theorem dX8_clear_31 : decode cX8_clear 31 = .ok (.aconst_null, 1) := by decide +kernel
theorem dX8_clear_32 : decode cX8_clear 32 = .ok (.putfield 31, 3) := by decide +kernel
theorem dX8_clear_35 : decode cX8_clear 35 = .ok (.aload_n 0, 1) := by decide +kernel
theorem dX8_clear_36 : decode cX8_clear 36 = .ok (.aconst_null, 1) := by decide +kernel
theorem dX8_clear_37 : decode cX8_clear 37 = .ok (.putfield 34, 3) := by decide +kernel
theorem dX8_clear_40 : decode cX8_clear 40 = .ok (.aload_n 0, 1) := by decide +kernel
theorem dX8_clear_41 : decode cX8_clear 41 = .ok (.aconst_null, 1) := by decide +kernel
theorem dX8_clear_42 : decode cX8_clear 42 = .ok (.putfield 37, 3) := by decide +kernel
theorem dX8_clear_45 : decode cX8_clear 45 = .ok (.aload_n 0, 1) := by decide +kernel
theorem dX8_clear_46 : decode cX8_clear 46 = .ok (.ldc2_w 40, 3) := by decide +kernel
theorem dX8_clear_49 : decode cX8_clear 49 = .ok (.putfield 42, 3) := by decide +kernel
theorem dX8_clear_52 : decode cX8_clear 52 = .ok (.aload_n 0, 1) := by decide +kernel
theorem dX8_clear_53 : decode cX8_clear 53 = .ok (.ldc2_w 40, 3) := by decide +kernel
theorem dX8_clear_56 : decode cX8_clear 56 = .ok (.putfield 46, 3) := by decide +kernel
theorem dX8_clear_59 : decode cX8_clear 59 = .ok (.aload_n 0, 1) := by decide +kernel
theorem dX8_clear_60 : decode cX8_clear 60 = .ok (.aconst_null, 1) := by decide +kernel
theorem dX8_clear_61 : decode cX8_clear 61 = .ok (.putfield 49, 3) := by decide +kernel
theorem dX8_clear_64 : decode cX8_clear 64 = .ok (.return_, 1) := by decide +kernel
theorem dX9_init_0 : decode cX9_init 0 = .ok (.aload_n 0, 1) := by decide +kernel
theorem dX9_init_1 : decode cX9_init 1 = .ok (.invokespecial 3, 3) := by decide +kernel
theorem dX9_init_4 : decode cX9_init 4 = .ok (.aload_n 0, 1) := by decide +kernel
theorem dX9_init_5 : decode cX9_init 5 = .ok (.bipush 30, 2) := by decide +kernel
theorem dX9_init_7 : decode cX9_init 7 = .ok (.newarray .long, 2) := by decide +kernel
theorem dX9_init_9 : decode cX9_init 9 = .ok (.putfield 9, 3) := by decide +kernel
theorem dX9_init_12 : decode cX9_init 12 = .ok (.aload_n 0, 1) := by decide +kernel
theorem dX9_init_13 : decode cX9_init 13 = .ok (.sipush 704, 3) := by decide +kernel
theorem dX9_init_16 : decode cX9_init 16 = .ok (.newarray .int, 2) := by decide +kernel
theorem dX9_init_18 : decode cX9_init 18 = .ok (.putfield 15, 3) := by decide +kernel
theorem dX9_init_21 : decode cX9_init 21 = .ok (.aload_n 0, 1) := by decide +kernel
theorem dX9_init_22 : decode cX9_init 22 = .ok (.sipush 704, 3) := by decide +kernel
theorem dX9_init_25 : decode cX9_init 25 = .ok (.newarray .int, 2) := by decide +kernel
theorem dX9_init_27 : decode cX9_init 27 = .ok (.putfield 19, 3) := by decide +kernel
theorem dX9_init_30 : decode cX9_init 30 = .ok (.aload_n 0, 1) := by decide +kernel
theorem dX9_init_31 : decode cX9_init 31 = .ok (.sipush 704, 3) := by decide +kernel
theorem dX9_init_34 : decode cX9_init 34 = .ok (.newarray .int, 2) := by decide +kernel
theorem dX9_init_36 : decode cX9_init 36 = .ok (.putfield 22, 3) := by decide +kernel
theorem dX9_init_39 : decode cX9_init 39 = .ok (.aload_n 0, 1) := by decide +kernel
theorem dX9_init_40 : decode cX9_init 40 = .ok (.sipush 704, 3) := by decide +kernel
theorem dX9_init_43 : decode cX9_init 43 = .ok (.newarray .long, 2) := by decide +kernel
theorem dX9_init_45 : decode cX9_init 45 = .ok (.putfield 25, 3) := by decide +kernel
theorem dX9_init_48 : decode cX9_init 48 = .ok (.aload_n 0, 1) := by decide +kernel
theorem dX9_init_49 : decode cX9_init 49 = .ok (.sipush 800, 3) := by decide +kernel
theorem dX9_init_52 : decode cX9_init 52 = .ok (.anewarray 28, 3) := by decide +kernel
theorem dX9_init_55 : decode cX9_init 55 = .ok (.putfield 30, 3) := by decide +kernel
theorem dX9_init_58 : decode cX9_init 58 = .ok (.iconst 0, 1) := by decide +kernel
theorem dX9_init_59 : decode cX9_init 59 = .ok (.istore_n 1, 1) := by decide +kernel
theorem dX9_init_60 : decode cX9_init 60 = .ok (.iload_n 1, 1) := by decide +kernel
theorem dX9_init_61 : decode cX9_init 61 = .ok (.sipush 800, 3) := by decide +kernel
theorem dX9_init_64 : decode cX9_init 64 = .ok (.if_icmp .ge 22, 3) := by decide +kernel
theorem dX9_init_67 : decode cX9_init 67 = .ok (.aload_n 0, 1) := by decide +kernel
theorem dX9_init_68 : decode cX9_init 68 = .ok (.getfield 30, 3) := by decide +kernel
theorem dX9_init_71 : decode cX9_init 71 = .ok (.iload_n 1, 1) := by decide +kernel
theorem dX9_init_72 : decode cX9_init 72 = .ok (.new 28, 3) := by decide +kernel
theorem dX9_init_75 : decode cX9_init 75 = .ok (.dup, 1) := by decide +kernel
theorem dX9_init_76 : decode cX9_init 76 = .ok (.invokespecial 34, 3) := by decide +kernel
theorem dX9_init_79 : decode cX9_init 79 = .ok (.aastore, 1) := by decide +kernel
theorem dX9_init_80 : decode cX9_init 80 = .ok (.iinc 1 1, 3) := by decide +kernel
theorem dX9_init_83 : decode cX9_init 83 = .ok (.goto (-23), 3) := by decide +kernel
theorem dX9_init_86 : decode cX9_init 86 = .ok (.iconst 0, 1) := by decide +kernel
theorem dX9_init_87 : decode cX9_init 87 = .ok (.istore_n 1, 1) := by decide +kernel
theorem dX9_init_88 : decode cX9_init 88 = .ok (.iconst 0, 1) := by decide +kernel
theorem dX9_init_89 : decode cX9_init 89 = .ok (.istore_n 2, 1) := by decide +kernel
theorem dX9_init_90 : decode cX9_init 90 = .ok (.iconst 0, 1) := by decide +kernel
theorem dX9_init_91 : decode cX9_init 91 = .ok (.istore_n 3, 1) := by decide +kernel
theorem dX9_init_92 : decode cX9_init 92 = .ok (.iload_n 3, 1) := by decide +kernel
theorem dX9_init_93 : decode cX9_init 93 = .ok (.ldc 35, 2) := by decide +kernel
theorem dX9_init_95 : decode cX9_init 95 = .ok (.invokevirtual 37, 3) := by decide +kernel
theorem dX9_init_98 : decode cX9_init 98 = .ok (.if_icmp .ge 82, 3) := by decide +kernel
theorem dX9_init_101 : decode cX9_init 101 = .ok (.iload_n 1, 1) := by decide +kernel
theorem dX9_init_102 : decode cX9_init 102 = .ok (.bipush 30, 2) := by decide +kernel
theorem dX9_init_104 : decode cX9_init 104 = .ok (.if_icmp .ge 76, 3) := by decide +kernel
theorem dX9_init_107 : decode cX9_init 107 = .ok (.ldc 35, 2) := by decide +kernel
theorem dX9_init_109 : decode cX9_init 109 = .ok (.iload_n 3, 1) := by decide +kernel
theorem dX9_init_110 : decode cX9_init 110 = .ok (.invokevirtual 43, 3) := by decide +kernel
theorem dX9_init_113 : decode cX9_init 113 = .ok (.istore 4, 2) := by decide +kernel
theorem dX9_init_115 : decode cX9_init 115 = .ok (.iload 4, 2) := by decide +kernel
theorem dX9_init_117 : decode cX9_init 117 = .ok (.bipush 32, 2) := by decide +kernel
theorem dX9_init_119 : decode cX9_init 119 = .ok (.if_icmp .ne 11, 3) := by decide +kernel
theorem dX9_init_122 : decode cX9_init 122 = .ok (.iinc 1 1, 3) := by decide +kernel
theorem dX9_init_125 : decode cX9_init 125 = .ok (.iconst 0, 1) := by decide +kernel
theorem dX9_init_126 : decode cX9_init 126 = .ok (.istore_n 2, 1) := by decide +kernel
theorem dX9_init_127 : decode cX9_init 127 = .ok (.goto 47, 3) := by decide +kernel
theorem dX9_init_130 : decode cX9_init 130 = .ok (.iload_n 2, 1) := by decide +kernel
theorem dX9_init_131 : decode cX9_init 131 = .ok (.ifCond .ne 24, 3) := by decide +kernel
theorem dX9_init_134 : decode cX9_init 134 = .ok (.aload_n 0, 1) := by decide +kernel
theorem dX9_init_135 : decode cX9_init 135 = .ok (.getfield 9, 3) := by decide +kernel
theorem dX9_init_138 : decode cX9_init 138 = .ok (.iload_n 1, 1) := by decide +kernel
theorem dX9_init_139 : decode cX9_init 139 = .ok (.iload 4, 2) := by decide +kernel
theorem dX9_init_141 : decode cX9_init 141 = .ok (.bipush 97, 2) := by decide +kernel
theorem dX9_init_143 : decode cX9_init 143 = .ok (.isub, 1) := by decide +kernel
theorem dX9_init_144 : decode cX9_init 144 = .ok (.i2l, 1) := by decide +kernel
theorem dX9_init_145 : decode cX9_init 145 = .ok (.bipush 54, 2) := by decide +kernel
theorem dX9_init_147 : decode cX9_init 147 = .ok (.lshl, 1) := by decide +kernel
theorem dX9_init_148 : decode cX9_init 148 = .ok (.lastore, 1) := by decide +kernel
theorem dX9_init_149 : decode cX9_init 149 = .ok (.bipush 48, 2) := by decide +kernel
theorem dX9_init_151 : decode cX9_init 151 = .ok (.istore_n 2, 1) := by decide +kernel
theorem dX9_init_152 : decode cX9_init 152 = .ok (.goto 22, 3) := by decide +kernel
theorem dX9_init_155 : decode cX9_init 155 = .ok (.aload_n 0, 1) := by decide +kernel
theorem dX9_init_156 : decode cX9_init 156 = .ok (.getfield 9, 3) := by decide +kernel
theorem dX9_init_159 : decode cX9_init 159 = .ok (.iload_n 1, 1) := by decide +kernel
theorem dX9_init_160 : decode cX9_init 160 = .ok (.dup2, 1) := by decide +kernel
theorem dX9_init_161 : decode cX9_init 161 = .ok (.laload, 1) := by decide +kernel
theorem dX9_init_162 : decode cX9_init 162 = .ok (.iload 4, 2) := by decide +kernel
theorem dX9_init_164 : decode cX9_init 164 = .ok (.invokestatic 47, 3) := by decide +kernel
theorem dX9_init_167 : decode cX9_init 167 = .ok (.iload_n 2, 1) := by decide +kernel
theorem dX9_init_168 : decode cX9_init 168 = .ok (.lshl, 1) := by decide +kernel
theorem dX9_init_169 : decode cX9_init 169 = .ok (.lor, 1) := by decide +kernel
theorem dX9_init_170 : decode cX9_init 170 = .ok (.lastore, 1) := by decide +kernel
theorem dX9_init_171 : decode cX9_init 171 = .ok (.iinc 2 (-6), 3) := by decide +kernel
theorem dX9_init_174 : decode cX9_init 174 = .ok (.iinc 3 1, 3) := by decide +kernel
theorem dX9_init_177 : decode cX9_init 177 = .ok (.goto (-85), 3) := by decide +kernel
theorem dX9_init_180 : decode cX9_init 180 = .ok (.return_, 1) := by decide +kernel
theorem dX9_read_0 : decode cX9_read 0 = .ok (.aload_n 0, 1) := by decide +kernel
theorem dX9_read_1 : decode cX9_read 1 = .ok (.aload_n 1, 1) := by decide +kernel
theorem dX9_read_2 : decode cX9_read 2 = .ok (.putfield 51, 3) := by decide +kernel
theorem dX9_read_5 : decode cX9_read 5 = .ok (.aload_n 0, 1) := by decide +kernel
theorem dX9_read_6 : decode cX9_read 6 = .ok (.getfield 51, 3) := by decide +kernel
theorem dX9_read_9 : decode cX9_read 9 = .ok (.invokevirtual 55, 3) := by decide +kernel
theorem dX9_read_12 : decode cX9_read 12 = .ok (.aload_n 0, 1) := by decide +kernel
theorem dX9_read_13 : decode cX9_read 13 = .ok (.iconst 0, 1) := by decide +kernel
theorem dX9_read_14 : decode cX9_read 14 = .ok (.putfield 60, 3) := by decide +kernel
theorem dX9_read_17 : decode cX9_read 17 = .ok (.aload_n 0, 1) := by decide +kernel
theorem dX9_read_18 : decode cX9_read 18 = .ok (.iconst 0, 1) := by decide +kernel
theorem dX9_read_19 : decode cX9_read 19 = .ok (.putfield 64, 3) := by decide +kernel
theorem dX9_read_22 : decode cX9_read 22 = .ok (.aload_n 0, 1) := by decide +kernel
theorem dX9_read_23 : decode cX9_read 23 = .ok (.iconst 0, 1) := by decide +kernel
theorem dX9_read_24 : decode cX9_read 24 = .ok (.putfield 67, 3) := by decide +kernel
theorem dX9_read_27 : decode cX9_read 27 = .ok (.aload_n 0, 1) := by decide +kernel
theorem dX9_read_28 : decode cX9_read 28 = .ok (.aload_n 2, 1) := by decide +kernel
theorem dX9_read_29 : decode cX9_read 29 = .ok (.iload_n 3, 1) := by decide +kernel
theorem dX9_read_30 : decode cX9_read 30 = .ok (.invokevirtual 70, 3) := by decide +kernel
theorem dX9_read_33 : decode cX9_read 33 = .ok (.iconst 0, 1) := by decide +kernel
theorem dX9_read_34 : decode cX9_read 34 = .ok (.istore 4, 2) := by decide +kernel
theorem dX9_read_36 : decode cX9_read 36 = .ok (.iload 4, 2) := by decide +kernel
theorem dX9_read_38 : decode cX9_read 38 = .ok (.sipush 700, 3) := by decide +kernel
theorem dX9_read_41 : decode cX9_read 41 = .ok (.if_icmp .gt 129, 3) := by decide +kernel
theorem dX9_read_44 : decode cX9_read 44 = .ok (.aload_n 0, 1) := by decide +kernel
theorem dX9_read_45 : decode cX9_read 45 = .ok (.getfield 60, 3) := by decide +kernel
theorem dX9_read_48 : decode cX9_read 48 = .ok (.ifCond .ne 122, 3) := by decide +kernel
theorem dX9_read_51 : decode cX9_read 51 = .ok (.aload_n 0, 1) := by decide +kernel
theorem dX9_read_52 : decode cX9_read 52 = .ok (.invokevirtual 74, 3) := by decide +kernel
theorem dX9_read_55 : decode cX9_read 55 = .ok (.ifCond .eq 115, 3) := by decide +kernel
theorem dX9_read_58 : decode cX9_read 58 = .ok (.aload_n 0, 1) := by decide +kernel
theorem dX9_read_59 : decode cX9_read 59 = .ok (.invokevirtual 77, 3) := by decide +kernel
theorem dX9_read_62 : decode cX9_read 62 = .ok (.astore 5, 2) := by decide +kernel
theorem dX9_read_64 : decode cX9_read 64 = .ok (.iconst 0, 1) := by decide +kernel
theorem dX9_read_65 : decode cX9_read 65 = .ok (.istore 6, 2) := by decide +kernel
theorem dX9_read_67 : decode cX9_read 67 = .ok (.aload 5, 2) := by decide +kernel
theorem dX9_read_69 : decode cX9_read 69 = .ok (.ifnull 80, 3) := by decide +kernel
theorem dX9_read_72 : decode cX9_read 72 = .ok (.iload 6, 2) := by decide +kernel
theorem dX9_read_74 : decode cX9_read 74 = .ok (.bipush 20, 2) := by decide +kernel
theorem dX9_read_76 : decode cX9_read 76 = .ok (.if_icmp .gt 73, 3) := by decide +kernel
theorem dX9_read_79 : decode cX9_read 79 = .ok (.aload_n 0, 1) := by decide +kernel
theorem dX9_read_80 : decode cX9_read 80 = .ok (.invokevirtual 74, 3) := by decide +kernel
theorem dX9_read_83 : decode cX9_read 83 = .ok (.sipush 225, 3) := by decide +kernel
theorem dX9_read_86 : decode cX9_read 86 = .ok (.if_icmp .eq 63, 3) := by decide +kernel
theorem dX9_read_89 : decode cX9_read 89 = .ok (.aload_n 0, 1) := by decide +kernel
theorem dX9_read_90 : decode cX9_read 90 = .ok (.getfield 60, 3) := by decide +kernel
theorem dX9_read_93 : decode cX9_read 93 = .ok (.ifCond .ne 56, 3) := by decide +kernel
theorem dX9_read_96 : decode cX9_read 96 = .ok (.aload_n 0, 1) := by decide +kernel
theorem dX9_read_97 : decode cX9_read 97 = .ok (.aload 5, 2) := by decide +kernel
theorem dX9_read_99 : decode cX9_read 99 = .ok (.invokevirtual 81, 3) := by decide +kernel
theorem dX9_read_102 : decode cX9_read 102 = .ok (.pop, 1) := by decide +kernel
theorem dX9_read_103 : decode cX9_read 103 = .ok (.aload_n 0, 1) := by decide +kernel
theorem dX9_read_104 : decode cX9_read 104 = .ok (.getfield 60, 3) := by decide +kernel
theorem dX9_read_107 : decode cX9_read 107 = .ok (.ifCond .ne 36, 3) := by decide +kernel
theorem dX9_read_110 : decode cX9_read 110 = .ok (.aload_n 0, 1) := by decide +kernel
theorem dX9_read_111 : decode cX9_read 111 = .ok (.getfield 85, 3) := by decide +kernel
theorem dX9_read_114 : decode cX9_read 114 = .ok (.ifCond .eq 29, 3) := by decide +kernel
theorem dX9_read_117 : decode cX9_read 117 = .ok (.aload 5, 2) := by decide +kernel
theorem dX9_read_119 : decode cX9_read 119 = .ok (.getfield 88, 3) := by decide +kernel
theorem dX9_read_122 : decode cX9_read 122 = .ok (.ifCond .le 21, 3) := by decide +kernel
theorem dX9_read_125 : decode cX9_read 125 = .ok (.aload_n 0, 1) := by decide +kernel
theorem dX9_read_126 : decode cX9_read 126 = .ok (.aload 5, 2) := by decide +kernel
theorem dX9_read_128 : decode cX9_read 128 = .ok (.getfield 93, 3) := by decide +kernel
theorem dX9_read_131 : decode cX9_read 131 = .ok (.aload 5, 2) := by decide +kernel
theorem dX9_read_133 : decode cX9_read 133 = .ok (.getfield 88, 3) := by decide +kernel
theorem dX9_read_136 : decode cX9_read 136 = .ok (.iconst 1, 1) := by decide +kernel
theorem dX9_read_137 : decode cX9_read 137 = .ok (.isub, 1) := by decide +kernel
theorem dX9_read_138 : decode cX9_read 138 = .ok (.aaload, 1) := by decide +kernel
theorem dX9_read_139 : decode cX9_read 139 = .ok (.invokevirtual 97, 3) := by decide +kernel
theorem dX9_read_142 : decode cX9_read 142 = .ok (.pop, 1) := by decide +kernel
theorem dX9_read_143 : decode cX9_read 143 = .ok (.iinc 6 1, 3) := by decide +kernel
theorem dX9_read_146 : decode cX9_read 146 = .ok (.goto (-79), 3) := by decide +kernel
theorem dX9_read_149 : decode cX9_read 149 = .ok (.aload_n 0, 1) := by decide +kernel
theorem dX9_read_150 : decode cX9_read 150 = .ok (.getfield 60, 3) := by decide +kernel
theorem dX9_read_153 : decode cX9_read 153 = .ok (.ifCond .ne 11, 3) := by decide +kernel
theorem dX9_read_156 : decode cX9_read 156 = .ok (.aload_n 0, 1) := by decide +kernel
theorem dX9_read_157 : decode cX9_read 157 = .ok (.sipush 225, 3) := by decide +kernel
theorem dX9_read_160 : decode cX9_read 160 = .ok (.invokevirtual 101, 3) := by decide +kernel
theorem dX9_read_163 : decode cX9_read 163 = .ok (.pop, 1) := by decide +kernel
theorem dX9_read_164 : decode cX9_read 164 = .ok (.iinc 4 1, 3) := by decide +kernel
theorem dX9_read_167 : decode cX9_read 167 = .ok (.goto (-131), 3) := by decide +kernel
theorem dX9_read_170 : decode cX9_read 170 = .ok (.aload_n 0, 1) := by decide +kernel
theorem dX9_read_171 : decode cX9_read 171 = .ok (.getfield 60, 3) := by decide +kernel
theorem dX9_read_174 : decode cX9_read 174 = .ok (.ifCond .ne 7, 3) := by decide +kernel
theorem dX9_read_177 : decode cX9_read 177 = .ok (.iconst 1, 1) := by decide +kernel
theorem dX9_read_178 : decode cX9_read 178 = .ok (.goto 4, 3) := by decide +kernel
theorem dX9_read_181 : decode cX9_read 181 = .ok (.iconst 0, 1) := by decide +kernel
theorem dX9_read_182 : decode cX9_read 182 = .ok (.ireturn, 1) := by decide +kernel
theorem dX9_scanAll_0 : decode cX9_scanAll 0 = .ok (.aload_n 0, 1) := by decide +kernel
theorem dX9_scanAll_1 : decode cX9_scanAll 1 = .ok (.aload_n 1, 1) := by decide +kernel
theorem dX9_scanAll_2 : decode cX9_scanAll 2 = .ok (.putfield 105, 3) := by decide +kernel
theorem dX9_scanAll_5 : decode cX9_scanAll 5 = .ok (.aload_n 0, 1) := by decide +kernel
theorem dX9_scanAll_6 : decode cX9_scanAll 6 = .ok (.iload_n 2, 1) := by decide +kernel
theorem dX9_scanAll_7 : decode cX9_scanAll 7 = .ok (.putfield 109, 3) := by decide +kernel
theorem dX9_scanAll_10 : decode cX9_scanAll 10 = .ok (.aload_n 0, 1) := by decide +kernel
theorem dX9_scanAll_11 : decode cX9_scanAll 11 = .ok (.iconst 0, 1) := by decide +kernel
theorem dX9_scanAll_12 : decode cX9_scanAll 12 = .ok (.putfield 111, 3) := by decide +kernel
theorem dX9_scanAll_15 : decode cX9_scanAll 15 = .ok (.aload_n 0, 1) := by decide +kernel
theorem dX9_scanAll_16 : decode cX9_scanAll 16 = .ok (.iconst 0, 1) := by decide +kernel
theorem dX9_scanAll_17 : decode cX9_scanAll 17 = .ok (.putfield 114, 3) := by decide +kernel
theorem dX9_scanAll_20 : decode cX9_scanAll 20 = .ok (.iconst 0, 1) := by decide +kernel
theorem dX9_scanAll_21 : decode cX9_scanAll 21 = .ok (.istore_n 3, 1) := by decide +kernel
theorem dX9_scanAll_22 : decode cX9_scanAll 22 = .ok (.iconst 0, 1) := by decide +kernel

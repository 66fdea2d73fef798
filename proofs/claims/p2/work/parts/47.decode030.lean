theorem dX13_copyNodes_29 : decode cX13_copyNodes 29 = .ok (.invokestatic 1444, 3) := by decide +kernel
theorem dX13_copyNodes_32 : decode cX13_copyNodes 32 = .ok (.aload_n 0, 1) := by decide +kernel
theorem dX13_copyNodes_33 : decode cX13_copyNodes 33 = .ok (.getfield 188, 3) := by decide +kernel
theorem dX13_copyNodes_36 : decode cX13_copyNodes 36 = .ok (.iload_n 1, 1) := by decide +kernel
theorem dX13_copyNodes_37 : decode cX13_copyNodes 37 = .ok (.aload_n 0, 1) := by decide +kernel
theorem dX13_copyNodes_38 : decode cX13_copyNodes 38 = .ok (.getfield 188, 3) := by decide +kernel
theorem dX13_copyNodes_41 : decode cX13_copyNodes 41 = .ok (.iload_n 2, 1) := by decide +kernel
theorem dX13_copyNodes_42 : decode cX13_copyNodes 42 = .ok (.sipush 1700, 3) := by decide +kernel
theorem dX13_copyNodes_45 : decode cX13_copyNodes 45 = .ok (.invokestatic 1444, 3) := by decide +kernel
theorem dX13_copyNodes_48 : decode cX13_copyNodes 48 = .ok (.aload_n 0, 1) := by decide +kernel
theorem dX13_copyNodes_49 : decode cX13_copyNodes 49 = .ok (.getfield 191, 3) := by decide +kernel
theorem dX13_copyNodes_52 : decode cX13_copyNodes 52 = .ok (.iload_n 1, 1) := by decide +kernel
theorem dX13_copyNodes_53 : decode cX13_copyNodes 53 = .ok (.aload_n 0, 1) := by decide +kernel
theorem dX13_copyNodes_54 : decode cX13_copyNodes 54 = .ok (.getfield 191, 3) := by decide +kernel
theorem dX13_copyNodes_57 : decode cX13_copyNodes 57 = .ok (.iload_n 2, 1) := by decide +kernel
theorem dX13_copyNodes_58 : decode cX13_copyNodes 58 = .ok (.sipush 1700, 3) := by decide +kernel
theorem dX13_copyNodes_61 : decode cX13_copyNodes 61 = .ok (.invokestatic 1444, 3) := by decide +kernel
theorem dX13_copyNodes_64 : decode cX13_copyNodes 64 = .ok (.aload_n 0, 1) := by decide +kernel
theorem dX13_copyNodes_65 : decode cX13_copyNodes 65 = .ok (.getfield 206, 3) := by decide +kernel
theorem dX13_copyNodes_68 : decode cX13_copyNodes 68 = .ok (.iload_n 1, 1) := by decide +kernel
theorem dX13_copyNodes_69 : decode cX13_copyNodes 69 = .ok (.aload_n 0, 1) := by decide +kernel
theorem dX13_copyNodes_70 : decode cX13_copyNodes 70 = .ok (.getfield 206, 3) := by decide +kernel
theorem dX13_copyNodes_73 : decode cX13_copyNodes 73 = .ok (.iload_n 2, 1) := by decide +kernel
theorem dX13_copyNodes_74 : decode cX13_copyNodes 74 = .ok (.sipush 1700, 3) := by decide +kernel
theorem dX13_copyNodes_77 : decode cX13_copyNodes 77 = .ok (.invokestatic 1444, 3) := by decide +kernel
theorem dX13_copyNodes_80 : decode cX13_copyNodes 80 = .ok (.aload_n 0, 1) := by decide +kernel
theorem dX13_copyNodes_81 : decode cX13_copyNodes 81 = .ok (.getfield 209, 3) := by decide +kernel
theorem dX13_copyNodes_84 : decode cX13_copyNodes 84 = .ok (.iload_n 1, 1) := by decide +kernel
theorem dX13_copyNodes_85 : decode cX13_copyNodes 85 = .ok (.aload_n 0, 1) := by decide +kernel
theorem dX13_copyNodes_86 : decode cX13_copyNodes 86 = .ok (.getfield 209, 3) := by decide +kernel
theorem dX13_copyNodes_89 : decode cX13_copyNodes 89 = .ok (.iload_n 2, 1) := by decide +kernel
theorem dX13_copyNodes_90 : decode cX13_copyNodes 90 = .ok (.sipush 1700, 3) := by decide +kernel
theorem dX13_copyNodes_93 : decode cX13_copyNodes 93 = .ok (.invokestatic 1444, 3) := by decide +kernel
theorem dX13_copyNodes_96 : decode cX13_copyNodes 96 = .ok (.aload_n 0, 1) := by decide +kernel
theorem dX13_copyNodes_97 : decode cX13_copyNodes 97 = .ok (.getfield 212, 3) := by decide +kernel
theorem dX13_copyNodes_100 : decode cX13_copyNodes 100 = .ok (.iload_n 1, 1) := by decide +kernel
theorem dX13_copyNodes_101 : decode cX13_copyNodes 101 = .ok (.aload_n 0, 1) := by decide +kernel
theorem dX13_copyNodes_102 : decode cX13_copyNodes 102 = .ok (.getfield 212, 3) := by decide +kernel
theorem dX13_copyNodes_105 : decode cX13_copyNodes 105 = .ok (.iload_n 2, 1) := by decide +kernel
theorem dX13_copyNodes_106 : decode cX13_copyNodes 106 = .ok (.sipush 1700, 3) := by decide +kernel
theorem dX13_copyNodes_109 : decode cX13_copyNodes 109 = .ok (.invokestatic 1444, 3) := by decide +kernel
theorem dX13_copyNodes_112 : decode cX13_copyNodes 112 = .ok (.aload_n 0, 1) := by decide +kernel
theorem dX13_copyNodes_113 : decode cX13_copyNodes 113 = .ok (.getfield 215, 3) := by decide +kernel
theorem dX13_copyNodes_116 : decode cX13_copyNodes 116 = .ok (.iload_n 1, 1) := by decide +kernel
theorem dX13_copyNodes_117 : decode cX13_copyNodes 117 = .ok (.aload_n 0, 1) := by decide +kernel
theorem dX13_copyNodes_118 : decode cX13_copyNodes 118 = .ok (.getfield 215, 3) := by decide +kernel
theorem dX13_copyNodes_121 : decode cX13_copyNodes 121 = .ok (.iload_n 2, 1) := by decide +kernel
theorem dX13_copyNodes_122 : decode cX13_copyNodes 122 = .ok (.sipush 1700, 3) := by decide +kernel
theorem dX13_copyNodes_125 : decode cX13_copyNodes 125 = .ok (.invokestatic 1444, 3) := by decide +kernel
theorem dX13_copyNodes_128 : decode cX13_copyNodes 128 = .ok (.aload_n 0, 1) := by decide +kernel
theorem dX13_copyNodes_129 : decode cX13_copyNodes 129 = .ok (.getfield 218, 3) := by decide +kernel
theorem dX13_copyNodes_132 : decode cX13_copyNodes 132 = .ok (.iload_n 1, 1) := by decide +kernel
theorem dX13_copyNodes_133 : decode cX13_copyNodes 133 = .ok (.aload_n 0, 1) := by decide +kernel
theorem dX13_copyNodes_134 : decode cX13_copyNodes 134 = .ok (.getfield 218, 3) := by decide +kernel
theorem dX13_copyNodes_137 : decode cX13_copyNodes 137 = .ok (.iload_n 2, 1) := by decide +kernel
theorem dX13_copyNodes_138 : decode cX13_copyNodes 138 = .ok (.sipush 1700, 3) := by decide +kernel
theorem dX13_copyNodes_141 : decode cX13_copyNodes 141 = .ok (.invokestatic 1444, 3) := by decide +kernel
theorem dX13_copyNodes_144 : decode cX13_copyNodes 144 = .ok (.aload_n 0, 1) := by decide +kernel
theorem dX13_copyNodes_145 : decode cX13_copyNodes 145 = .ok (.getfield 825, 3) := by decide +kernel
theorem dX13_copyNodes_148 : decode cX13_copyNodes 148 = .ok (.iconst 4, 1) := by decide +kernel
theorem dX13_copyNodes_149 : decode cX13_copyNodes 149 = .ok (.iload_n 1, 1) := by decide +kernel
theorem dX13_copyNodes_150 : decode cX13_copyNodes 150 = .ok (.imul, 1) := by decide +kernel
theorem dX13_copyNodes_151 : decode cX13_copyNodes 151 = .ok (.aload_n 0, 1) := by decide +kernel
theorem dX13_copyNodes_152 : decode cX13_copyNodes 152 = .ok (.getfield 825, 3) := by decide +kernel
theorem dX13_copyNodes_155 : decode cX13_copyNodes 155 = .ok (.iconst 4, 1) := by decide +kernel
theorem dX13_copyNodes_156 : decode cX13_copyNodes 156 = .ok (.iload_n 2, 1) := by decide +kernel
theorem dX13_copyNodes_157 : decode cX13_copyNodes 157 = .ok (.imul, 1) := by decide +kernel
theorem dX13_copyNodes_158 : decode cX13_copyNodes 158 = .ok (.sipush 6800, 3) := by decide +kernel
theorem dX13_copyNodes_161 : decode cX13_copyNodes 161 = .ok (.invokestatic 1444, 3) := by decide +kernel
theorem dX13_copyNodes_164 : decode cX13_copyNodes 164 = .ok (.aload_n 0, 1) := by decide +kernel
theorem dX13_copyNodes_165 : decode cX13_copyNodes 165 = .ok (.getfield 221, 3) := by decide +kernel
theorem dX13_copyNodes_168 : decode cX13_copyNodes 168 = .ok (.iload_n 1, 1) := by decide +kernel
theorem dX13_copyNodes_169 : decode cX13_copyNodes 169 = .ok (.aload_n 0, 1) := by decide +kernel
theorem dX13_copyNodes_170 : decode cX13_copyNodes 170 = .ok (.getfield 221, 3) := by decide +kernel
theorem dX13_copyNodes_173 : decode cX13_copyNodes 173 = .ok (.iload_n 2, 1) := by decide +kernel
theorem dX13_copyNodes_174 : decode cX13_copyNodes 174 = .ok (.sipush 1700, 3) := by decide +kernel
theorem dX13_copyNodes_177 : decode cX13_copyNodes 177 = .ok (.invokestatic 1444, 3) := by decide +kernel
theorem dX13_copyNodes_180 : decode cX13_copyNodes 180 = .ok (.aload_n 0, 1) := by decide +kernel
theorem dX13_copyNodes_181 : decode cX13_copyNodes 181 = .ok (.getfield 224, 3) := by decide +kernel
theorem dX13_copyNodes_184 : decode cX13_copyNodes 184 = .ok (.iload_n 1, 1) := by decide +kernel
theorem dX13_copyNodes_185 : decode cX13_copyNodes 185 = .ok (.aload_n 0, 1) := by decide +kernel
theorem dX13_copyNodes_186 : decode cX13_copyNodes 186 = .ok (.getfield 224, 3) := by decide +kernel
theorem dX13_copyNodes_189 : decode cX13_copyNodes 189 = .ok (.iload_n 2, 1) := by decide +kernel
theorem dX13_copyNodes_190 : decode cX13_copyNodes 190 = .ok (.sipush 1700, 3) := by decide +kernel
theorem dX13_copyNodes_193 : decode cX13_copyNodes 193 = .ok (.invokestatic 1444, 3) := by decide +kernel
theorem dX13_copyNodes_196 : decode cX13_copyNodes 196 = .ok (.iload_n 2, 1) := by decide +kernel
theorem dX13_copyNodes_197 : decode cX13_copyNodes 197 = .ok (.iload_n 1, 1) := by decide +kernel
theorem dX13_copyNodes_198 : decode cX13_copyNodes 198 = .ok (.isub, 1) := by decide +kernel
theorem dX13_copyNodes_199 : decode cX13_copyNodes 199 = .ok (.istore_n 3, 1) := by decide +kernel
theorem dX13_copyNodes_200 : decode cX13_copyNodes 200 = .ok (.iconst 0, 1) := by decide +kernel
theorem dX13_copyNodes_201 : decode cX13_copyNodes 201 = .ok (.istore 4, 2) := by decide +kernel
theorem dX13_copyNodes_203 : decode cX13_copyNodes 203 = .ok (.iload 4, 2) := by decide +kernel
theorem dX13_copyNodes_205 : decode cX13_copyNodes 205 = .ok (.sipush 1700, 3) := by decide +kernel
theorem dX13_copyNodes_208 : decode cX13_copyNodes 208 = .ok (.if_icmp .ge 179, 3) := by decide +kernel
theorem dX13_copyNodes_211 : decode cX13_copyNodes 211 = .ok (.aload_n 0, 1) := by decide +kernel
theorem dX13_copyNodes_212 : decode cX13_copyNodes 212 = .ok (.getfield 194, 3) := by decide +kernel
theorem dX13_copyNodes_215 : decode cX13_copyNodes 215 = .ok (.iload_n 2, 1) := by decide +kernel
theorem dX13_copyNodes_216 : decode cX13_copyNodes 216 = .ok (.iload 4, 2) := by decide +kernel
theorem dX13_copyNodes_218 : decode cX13_copyNodes 218 = .ok (.iadd, 1) := by decide +kernel
theorem dX13_copyNodes_219 : decode cX13_copyNodes 219 = .ok (.aload_n 0, 1) := by decide +kernel
theorem dX13_copyNodes_220 : decode cX13_copyNodes 220 = .ok (.getfield 194, 3) := by decide +kernel
theorem dX13_copyNodes_223 : decode cX13_copyNodes 223 = .ok (.iload_n 1, 1) := by decide +kernel
theorem dX13_copyNodes_224 : decode cX13_copyNodes 224 = .ok (.iload 4, 2) := by decide +kernel
theorem dX13_copyNodes_226 : decode cX13_copyNodes 226 = .ok (.iadd, 1) := by decide +kernel
theorem dX13_copyNodes_227 : decode cX13_copyNodes 227 = .ok (.iaload, 1) := by decide +kernel
theorem dX13_copyNodes_228 : decode cX13_copyNodes 228 = .ok (.bipush (-2), 2) := by decide +kernel
theorem dX13_copyNodes_230 : decode cX13_copyNodes 230 = .ok (.if_icmp .ne 8, 3) := by decide +kernel
theorem dX13_copyNodes_233 : decode cX13_copyNodes 233 = .ok (.bipush (-2), 2) := by decide +kernel
theorem dX13_copyNodes_235 : decode cX13_copyNodes 235 = .ok (.goto 14, 3) := by decide +kernel
theorem dX13_copyNodes_238 : decode cX13_copyNodes 238 = .ok (.aload_n 0, 1) := by decide +kernel
theorem dX13_copyNodes_239 : decode cX13_copyNodes 239 = .ok (.getfield 194, 3) := by decide +kernel
theorem dX13_copyNodes_242 : decode cX13_copyNodes 242 = .ok (.iload_n 1, 1) := by decide +kernel
theorem dX13_copyNodes_243 : decode cX13_copyNodes 243 = .ok (.iload 4, 2) := by decide +kernel
theorem dX13_copyNodes_245 : decode cX13_copyNodes 245 = .ok (.iadd, 1) := by decide +kernel
theorem dX13_copyNodes_246 : decode cX13_copyNodes 246 = .ok (.iaload, 1) := by decide +kernel
theorem dX13_copyNodes_247 : decode cX13_copyNodes 247 = .ok (.iload_n 3, 1) := by decide +kernel
theorem dX13_copyNodes_248 : decode cX13_copyNodes 248 = .ok (.iadd, 1) := by decide +kernel
theorem dX13_copyNodes_249 : decode cX13_copyNodes 249 = .ok (.iastore, 1) := by decide +kernel
theorem dX13_copyNodes_250 : decode cX13_copyNodes 250 = .ok (.aload_n 0, 1) := by decide +kernel
theorem dX13_copyNodes_251 : decode cX13_copyNodes 251 = .ok (.getfield 197, 3) := by decide +kernel
theorem dX13_copyNodes_254 : decode cX13_copyNodes 254 = .ok (.iload_n 2, 1) := by decide +kernel
theorem dX13_copyNodes_255 : decode cX13_copyNodes 255 = .ok (.iload 4, 2) := by decide +kernel
theorem dX13_copyNodes_257 : decode cX13_copyNodes 257 = .ok (.iadd, 1) := by decide +kernel
theorem dX13_copyNodes_258 : decode cX13_copyNodes 258 = .ok (.aload_n 0, 1) := by decide +kernel
theorem dX13_copyNodes_259 : decode cX13_copyNodes 259 = .ok (.getfield 197, 3) := by decide +kernel
theorem dX13_copyNodes_262 : decode cX13_copyNodes 262 = .ok (.iload_n 1, 1) := by decide +kernel
theorem dX13_copyNodes_263 : decode cX13_copyNodes 263 = .ok (.iload 4, 2) := by decide +kernel
theorem dX13_copyNodes_265 : decode cX13_copyNodes 265 = .ok (.iadd, 1) := by decide +kernel
theorem dX13_copyNodes_266 : decode cX13_copyNodes 266 = .ok (.iaload, 1) := by decide +kernel
theorem dX13_copyNodes_267 : decode cX13_copyNodes 267 = .ok (.bipush (-2), 2) := by decide +kernel
theorem dX13_copyNodes_269 : decode cX13_copyNodes 269 = .ok (.if_icmp .ne 8, 3) := by decide +kernel
theorem dX13_copyNodes_272 : decode cX13_copyNodes 272 = .ok (.bipush (-2), 2) := by decide +kernel
theorem dX13_copyNodes_274 : decode cX13_copyNodes 274 = .ok (.goto 14, 3) := by decide +kernel
theorem dX13_copyNodes_277 : decode cX13_copyNodes 277 = .ok (.aload_n 0, 1) := by decide +kernel
theorem dX13_copyNodes_278 : decode cX13_copyNodes 278 = .ok (.getfield 197, 3) := by decide +kernel
theorem dX13_copyNodes_281 : decode cX13_copyNodes 281 = .ok (.iload_n 1, 1) := by decide +kernel
theorem dX13_copyNodes_282 : decode cX13_copyNodes 282 = .ok (.iload 4, 2) := by decide +kernel
theorem dX13_copyNodes_284 : decode cX13_copyNodes 284 = .ok (.iadd, 1) := by decide +kernel
theorem dX13_copyNodes_285 : decode cX13_copyNodes 285 = .ok (.iaload, 1) := by decide +kernel
theorem dX13_copyNodes_286 : decode cX13_copyNodes 286 = .ok (.iload_n 3, 1) := by decide +kernel
theorem dX13_copyNodes_287 : decode cX13_copyNodes 287 = .ok (.iadd, 1) := by decide +kernel
theorem dX13_copyNodes_288 : decode cX13_copyNodes 288 = .ok (.iastore, 1) := by decide +kernel
theorem dX13_copyNodes_289 : decode cX13_copyNodes 289 = .ok (.aload_n 0, 1) := by decide +kernel
theorem dX13_copyNodes_290 : decode cX13_copyNodes 290 = .ok (.getfield 203, 3) := by decide +kernel
theorem dX13_copyNodes_293 : decode cX13_copyNodes 293 = .ok (.iload_n 2, 1) := by decide +kernel
theorem dX13_copyNodes_294 : decode cX13_copyNodes 294 = .ok (.iload 4, 2) := by decide +kernel
theorem dX13_copyNodes_296 : decode cX13_copyNodes 296 = .ok (.iadd, 1) := by decide +kernel
theorem dX13_copyNodes_297 : decode cX13_copyNodes 297 = .ok (.aload_n 0, 1) := by decide +kernel
theorem dX13_copyNodes_298 : decode cX13_copyNodes 298 = .ok (.getfield 203, 3) := by decide +kernel
theorem dX13_copyNodes_301 : decode cX13_copyNodes 301 = .ok (.iload_n 1, 1) := by decide +kernel
theorem dX13_copyNodes_302 : decode cX13_copyNodes 302 = .ok (.iload 4, 2) := by decide +kernel
theorem dX13_copyNodes_304 : decode cX13_copyNodes 304 = .ok (.iadd, 1) := by decide +kernel
theorem dX13_copyNodes_305 : decode cX13_copyNodes 305 = .ok (.iaload, 1) := by decide +kernel
theorem dX13_copyNodes_306 : decode cX13_copyNodes 306 = .ok (.bipush (-2), 2) := by decide +kernel
theorem dX13_copyNodes_308 : decode cX13_copyNodes 308 = .ok (.if_icmp .ne 8, 3) := by decide +kernel
theorem dX13_copyNodes_311 : decode cX13_copyNodes 311 = .ok (.bipush (-2), 2) := by decide +kernel
theorem dX13_copyNodes_313 : decode cX13_copyNodes 313 = .ok (.goto 14, 3) := by decide +kernel
theorem dX13_copyNodes_316 : decode cX13_copyNodes 316 = .ok (.aload_n 0, 1) := by decide +kernel
theorem dX13_copyNodes_317 : decode cX13_copyNodes 317 = .ok (.getfield 203, 3) := by decide +kernel
theorem dX13_copyNodes_320 : decode cX13_copyNodes 320 = .ok (.iload_n 1, 1) := by decide +kernel
theorem dX13_copyNodes_321 : decode cX13_copyNodes 321 = .ok (.iload 4, 2) := by decide +kernel
theorem dX13_copyNodes_323 : decode cX13_copyNodes 323 = .ok (.iadd, 1) := by decide +kernel
theorem dX13_copyNodes_324 : decode cX13_copyNodes 324 = .ok (.iaload, 1) := by decide +kernel
theorem dX13_copyNodes_325 : decode cX13_copyNodes 325 = .ok (.iload_n 3, 1) := by decide +kernel
theorem dX13_copyNodes_326 : decode cX13_copyNodes 326 = .ok (.iadd, 1) := by decide +kernel
theorem dX13_copyNodes_327 : decode cX13_copyNodes 327 = .ok (.iastore, 1) := by decide +kernel
theorem dX13_copyNodes_328 : decode cX13_copyNodes 328 = .ok (.aload_n 0, 1) := by decide +kernel
theorem dX13_copyNodes_329 : decode cX13_copyNodes 329 = .ok (.getfield 200, 3) := by decide +kernel
theorem dX13_copyNodes_332 : decode cX13_copyNodes 332 = .ok (.iload_n 2, 1) := by decide +kernel
theorem dX13_copyNodes_333 : decode cX13_copyNodes 333 = .ok (.iload 4, 2) := by decide +kernel
theorem dX13_copyNodes_335 : decode cX13_copyNodes 335 = .ok (.iadd, 1) := by decide +kernel
theorem dX13_copyNodes_336 : decode cX13_copyNodes 336 = .ok (.aload_n 0, 1) := by decide +kernel
theorem dX13_copyNodes_337 : decode cX13_copyNodes 337 = .ok (.getfield 173, 3) := by decide +kernel
theorem dX13_copyNodes_340 : decode cX13_copyNodes 340 = .ok (.iload_n 1, 1) := by decide +kernel
theorem dX13_copyNodes_341 : decode cX13_copyNodes 341 = .ok (.iload 4, 2) := by decide +kernel
theorem dX13_copyNodes_343 : decode cX13_copyNodes 343 = .ok (.iadd, 1) := by decide +kernel
theorem dX13_copyNodes_344 : decode cX13_copyNodes 344 = .ok (.iaload, 1) := by decide +kernel
theorem dX13_copyNodes_345 : decode cX13_copyNodes 345 = .ok (.bipush 22, 2) := by decide +kernel
theorem dX13_copyNodes_347 : decode cX13_copyNodes 347 = .ok (.if_icmp .ne 31, 3) := by decide +kernel
theorem dX13_copyNodes_350 : decode cX13_copyNodes 350 = .ok (.aload_n 0, 1) := by decide +kernel
theorem dX13_copyNodes_351 : decode cX13_copyNodes 351 = .ok (.getfield 200, 3) := by decide +kernel
theorem dX13_copyNodes_354 : decode cX13_copyNodes 354 = .ok (.iload_n 1, 1) := by decide +kernel
theorem dX13_copyNodes_355 : decode cX13_copyNodes 355 = .ok (.iload 4, 2) := by decide +kernel
theorem dX13_copyNodes_357 : decode cX13_copyNodes 357 = .ok (.iadd, 1) := by decide +kernel
theorem dX13_copyNodes_358 : decode cX13_copyNodes 358 = .ok (.iaload, 1) := by decide +kernel
theorem dX13_copyNodes_359 : decode cX13_copyNodes 359 = .ok (.bipush (-2), 2) := by decide +kernel
theorem dX13_copyNodes_361 : decode cX13_copyNodes 361 = .ok (.if_icmp .eq 17, 3) := by decide +kernel
theorem dX13_copyNodes_364 : decode cX13_copyNodes 364 = .ok (.aload_n 0, 1) := by decide +kernel
theorem dX13_copyNodes_365 : decode cX13_copyNodes 365 = .ok (.getfield 200, 3) := by decide +kernel
theorem dX13_copyNodes_368 : decode cX13_copyNodes 368 = .ok (.iload_n 1, 1) := by decide +kernel
theorem dX13_copyNodes_369 : decode cX13_copyNodes 369 = .ok (.iload 4, 2) := by decide +kernel
theorem dX13_copyNodes_371 : decode cX13_copyNodes 371 = .ok (.iadd, 1) := by decide +kernel
theorem dX13_copyNodes_372 : decode cX13_copyNodes 372 = .ok (.iaload, 1) := by decide +kernel
theorem dX13_copyNodes_373 : decode cX13_copyNodes 373 = .ok (.iload_n 3, 1) := by decide +kernel
theorem dX13_copyNodes_374 : decode cX13_copyNodes 374 = .ok (.iadd, 1) := by decide +kernel
theorem dX13_copyNodes_375 : decode cX13_copyNodes 375 = .ok (.goto 5, 3) := by decide +kernel
theorem dX13_copyNodes_378 : decode cX13_copyNodes 378 = .ok (.bipush (-2), 2) := by decide +kernel
theorem dX13_copyNodes_380 : decode cX13_copyNodes 380 = .ok (.iastore, 1) := by decide +kernel
theorem dX13_copyNodes_381 : decode cX13_copyNodes 381 = .ok (.iinc 4 1, 3) := by decide +kernel
theorem dX13_copyNodes_384 : decode cX13_copyNodes 384 = .ok (.goto (-181), 3) := by decide +kernel
theorem dX13_copyNodes_387 : decode cX13_copyNodes 387 = .ok (.return_, 1) := by decide +kernel
theorem dX13_weaveUses_0 : decode cX13_weaveUses 0 = .ok (.aload_n 0, 1) := by decide +kernel
theorem dX13_weaveUses_1 : decode cX13_weaveUses 1 = .ok (.getfield 863, 3) := by decide +kernel
theorem dX13_weaveUses_4 : decode cX13_weaveUses 4 = .ok (.aload_n 0, 1) := by decide +kernel
theorem dX13_weaveUses_5 : decode cX13_weaveUses 5 = .ok (.getfield 84, 3) := by decide +kernel
theorem dX13_weaveUses_8 : decode cX13_weaveUses 8 = .ok (.iconst 0, 1) := by decide +kernel
theorem dX13_weaveUses_9 : decode cX13_weaveUses 9 = .ok (.iastore, 1) := by decide +kernel
theorem dX13_weaveUses_10 : decode cX13_weaveUses 10 = .ok (.iconst 0, 1) := by decide +kernel
theorem dX13_weaveUses_11 : decode cX13_weaveUses 11 = .ok (.istore_n 2, 1) := by decide +kernel
theorem dX13_weaveUses_12 : decode cX13_weaveUses 12 = .ok (.iload_n 2, 1) := by decide +kernel
theorem dX13_weaveUses_13 : decode cX13_weaveUses 13 = .ok (.aload_n 0, 1) := by decide +kernel
theorem dX13_weaveUses_14 : decode cX13_weaveUses 14 = .ok (.getfield 230, 3) := by decide +kernel
theorem dX13_weaveUses_17 : decode cX13_weaveUses 17 = .ok (.aload_n 0, 1) := by decide +kernel
theorem dX13_weaveUses_18 : decode cX13_weaveUses 18 = .ok (.getfield 84, 3) := by decide +kernel
theorem dX13_weaveUses_21 : decode cX13_weaveUses 21 = .ok (.iaload, 1) := by decide +kernel
theorem dX13_weaveUses_22 : decode cX13_weaveUses 22 = .ok (.if_icmp .ge 201, 3) := by decide +kernel
theorem dX13_weaveUses_25 : decode cX13_weaveUses 25 = .ok (.aload_n 0, 1) := by decide +kernel
theorem dX13_weaveUses_26 : decode cX13_weaveUses 26 = .ok (.getfield 84, 3) := by decide +kernel
theorem dX13_weaveUses_29 : decode cX13_weaveUses 29 = .ok (.bipush 12, 2) := by decide +kernel
theorem dX13_weaveUses_31 : decode cX13_weaveUses 31 = .ok (.imul, 1) := by decide +kernel
theorem dX13_weaveUses_32 : decode cX13_weaveUses 32 = .ok (.iload_n 2, 1) := by decide +kernel
theorem dX13_weaveUses_33 : decode cX13_weaveUses 33 = .ok (.iadd, 1) := by decide +kernel
theorem dX13_weaveUses_34 : decode cX13_weaveUses 34 = .ok (.istore_n 3, 1) := by decide +kernel
theorem dX13_weaveUses_35 : decode cX13_weaveUses 35 = .ok (.aload_n 0, 1) := by decide +kernel
theorem dX13_weaveUses_36 : decode cX13_weaveUses 36 = .ok (.iload_n 3, 1) := by decide +kernel
theorem dX13_weaveUses_37 : decode cX13_weaveUses 37 = .ok (.putfield 745, 3) := by decide +kernel
theorem dX13_weaveUses_40 : decode cX13_weaveUses 40 = .ok (.iconst 0, 1) := by decide +kernel
theorem dX13_weaveUses_41 : decode cX13_weaveUses 41 = .ok (.istore 4, 2) := by decide +kernel
theorem dX13_weaveUses_43 : decode cX13_weaveUses 43 = .ok (.iload 4, 2) := by decide +kernel
theorem dX13_weaveUses_45 : decode cX13_weaveUses 45 = .ok (.aload_n 0, 1) := by decide +kernel
theorem dX13_weaveUses_46 : decode cX13_weaveUses 46 = .ok (.getfield 863, 3) := by decide +kernel
theorem dX13_weaveUses_49 : decode cX13_weaveUses 49 = .ok (.iload_n 1, 1) := by decide +kernel
theorem dX13_weaveUses_50 : decode cX13_weaveUses 50 = .ok (.iaload, 1) := by decide +kernel
theorem dX13_weaveUses_51 : decode cX13_weaveUses 51 = .ok (.if_icmp .ge 48, 3) := by decide +kernel
theorem dX13_weaveUses_54 : decode cX13_weaveUses 54 = .ok (.iload_n 1, 1) := by decide +kernel
theorem dX13_weaveUses_55 : decode cX13_weaveUses 55 = .ok (.sipush 1800, 3) := by decide +kernel
theorem dX13_weaveUses_58 : decode cX13_weaveUses 58 = .ok (.imul, 1) := by decide +kernel
theorem dX13_weaveUses_59 : decode cX13_weaveUses 59 = .ok (.iload 4, 2) := by decide +kernel
theorem dX13_weaveUses_61 : decode cX13_weaveUses 61 = .ok (.iadd, 1) := by decide +kernel
theorem dX13_weaveUses_62 : decode cX13_weaveUses 62 = .ok (.istore 5, 2) := by decide +kernel
theorem dX13_weaveUses_64 : decode cX13_weaveUses 64 = .ok (.aload_n 0, 1) := by decide +kernel
theorem dX13_weaveUses_65 : decode cX13_weaveUses 65 = .ok (.getfield 869, 3) := by decide +kernel
theorem dX13_weaveUses_68 : decode cX13_weaveUses 68 = .ok (.iload 5, 2) := by decide +kernel
theorem dX13_weaveUses_70 : decode cX13_weaveUses 70 = .ok (.iaload, 1) := by decide +kernel
theorem dX13_weaveUses_71 : decode cX13_weaveUses 71 = .ok (.iload_n 1, 1) := by decide +kernel
theorem dX13_weaveUses_72 : decode cX13_weaveUses 72 = .ok (.bipush 12, 2) := by decide +kernel
theorem dX13_weaveUses_74 : decode cX13_weaveUses 74 = .ok (.imul, 1) := by decide +kernel
theorem dX13_weaveUses_75 : decode cX13_weaveUses 75 = .ok (.iload_n 2, 1) := by decide +kernel
theorem dX13_weaveUses_76 : decode cX13_weaveUses 76 = .ok (.iadd, 1) := by decide +kernel
theorem dX13_weaveUses_77 : decode cX13_weaveUses 77 = .ok (.if_icmp .ne 16, 3) := by decide +kernel
theorem dX13_weaveUses_80 : decode cX13_weaveUses 80 = .ok (.aload_n 0, 1) := by decide +kernel
theorem dX13_weaveUses_81 : decode cX13_weaveUses 81 = .ok (.getfield 1474, 3) := by decide +kernel
theorem dX13_weaveUses_84 : decode cX13_weaveUses 84 = .ok (.iload 4, 2) := by decide +kernel
theorem dX13_weaveUses_86 : decode cX13_weaveUses 86 = .ok (.aload_n 0, 1) := by decide +kernel
theorem dX13_weaveUses_87 : decode cX13_weaveUses 87 = .ok (.iload 5, 2) := by decide +kernel
theorem dX13_weaveUses_89 : decode cX13_weaveUses 89 = .ok (.invokevirtual 1477, 3) := by decide +kernel
theorem dX13_weaveUses_92 : decode cX13_weaveUses 92 = .ok (.iastore, 1) := by decide +kernel
theorem dX13_weaveUses_93 : decode cX13_weaveUses 93 = .ok (.iinc 4 1, 3) := by decide +kernel
theorem dX13_weaveUses_96 : decode cX13_weaveUses 96 = .ok (.goto (-53), 3) := by decide +kernel
theorem dX13_weaveUses_99 : decode cX13_weaveUses 99 = .ok (.iconst 0, 1) := by decide +kernel
theorem dX13_weaveUses_100 : decode cX13_weaveUses 100 = .ok (.istore 4, 2) := by decide +kernel
theorem dX13_weaveUses_102 : decode cX13_weaveUses 102 = .ok (.iload 4, 2) := by decide +kernel
theorem dX13_weaveUses_104 : decode cX13_weaveUses 104 = .ok (.aload_n 0, 1) := by decide +kernel
theorem dX13_weaveUses_105 : decode cX13_weaveUses 105 = .ok (.getfield 275, 3) := by decide +kernel
theorem dX13_weaveUses_108 : decode cX13_weaveUses 108 = .ok (.iload_n 3, 1) := by decide +kernel
theorem dX13_weaveUses_109 : decode cX13_weaveUses 109 = .ok (.iaload, 1) := by decide +kernel
theorem dX13_weaveUses_110 : decode cX13_weaveUses 110 = .ok (.if_icmp .ge 107, 3) := by decide +kernel
theorem dX13_weaveUses_113 : decode cX13_weaveUses 113 = .ok (.iload_n 3, 1) := by decide +kernel
theorem dX13_weaveUses_114 : decode cX13_weaveUses 114 = .ok (.bipush 34, 2) := by decide +kernel
theorem dX13_weaveUses_116 : decode cX13_weaveUses 116 = .ok (.imul, 1) := by decide +kernel
theorem dX13_weaveUses_117 : decode cX13_weaveUses 117 = .ok (.iload 4, 2) := by decide +kernel
theorem dX13_weaveUses_119 : decode cX13_weaveUses 119 = .ok (.iadd, 1) := by decide +kernel
theorem dX13_weaveUses_120 : decode cX13_weaveUses 120 = .ok (.istore 5, 2) := by decide +kernel
theorem dX13_weaveUses_122 : decode cX13_weaveUses 122 = .ok (.aload_n 0, 1) := by decide +kernel
theorem dX13_weaveUses_123 : decode cX13_weaveUses 123 = .ok (.getfield 386, 3) := by decide +kernel
theorem dX13_weaveUses_126 : decode cX13_weaveUses 126 = .ok (.iload 5, 2) := by decide +kernel
theorem dX13_weaveUses_128 : decode cX13_weaveUses 128 = .ok (.iaload, 1) := by decide +kernel
theorem dX13_weaveUses_129 : decode cX13_weaveUses 129 = .ok (.bipush (-2), 2) := by decide +kernel
theorem dX13_weaveUses_131 : decode cX13_weaveUses 131 = .ok (.if_icmp .ne 30, 3) := by decide +kernel
theorem dX13_weaveUses_134 : decode cX13_weaveUses 134 = .ok (.aload_n 0, 1) := by decide +kernel
theorem dX13_weaveUses_135 : decode cX13_weaveUses 135 = .ok (.getfield 350, 3) := by decide +kernel
theorem dX13_weaveUses_138 : decode cX13_weaveUses 138 = .ok (.iload 5, 2) := by decide +kernel
theorem dX13_weaveUses_140 : decode cX13_weaveUses 140 = .ok (.baload, 1) := by decide +kernel
theorem dX13_weaveUses_141 : decode cX13_weaveUses 141 = .ok (.ifCond .eq 20, 3) := by decide +kernel
theorem dX13_weaveUses_144 : decode cX13_weaveUses 144 = .ok (.aload_n 0, 1) := by decide +kernel
theorem dX13_weaveUses_145 : decode cX13_weaveUses 145 = .ok (.getfield 386, 3) := by decide +kernel
theorem dX13_weaveUses_148 : decode cX13_weaveUses 148 = .ok (.iload 5, 2) := by decide +kernel
theorem dX13_weaveUses_150 : decode cX13_weaveUses 150 = .ok (.aload_n 0, 1) := by decide +kernel
theorem dX13_weaveUses_151 : decode cX13_weaveUses 151 = .ok (.iload_n 3, 1) := by decide +kernel
theorem dX13_weaveUses_152 : decode cX13_weaveUses 152 = .ok (.iload 5, 2) := by decide +kernel
theorem dX13_weaveUses_154 : decode cX13_weaveUses 154 = .ok (.invokevirtual 906, 3) := by decide +kernel
theorem dX13_weaveUses_157 : decode cX13_weaveUses 157 = .ok (.iastore, 1) := by decide +kernel
theorem dX13_weaveUses_158 : decode cX13_weaveUses 158 = .ok (.goto 53, 3) := by decide +kernel
theorem dX13_weaveUses_161 : decode cX13_weaveUses 161 = .ok (.aload_n 0, 1) := by decide +kernel
theorem dX13_weaveUses_162 : decode cX13_weaveUses 162 = .ok (.getfield 386, 3) := by decide +kernel
theorem dX13_weaveUses_165 : decode cX13_weaveUses 165 = .ok (.iload 5, 2) := by decide +kernel
theorem dX13_weaveUses_167 : decode cX13_weaveUses 167 = .ok (.iaload, 1) := by decide +kernel
theorem dX13_weaveUses_168 : decode cX13_weaveUses 168 = .ok (.bipush (-2), 2) := by decide +kernel
theorem dX13_weaveUses_170 : decode cX13_weaveUses 170 = .ok (.if_icmp .eq 41, 3) := by decide +kernel
theorem dX13_weaveUses_173 : decode cX13_weaveUses 173 = .ok (.aload_n 0, 1) := by decide +kernel
theorem dX13_weaveUses_174 : decode cX13_weaveUses 174 = .ok (.getfield 386, 3) := by decide +kernel
theorem dX13_weaveUses_177 : decode cX13_weaveUses 177 = .ok (.iload 5, 2) := by decide +kernel
theorem dX13_weaveUses_179 : decode cX13_weaveUses 179 = .ok (.aload_n 0, 1) := by decide +kernel
theorem dX13_weaveUses_180 : decode cX13_weaveUses 180 = .ok (.getfield 84, 3) := by decide +kernel
theorem dX13_weaveUses_183 : decode cX13_weaveUses 183 = .ok (.sipush 1800, 3) := by decide +kernel
theorem dX13_weaveUses_186 : decode cX13_weaveUses 186 = .ok (.imul, 1) := by decide +kernel
theorem dX13_weaveUses_187 : decode cX13_weaveUses 187 = .ok (.aload_n 0, 1) := by decide +kernel
theorem dX13_weaveUses_188 : decode cX13_weaveUses 188 = .ok (.getfield 1474, 3) := by decide +kernel
theorem dX13_weaveUses_191 : decode cX13_weaveUses 191 = .ok (.aload_n 0, 1) := by decide +kernel
theorem dX13_weaveUses_192 : decode cX13_weaveUses 192 = .ok (.getfield 386, 3) := by decide +kernel
theorem dX13_weaveUses_195 : decode cX13_weaveUses 195 = .ok (.iload 5, 2) := by decide +kernel
theorem dX13_weaveUses_197 : decode cX13_weaveUses 197 = .ok (.iaload, 1) := by decide +kernel
theorem dX13_weaveUses_198 : decode cX13_weaveUses 198 = .ok (.iload_n 1, 1) := by decide +kernel
theorem dX13_weaveUses_199 : decode cX13_weaveUses 199 = .ok (.sipush 1800, 3) := by decide +kernel
theorem dX13_weaveUses_202 : decode cX13_weaveUses 202 = .ok (.imul, 1) := by decide +kernel
theorem dX13_weaveUses_203 : decode cX13_weaveUses 203 = .ok (.isub, 1) := by decide +kernel
theorem dX13_weaveUses_204 : decode cX13_weaveUses 204 = .ok (.iaload, 1) := by decide +kernel
theorem dX13_weaveUses_205 : decode cX13_weaveUses 205 = .ok (.sipush 1800, 3) := by decide +kernel
theorem dX13_weaveUses_208 : decode cX13_weaveUses 208 = .ok (.irem, 1) := by decide +kernel
theorem dX13_weaveUses_209 : decode cX13_weaveUses 209 = .ok (.iadd, 1) := by decide +kernel
theorem dX13_weaveUses_210 : decode cX13_weaveUses 210 = .ok (.iastore, 1) := by decide +kernel
theorem dX13_weaveUses_211 : decode cX13_weaveUses 211 = .ok (.iinc 4 1, 3) := by decide +kernel
theorem dX13_weaveUses_214 : decode cX13_weaveUses 214 = .ok (.goto (-112), 3) := by decide +kernel
theorem dX13_weaveUses_217 : decode cX13_weaveUses 217 = .ok (.iinc 2 1, 3) := by decide +kernel
theorem dX13_weaveUses_220 : decode cX13_weaveUses 220 = .ok (.goto (-208), 3) := by decide +kernel
theorem dX13_weaveUses_223 : decode cX13_weaveUses 223 = .ok (.iconst 0, 1) := by decide +kernel
theorem dX13_weaveUses_224 : decode cX13_weaveUses 224 = .ok (.istore_n 2, 1) := by decide +kernel
theorem dX13_weaveUses_225 : decode cX13_weaveUses 225 = .ok (.iload_n 2, 1) := by decide +kernel
theorem dX13_weaveUses_226 : decode cX13_weaveUses 226 = .ok (.aload_n 0, 1) := by decide +kernel
theorem dX13_weaveUses_227 : decode cX13_weaveUses 227 = .ok (.getfield 170, 3) := by decide +kernel
theorem dX13_weaveUses_230 : decode cX13_weaveUses 230 = .ok (.aload_n 0, 1) := by decide +kernel
theorem dX13_weaveUses_231 : decode cX13_weaveUses 231 = .ok (.getfield 84, 3) := by decide +kernel
theorem dX13_weaveUses_234 : decode cX13_weaveUses 234 = .ok (.iaload, 1) := by decide +kernel
theorem dX13_weaveUses_235 : decode cX13_weaveUses 235 = .ok (.if_icmp .ge 98, 3) := by decide +kernel
theorem dX13_weaveUses_238 : decode cX13_weaveUses 238 = .ok (.aload_n 0, 1) := by decide +kernel
theorem dX13_weaveUses_239 : decode cX13_weaveUses 239 = .ok (.getfield 84, 3) := by decide +kernel
theorem dX13_weaveUses_242 : decode cX13_weaveUses 242 = .ok (.sipush 1700, 3) := by decide +kernel
theorem dX13_weaveUses_245 : decode cX13_weaveUses 245 = .ok (.imul, 1) := by decide +kernel
theorem dX13_weaveUses_246 : decode cX13_weaveUses 246 = .ok (.iload_n 2, 1) := by decide +kernel
theorem dX13_weaveUses_247 : decode cX13_weaveUses 247 = .ok (.iadd, 1) := by decide +kernel
theorem dX13_weaveUses_248 : decode cX13_weaveUses 248 = .ok (.istore_n 3, 1) := by decide +kernel
theorem dX13_weaveUses_249 : decode cX13_weaveUses 249 = .ok (.aload_n 0, 1) := by decide +kernel
theorem dX13_weaveUses_250 : decode cX13_weaveUses 250 = .ok (.getfield 221, 3) := by decide +kernel
theorem dX13_weaveUses_253 : decode cX13_weaveUses 253 = .ok (.iload_n 3, 1) := by decide +kernel
theorem dX13_weaveUses_254 : decode cX13_weaveUses 254 = .ok (.aload_n 0, 1) := by decide +kernel
theorem dX13_weaveUses_255 : decode cX13_weaveUses 255 = .ok (.getfield 221, 3) := by decide +kernel
theorem dX13_weaveUses_258 : decode cX13_weaveUses 258 = .ok (.iload_n 3, 1) := by decide +kernel
theorem dX13_weaveUses_259 : decode cX13_weaveUses 259 = .ok (.iaload, 1) := by decide +kernel
theorem dX13_weaveUses_260 : decode cX13_weaveUses 260 = .ok (.bipush (-2), 2) := by decide +kernel
theorem dX13_weaveUses_262 : decode cX13_weaveUses 262 = .ok (.if_icmp .ne 8, 3) := by decide +kernel
theorem dX13_weaveUses_265 : decode cX13_weaveUses 265 = .ok (.bipush (-2), 2) := by decide +kernel
theorem dX13_weaveUses_267 : decode cX13_weaveUses 267 = .ok (.goto 20, 3) := by decide +kernel
theorem dX13_weaveUses_270 : decode cX13_weaveUses 270 = .ok (.aload_n 0, 1) := by decide +kernel
theorem dX13_weaveUses_271 : decode cX13_weaveUses 271 = .ok (.getfield 1474, 3) := by decide +kernel
theorem dX13_weaveUses_274 : decode cX13_weaveUses 274 = .ok (.aload_n 0, 1) := by decide +kernel
theorem dX13_weaveUses_275 : decode cX13_weaveUses 275 = .ok (.getfield 221, 3) := by decide +kernel
theorem dX13_weaveUses_278 : decode cX13_weaveUses 278 = .ok (.iload_n 3, 1) := by decide +kernel
theorem dX13_weaveUses_279 : decode cX13_weaveUses 279 = .ok (.iaload, 1) := by decide +kernel
theorem dX13_weaveUses_280 : decode cX13_weaveUses 280 = .ok (.iload_n 1, 1) := by decide +kernel
theorem dX13_weaveUses_281 : decode cX13_weaveUses 281 = .ok (.sipush 1800, 3) := by decide +kernel
theorem dX13_weaveUses_284 : decode cX13_weaveUses 284 = .ok (.imul, 1) := by decide +kernel
theorem dX13_weaveUses_285 : decode cX13_weaveUses 285 = .ok (.isub, 1) := by decide +kernel
theorem dX13_weaveUses_286 : decode cX13_weaveUses 286 = .ok (.iaload, 1) := by decide +kernel
theorem dX13_weaveUses_287 : decode cX13_weaveUses 287 = .ok (.iastore, 1) := by decide +kernel
theorem dX13_weaveUses_288 : decode cX13_weaveUses 288 = .ok (.aload_n 0, 1) := by decide +kernel
theorem dX13_weaveUses_289 : decode cX13_weaveUses 289 = .ok (.getfield 224, 3) := by decide +kernel
theorem dX13_weaveUses_292 : decode cX13_weaveUses 292 = .ok (.iload_n 3, 1) := by decide +kernel
theorem dX13_weaveUses_293 : decode cX13_weaveUses 293 = .ok (.aload_n 0, 1) := by decide +kernel
theorem dX13_weaveUses_294 : decode cX13_weaveUses 294 = .ok (.getfield 224, 3) := by decide +kernel
theorem dX13_weaveUses_297 : decode cX13_weaveUses 297 = .ok (.iload_n 3, 1) := by decide +kernel
theorem dX13_weaveUses_298 : decode cX13_weaveUses 298 = .ok (.iaload, 1) := by decide +kernel
theorem dX13_weaveUses_299 : decode cX13_weaveUses 299 = .ok (.bipush (-2), 2) := by decide +kernel
theorem dX13_weaveUses_301 : decode cX13_weaveUses 301 = .ok (.if_icmp .ne 8, 3) := by decide +kernel
theorem dX13_weaveUses_304 : decode cX13_weaveUses 304 = .ok (.bipush (-2), 2) := by decide +kernel
theorem dX13_weaveUses_306 : decode cX13_weaveUses 306 = .ok (.goto 20, 3) := by decide +kernel
theorem dX13_weaveUses_309 : decode cX13_weaveUses 309 = .ok (.aload_n 0, 1) := by decide +kernel
theorem dX13_weaveUses_310 : decode cX13_weaveUses 310 = .ok (.getfield 1474, 3) := by decide +kernel
theorem dX13_weaveUses_313 : decode cX13_weaveUses 313 = .ok (.aload_n 0, 1) := by decide +kernel
theorem dX13_weaveUses_314 : decode cX13_weaveUses 314 = .ok (.getfield 224, 3) := by decide +kernel
theorem dX13_weaveUses_317 : decode cX13_weaveUses 317 = .ok (.iload_n 3, 1) := by decide +kernel
theorem dX13_weaveUses_318 : decode cX13_weaveUses 318 = .ok (.iaload, 1) := by decide +kernel
theorem dX13_weaveUses_319 : decode cX13_weaveUses 319 = .ok (.iload_n 1, 1) := by decide +kernel
theorem dX13_weaveUses_320 : decode cX13_weaveUses 320 = .ok (.sipush 1800, 3) := by decide +kernel
theorem dX13_weaveUses_323 : decode cX13_weaveUses 323 = .ok (.imul, 1) := by decide +kernel
theorem dX13_weaveUses_324 : decode cX13_weaveUses 324 = .ok (.isub, 1) := by decide +kernel
theorem dX13_weaveUses_325 : decode cX13_weaveUses 325 = .ok (.iaload, 1) := by decide +kernel
theorem dX13_weaveUses_326 : decode cX13_weaveUses 326 = .ok (.iastore, 1) := by decide +kernel
theorem dX13_weaveUses_327 : decode cX13_weaveUses 327 = .ok (.iinc 2 1, 3) := by decide +kernel
theorem dX13_weaveUses_330 : decode cX13_weaveUses 330 = .ok (.goto (-105), 3) := by decide +kernel
theorem dX13_weaveUses_333 : decode cX13_weaveUses 333 = .ok (.return_, 1) := by decide +kernel
theorem dX13_copyUse_0 : decode cX13_copyUse 0 = .ok (.aload_n 0, 1) := by decide +kernel
theorem dX13_copyUse_1 : decode cX13_copyUse 1 = .ok (.aload_n 0, 1) := by decide +kernel
theorem dX13_copyUse_2 : decode cX13_copyUse 2 = .ok (.getfield 866, 3) := by decide +kernel
theorem dX13_copyUse_5 : decode cX13_copyUse 5 = .ok (.iload_n 1, 1) := by decide +kernel
theorem dX13_copyUse_6 : decode cX13_copyUse 6 = .ok (.iaload, 1) := by decide +kernel
theorem dX13_copyUse_7 : decode cX13_copyUse 7 = .ok (.aload_n 0, 1) := by decide +kernel
theorem dX13_copyUse_8 : decode cX13_copyUse 8 = .ok (.getfield 872, 3) := by decide +kernel
theorem dX13_copyUse_11 : decode cX13_copyUse 11 = .ok (.iload_n 1, 1) := by decide +kernel
theorem dX13_copyUse_12 : decode cX13_copyUse 12 = .ok (.laload, 1) := by decide +kernel
theorem dX13_copyUse_13 : decode cX13_copyUse 13 = .ok (.aload_n 0, 1) := by decide +kernel
theorem dX13_copyUse_14 : decode cX13_copyUse 14 = .ok (.getfield 875, 3) := by decide +kernel
theorem dX13_copyUse_17 : decode cX13_copyUse 17 = .ok (.iload_n 1, 1) := by decide +kernel
theorem dX13_copyUse_18 : decode cX13_copyUse 18 = .ok (.laload, 1) := by decide +kernel
theorem dX13_copyUse_19 : decode cX13_copyUse 19 = .ok (.aload_n 0, 1) := by decide +kernel
theorem dX13_copyUse_20 : decode cX13_copyUse 20 = .ok (.getfield 878, 3) := by decide +kernel
theorem dX13_copyUse_23 : decode cX13_copyUse 23 = .ok (.iload_n 1, 1) := by decide +kernel
theorem dX13_copyUse_24 : decode cX13_copyUse 24 = .ok (.laload, 1) := by decide +kernel
theorem dX13_copyUse_25 : decode cX13_copyUse 25 = .ok (.invokevirtual 893, 3) := by decide +kernel
theorem dX13_copyUse_28 : decode cX13_copyUse 28 = .ok (.istore_n 2, 1) := by decide +kernel
theorem dX13_copyUse_29 : decode cX13_copyUse 29 = .ok (.aload_n 0, 1) := by decide +kernel
theorem dX13_copyUse_30 : decode cX13_copyUse 30 = .ok (.getfield 884, 3) := by decide +kernel
theorem dX13_copyUse_33 : decode cX13_copyUse 33 = .ok (.iload_n 2, 1) := by decide +kernel
theorem dX13_copyUse_34 : decode cX13_copyUse 34 = .ok (.aload_n 0, 1) := by decide +kernel
theorem dX13_copyUse_35 : decode cX13_copyUse 35 = .ok (.getfield 884, 3) := by decide +kernel
theorem dX13_copyUse_38 : decode cX13_copyUse 38 = .ok (.iload_n 1, 1) := by decide +kernel
theorem dX13_copyUse_39 : decode cX13_copyUse 39 = .ok (.laload, 1) := by decide +kernel
theorem dX13_copyUse_40 : decode cX13_copyUse 40 = .ok (.lastore, 1) := by decide +kernel
theorem dX13_copyUse_41 : decode cX13_copyUse 41 = .ok (.aload_n 0, 1) := by decide +kernel
theorem dX13_copyUse_42 : decode cX13_copyUse 42 = .ok (.getfield 887, 3) := by decide +kernel
theorem dX13_copyUse_45 : decode cX13_copyUse 45 = .ok (.iload_n 2, 1) := by decide +kernel
theorem dX13_copyUse_46 : decode cX13_copyUse 46 = .ok (.aload_n 0, 1) := by decide +kernel
theorem dX13_copyUse_47 : decode cX13_copyUse 47 = .ok (.getfield 887, 3) := by decide +kernel
theorem dX13_copyUse_50 : decode cX13_copyUse 50 = .ok (.iload_n 1, 1) := by decide +kernel
theorem dX13_copyUse_51 : decode cX13_copyUse 51 = .ok (.iaload, 1) := by decide +kernel
theorem dX13_copyUse_52 : decode cX13_copyUse 52 = .ok (.iastore, 1) := by decide +kernel
theorem dX13_copyUse_53 : decode cX13_copyUse 53 = .ok (.aload_n 0, 1) := by decide +kernel
theorem dX13_copyUse_54 : decode cX13_copyUse 54 = .ok (.getfield 881, 3) := by decide +kernel
theorem dX13_copyUse_57 : decode cX13_copyUse 57 = .ok (.iload_n 2, 1) := by decide +kernel
theorem dX13_copyUse_58 : decode cX13_copyUse 58 = .ok (.aload_n 0, 1) := by decide +kernel
theorem dX13_copyUse_59 : decode cX13_copyUse 59 = .ok (.getfield 881, 3) := by decide +kernel
theorem dX13_copyUse_62 : decode cX13_copyUse 62 = .ok (.iload_n 1, 1) := by decide +kernel
theorem dX13_copyUse_63 : decode cX13_copyUse 63 = .ok (.iaload, 1) := by decide +kernel
theorem dX13_copyUse_64 : decode cX13_copyUse 64 = .ok (.iastore, 1) := by decide +kernel
theorem dX13_copyUse_65 : decode cX13_copyUse 65 = .ok (.iconst 0, 1) := by decide +kernel
theorem dX13_copyUse_66 : decode cX13_copyUse 66 = .ok (.istore_n 3, 1) := by decide +kernel
theorem dX13_copyUse_67 : decode cX13_copyUse 67 = .ok (.iload_n 3, 1) := by decide +kernel
theorem dX13_copyUse_68 : decode cX13_copyUse 68 = .ok (.aload_n 0, 1) := by decide +kernel
theorem dX13_copyUse_69 : decode cX13_copyUse 69 = .ok (.getfield 881, 3) := by decide +kernel
theorem dX13_copyUse_72 : decode cX13_copyUse 72 = .ok (.iload_n 1, 1) := by decide +kernel
theorem dX13_copyUse_73 : decode cX13_copyUse 73 = .ok (.iaload, 1) := by decide +kernel
theorem dX13_copyUse_74 : decode cX13_copyUse 74 = .ok (.if_icmp .ge 29, 3) := by decide +kernel
theorem dX13_copyUse_77 : decode cX13_copyUse 77 = .ok (.aload_n 0, 1) := by decide +kernel
theorem dX13_copyUse_78 : decode cX13_copyUse 78 = .ok (.getfield 890, 3) := by decide +kernel
theorem dX13_copyUse_81 : decode cX13_copyUse 81 = .ok (.iconst 4, 1) := by decide +kernel
theorem dX13_copyUse_82 : decode cX13_copyUse 82 = .ok (.iload_n 2, 1) := by decide +kernel
theorem dX13_copyUse_83 : decode cX13_copyUse 83 = .ok (.imul, 1) := by decide +kernel
theorem dX13_copyUse_84 : decode cX13_copyUse 84 = .ok (.iload_n 3, 1) := by decide +kernel
theorem dX13_copyUse_85 : decode cX13_copyUse 85 = .ok (.iadd, 1) := by decide +kernel
theorem dX13_copyUse_86 : decode cX13_copyUse 86 = .ok (.aload_n 0, 1) := by decide +kernel
theorem dX13_copyUse_87 : decode cX13_copyUse 87 = .ok (.getfield 890, 3) := by decide +kernel
theorem dX13_copyUse_90 : decode cX13_copyUse 90 = .ok (.iconst 4, 1) := by decide +kernel
theorem dX13_copyUse_91 : decode cX13_copyUse 91 = .ok (.iload_n 1, 1) := by decide +kernel
theorem dX13_copyUse_92 : decode cX13_copyUse 92 = .ok (.imul, 1) := by decide +kernel
theorem dX13_copyUse_93 : decode cX13_copyUse 93 = .ok (.iload_n 3, 1) := by decide +kernel
theorem dX13_copyUse_94 : decode cX13_copyUse 94 = .ok (.iadd, 1) := by decide +kernel
theorem dX13_copyUse_95 : decode cX13_copyUse 95 = .ok (.laload, 1) := by decide +kernel
theorem dX13_copyUse_96 : decode cX13_copyUse 96 = .ok (.lastore, 1) := by decide +kernel
theorem dX13_copyUse_97 : decode cX13_copyUse 97 = .ok (.iinc 3 1, 3) := by decide +kernel
theorem dX13_copyUse_100 : decode cX13_copyUse 100 = .ok (.goto (-33), 3) := by decide +kernel
theorem dX13_copyUse_103 : decode cX13_copyUse 103 = .ok (.aload_n 0, 1) := by decide +kernel
theorem dX13_copyUse_104 : decode cX13_copyUse 104 = .ok (.iload_n 2, 1) := by decide +kernel
theorem dX13_copyUse_105 : decode cX13_copyUse 105 = .ok (.invokevirtual 897, 3) := by decide +kernel
theorem dX13_copyUse_108 : decode cX13_copyUse 108 = .ok (.ireturn, 1) := by decide +kernel
theorem dX13_init_0 : decode cX13_init 0 = .ok (.aload_n 0, 1) := by decide +kernel
theorem dX13_init_1 : decode cX13_init 1 = .ok (.invokespecial 1480, 3) := by decide +kernel
theorem dX13_init_4 : decode cX13_init 4 = .ok (.aload_n 0, 1) := by decide +kernel
theorem dX13_init_5 : decode cX13_init 5 = .ok (.sipush 4000, 3) := by decide +kernel
theorem dX13_init_8 : decode cX13_init 8 = .ok (.newarray .int, 2) := by decide +kernel
theorem dX13_init_10 : decode cX13_init 10 = .ok (.putfield 63, 3) := by decide +kernel
theorem dX13_init_13 : decode cX13_init 13 = .ok (.aload_n 0, 1) := by decide +kernel
theorem dX13_init_14 : decode cX13_init 14 = .ok (.sipush 4200, 3) := by decide +kernel
theorem dX13_init_17 : decode cX13_init 17 = .ok (.newarray .int, 2) := by decide +kernel
theorem dX13_init_19 : decode cX13_init 19 = .ok (.putfield 11, 3) := by decide +kernel
theorem dX13_init_22 : decode cX13_init 22 = .ok (.aload_n 0, 1) := by decide +kernel
theorem dX13_init_23 : decode cX13_init 23 = .ok (.sipush 4000, 3) := by decide +kernel
theorem dX13_init_26 : decode cX13_init 26 = .ok (.newarray .int, 2) := by decide +kernel
theorem dX13_init_28 : decode cX13_init 28 = .ok (.putfield 66, 3) := by decide +kernel
theorem dX13_init_31 : decode cX13_init 31 = .ok (.aload_n 0, 1) := by decide +kernel
theorem dX13_init_32 : decode cX13_init 32 = .ok (.ldc_w 1485, 3) := by decide +kernel
theorem dX13_init_35 : decode cX13_init 35 = .ok (.newarray .byte, 2) := by decide +kernel
theorem dX13_init_37 : decode cX13_init 37 = .ok (.putfield 87, 3) := by decide +kernel
theorem dX13_init_40 : decode cX13_init 40 = .ok (.aload_n 0, 1) := by decide +kernel
theorem dX13_init_41 : decode cX13_init 41 = .ok (.bipush 16, 2) := by decide +kernel
theorem dX13_init_43 : decode cX13_init 43 = .ok (.newarray .int, 2) := by decide +kernel
theorem dX13_init_45 : decode cX13_init 45 = .ok (.putfield 81, 3) := by decide +kernel
theorem dX13_init_48 : decode cX13_init 48 = .ok (.aload_n 0, 1) := by decide +kernel
theorem dX13_init_49 : decode cX13_init 49 = .ok (.bipush 16, 2) := by decide +kernel
theorem dX13_init_51 : decode cX13_init 51 = .ok (.newarray .int, 2) := by decide +kernel
theorem dX13_init_53 : decode cX13_init 53 = .ok (.putfield 538, 3) := by decide +kernel
theorem dX13_init_56 : decode cX13_init 56 = .ok (.aload_n 0, 1) := by decide +kernel
theorem dX13_init_57 : decode cX13_init 57 = .ok (.bipush 40, 2) := by decide +kernel
theorem dX13_init_59 : decode cX13_init 59 = .ok (.newarray .int, 2) := by decide +kernel
theorem dX13_init_61 : decode cX13_init 61 = .ok (.putfield 965, 3) := by decide +kernel
theorem dX13_init_64 : decode cX13_init 64 = .ok (.aload_n 0, 1) := by decide +kernel
theorem dX13_init_65 : decode cX13_init 65 = .ok (.iconst 5, 1) := by decide +kernel
theorem dX13_init_66 : decode cX13_init 66 = .ok (.newarray .int, 2) := by decide +kernel
theorem dX13_init_68 : decode cX13_init 68 = .ok (.putfield 947, 3) := by decide +kernel
theorem dX13_init_71 : decode cX13_init 71 = .ok (.aload_n 0, 1) := by decide +kernel
theorem dX13_init_72 : decode cX13_init 72 = .ok (.sipush 12636, 3) := by decide +kernel
theorem dX13_init_75 : decode cX13_init 75 = .ok (.newarray .int, 2) := by decide +kernel
theorem dX13_init_77 : decode cX13_init 77 = .ok (.putfield 103, 3) := by decide +kernel
theorem dX13_init_80 : decode cX13_init 80 = .ok (.aload_n 0, 1) := by decide +kernel
theorem dX13_init_81 : decode cX13_init 81 = .ok (.sipush 12636, 3) := by decide +kernel
theorem dX13_init_84 : decode cX13_init 84 = .ok (.newarray .int, 2) := by decide +kernel
theorem dX13_init_86 : decode cX13_init 86 = .ok (.putfield 94, 3) := by decide +kernel
theorem dX13_init_89 : decode cX13_init 89 = .ok (.aload_n 0, 1) := by decide +kernel
theorem dX13_init_90 : decode cX13_init 90 = .ok (.sipush 12636, 3) := by decide +kernel
theorem dX13_init_93 : decode cX13_init 93 = .ok (.newarray .int, 2) := by decide +kernel
theorem dX13_init_95 : decode cX13_init 95 = .ok (.putfield 110, 3) := by decide +kernel
theorem dX13_init_98 : decode cX13_init 98 = .ok (.aload_n 0, 1) := by decide +kernel
theorem dX13_init_99 : decode cX13_init 99 = .ok (.sipush 12636, 3) := by decide +kernel
theorem dX13_init_102 : decode cX13_init 102 = .ok (.newarray .long, 2) := by decide +kernel
theorem dX13_init_104 : decode cX13_init 104 = .ok (.putfield 97, 3) := by decide +kernel
theorem dX13_init_107 : decode cX13_init 107 = .ok (.aload_n 0, 1) := by decide +kernel
theorem dX13_init_108 : decode cX13_init 108 = .ok (.sipush 12636, 3) := by decide +kernel
theorem dX13_init_111 : decode cX13_init 111 = .ok (.newarray .int, 2) := by decide +kernel
theorem dX13_init_113 : decode cX13_init 113 = .ok (.putfield 100, 3) := by decide +kernel
theorem dX13_init_116 : decode cX13_init 116 = .ok (.aload_n 0, 1) := by decide +kernel
theorem dX13_init_117 : decode cX13_init 117 = .ok (.bipush 18, 2) := by decide +kernel
theorem dX13_init_119 : decode cX13_init 119 = .ok (.newarray .int, 2) := by decide +kernel
theorem dX13_init_121 : decode cX13_init 121 = .ok (.putfield 113, 3) := by decide +kernel
theorem dX13_init_124 : decode cX13_init 124 = .ok (.aload_n 0, 1) := by decide +kernel
theorem dX13_init_125 : decode cX13_init 125 = .ok (.bipush 32, 2) := by decide +kernel
theorem dX13_init_127 : decode cX13_init 127 = .ok (.newarray .long, 2) := by decide +kernel
theorem dX13_init_129 : decode cX13_init 129 = .ok (.putfield 71, 3) := by decide +kernel
theorem dX13_init_132 : decode cX13_init 132 = .ok (.aload_n 0, 1) := by decide +kernel
theorem dX13_init_133 : decode cX13_init 133 = .ok (.bipush 18, 2) := by decide +kernel
theorem dX13_init_135 : decode cX13_init 135 = .ok (.newarray .int, 2) := by decide +kernel
theorem dX13_init_137 : decode cX13_init 137 = .ok (.putfield 230, 3) := by decide +kernel
theorem dX13_init_140 : decode cX13_init 140 = .ok (.aload_n 0, 1) := by decide +kernel
theorem dX13_init_141 : decode cX13_init 141 = .ok (.sipush 216, 3) := by decide +kernel
theorem dX13_init_144 : decode cX13_init 144 = .ok (.newarray .long, 2) := by decide +kernel
theorem dX13_init_146 : decode cX13_init 146 = .ok (.putfield 256, 3) := by decide +kernel
theorem dX13_init_149 : decode cX13_init 149 = .ok (.aload_n 0, 1) := by decide +kernel
theorem dX13_init_150 : decode cX13_init 150 = .ok (.sipush 216, 3) := by decide +kernel
theorem dX13_init_153 : decode cX13_init 153 = .ok (.newarray .int, 2) := by decide +kernel
theorem dX13_init_155 : decode cX13_init 155 = .ok (.putfield 259, 3) := by decide +kernel
theorem dX13_init_158 : decode cX13_init 158 = .ok (.aload_n 0, 1) := by decide +kernel
theorem dX13_init_159 : decode cX13_init 159 = .ok (.sipush 216, 3) := by decide +kernel
theorem dX13_init_162 : decode cX13_init 162 = .ok (.newarray .boolean, 2) := by decide +kernel
theorem dX13_init_164 : decode cX13_init 164 = .ok (.putfield 262, 3) := by decide +kernel
theorem dX13_init_167 : decode cX13_init 167 = .ok (.aload_n 0, 1) := by decide +kernel
theorem dX13_init_168 : decode cX13_init 168 = .ok (.sipush 216, 3) := by decide +kernel
theorem dX13_init_171 : decode cX13_init 171 = .ok (.newarray .int, 2) := by decide +kernel
theorem dX13_init_173 : decode cX13_init 173 = .ok (.putfield 266, 3) := by decide +kernel
theorem dX13_init_176 : decode cX13_init 176 = .ok (.aload_n 0, 1) := by decide +kernel
theorem dX13_init_177 : decode cX13_init 177 = .ok (.sipush 216, 3) := by decide +kernel
theorem dX13_init_180 : decode cX13_init 180 = .ok (.newarray .long, 2) := by decide +kernel
theorem dX13_init_182 : decode cX13_init 182 = .ok (.putfield 269, 3) := by decide +kernel
theorem dX13_init_185 : decode cX13_init 185 = .ok (.aload_n 0, 1) := by decide +kernel
theorem dX13_init_186 : decode cX13_init 186 = .ok (.sipush 216, 3) := by decide +kernel
theorem dX13_init_189 : decode cX13_init 189 = .ok (.newarray .int, 2) := by decide +kernel
theorem dX13_init_191 : decode cX13_init 191 = .ok (.putfield 280, 3) := by decide +kernel
theorem dX13_init_194 : decode cX13_init 194 = .ok (.aload_n 0, 1) := by decide +kernel
theorem dX13_init_195 : decode cX13_init 195 = .ok (.sipush 864, 3) := by decide +kernel
theorem dX13_init_198 : decode cX13_init 198 = .ok (.newarray .long, 2) := by decide +kernel
theorem dX13_init_200 : decode cX13_init 200 = .ok (.putfield 288, 3) := by decide +kernel
theorem dX13_init_203 : decode cX13_init 203 = .ok (.aload_n 0, 1) := by decide +kernel
theorem dX13_init_204 : decode cX13_init 204 = .ok (.sipush 864, 3) := by decide +kernel
theorem dX13_init_207 : decode cX13_init 207 = .ok (.newarray .int, 2) := by decide +kernel
theorem dX13_init_209 : decode cX13_init 209 = .ok (.putfield 291, 3) := by decide +kernel
theorem dX13_init_212 : decode cX13_init 212 = .ok (.aload_n 0, 1) := by decide +kernel
theorem dX13_init_213 : decode cX13_init 213 = .ok (.sipush 216, 3) := by decide +kernel
theorem dX13_init_216 : decode cX13_init 216 = .ok (.newarray .int, 2) := by decide +kernel
theorem dX13_init_218 : decode cX13_init 218 = .ok (.putfield 283, 3) := by decide +kernel
theorem dX13_init_221 : decode cX13_init 221 = .ok (.aload_n 0, 1) := by decide +kernel
theorem dX13_init_222 : decode cX13_init 222 = .ok (.sipush 216, 3) := by decide +kernel
theorem dX13_init_225 : decode cX13_init 225 = .ok (.newarray .long, 2) := by decide +kernel
theorem dX13_init_227 : decode cX13_init 227 = .ok (.putfield 272, 3) := by decide +kernel
theorem dX13_init_230 : decode cX13_init 230 = .ok (.aload_n 0, 1) := by decide +kernel
theorem dX13_init_231 : decode cX13_init 231 = .ok (.sipush 216, 3) := by decide +kernel
theorem dX13_init_234 : decode cX13_init 234 = .ok (.newarray .int, 2) := by decide +kernel
theorem dX13_init_236 : decode cX13_init 236 = .ok (.putfield 300, 3) := by decide +kernel
theorem dX13_init_239 : decode cX13_init 239 = .ok (.aload_n 0, 1) := by decide +kernel
theorem dX13_init_240 : decode cX13_init 240 = .ok (.sipush 1728, 3) := by decide +kernel
theorem dX13_init_243 : decode cX13_init 243 = .ok (.newarray .long, 2) := by decide +kernel
theorem dX13_init_245 : decode cX13_init 245 = .ok (.putfield 308, 3) := by decide +kernel
theorem dX13_init_248 : decode cX13_init 248 = .ok (.aload_n 0, 1) := by decide +kernel
theorem dX13_init_249 : decode cX13_init 249 = .ok (.sipush 1728, 3) := by decide +kernel
theorem dX13_init_252 : decode cX13_init 252 = .ok (.newarray .int, 2) := by decide +kernel
theorem dX13_init_254 : decode cX13_init 254 = .ok (.putfield 311, 3) := by decide +kernel
theorem dX13_init_257 : decode cX13_init 257 = .ok (.aload_n 0, 1) := by decide +kernel
theorem dX13_init_258 : decode cX13_init 258 = .ok (.sipush 216, 3) := by decide +kernel
theorem dX13_init_261 : decode cX13_init 261 = .ok (.newarray .int, 2) := by decide +kernel
theorem dX13_init_263 : decode cX13_init 263 = .ok (.putfield 303, 3) := by decide +kernel
theorem dX13_init_266 : decode cX13_init 266 = .ok (.aload_n 0, 1) := by decide +kernel
theorem dX13_init_267 : decode cX13_init 267 = .ok (.sipush 1728, 3) := by decide +kernel
theorem dX13_init_270 : decode cX13_init 270 = .ok (.newarray .long, 2) := by decide +kernel
theorem dX13_init_272 : decode cX13_init 272 = .ok (.putfield 319, 3) := by decide +kernel
theorem dX13_init_275 : decode cX13_init 275 = .ok (.aload_n 0, 1) := by decide +kernel
theorem dX13_init_276 : decode cX13_init 276 = .ok (.sipush 1728, 3) := by decide +kernel
theorem dX13_init_279 : decode cX13_init 279 = .ok (.newarray .int, 2) := by decide +kernel
theorem dX13_init_281 : decode cX13_init 281 = .ok (.putfield 322, 3) := by decide +kernel
theorem dX13_init_284 : decode cX13_init 284 = .ok (.aload_n 0, 1) := by decide +kernel
theorem dX13_init_285 : decode cX13_init 285 = .ok (.sipush 216, 3) := by decide +kernel
theorem dX13_init_288 : decode cX13_init 288 = .ok (.newarray .int, 2) := by decide +kernel
theorem dX13_init_290 : decode cX13_init 290 = .ok (.putfield 314, 3) := by decide +kernel
theorem dX13_init_293 : decode cX13_init 293 = .ok (.aload_n 0, 1) := by decide +kernel
theorem dX13_init_294 : decode cX13_init 294 = .ok (.sipush 216, 3) := by decide +kernel
theorem dX13_init_297 : decode cX13_init 297 = .ok (.newarray .int, 2) := by decide +kernel
theorem dX13_init_299 : decode cX13_init 299 = .ok (.putfield 275, 3) := by decide +kernel
theorem dX13_init_302 : decode cX13_init 302 = .ok (.aload_n 0, 1) := by decide +kernel
theorem dX13_init_303 : decode cX13_init 303 = .ok (.sipush 7344, 3) := by decide +kernel
theorem dX13_init_306 : decode cX13_init 306 = .ok (.newarray .int, 2) := by decide +kernel
theorem dX13_init_308 : decode cX13_init 308 = .ok (.putfield 402, 3) := by decide +kernel
theorem dX13_init_311 : decode cX13_init 311 = .ok (.aload_n 0, 1) := by decide +kernel
theorem dX13_init_312 : decode cX13_init 312 = .ok (.sipush 7344, 3) := by decide +kernel
theorem dX13_init_315 : decode cX13_init 315 = .ok (.newarray .int, 2) := by decide +kernel
theorem dX13_init_317 : decode cX13_init 317 = .ok (.putfield 399, 3) := by decide +kernel
theorem dX13_init_320 : decode cX13_init 320 = .ok (.aload_n 0, 1) := by decide +kernel
theorem dX13_init_321 : decode cX13_init 321 = .ok (.sipush 7344, 3) := by decide +kernel
theorem dX13_init_324 : decode cX13_init 324 = .ok (.newarray .int, 2) := by decide +kernel
theorem dX13_init_326 : decode cX13_init 326 = .ok (.putfield 433, 3) := by decide +kernel
theorem dX13_init_329 : decode cX13_init 329 = .ok (.aload_n 0, 1) := by decide +kernel
theorem dX13_init_330 : decode cX13_init 330 = .ok (.sipush 7344, 3) := by decide +kernel
theorem dX13_init_333 : decode cX13_init 333 = .ok (.newarray .boolean, 2) := by decide +kernel
theorem dX13_init_335 : decode cX13_init 335 = .ok (.putfield 341, 3) := by decide +kernel
theorem dX13_init_338 : decode cX13_init 338 = .ok (.aload_n 0, 1) := by decide +kernel
theorem dX13_init_339 : decode cX13_init 339 = .ok (.sipush 7344, 3) := by decide +kernel
theorem dX13_init_342 : decode cX13_init 342 = .ok (.newarray .boolean, 2) := by decide +kernel
theorem dX13_init_344 : decode cX13_init 344 = .ok (.putfield 344, 3) := by decide +kernel
theorem dX13_init_347 : decode cX13_init 347 = .ok (.aload_n 0, 1) := by decide +kernel
theorem dX13_init_348 : decode cX13_init 348 = .ok (.sipush 7344, 3) := by decide +kernel
theorem dX13_init_351 : decode cX13_init 351 = .ok (.newarray .boolean, 2) := by decide +kernel
theorem dX13_init_353 : decode cX13_init 353 = .ok (.putfield 436, 3) := by decide +kernel
theorem dX13_init_356 : decode cX13_init 356 = .ok (.aload_n 0, 1) := by decide +kernel
theorem dX13_init_357 : decode cX13_init 357 = .ok (.sipush 7344, 3) := by decide +kernel
theorem dX13_init_360 : decode cX13_init 360 = .ok (.newarray .boolean, 2) := by decide +kernel
theorem dX13_init_362 : decode cX13_init 362 = .ok (.putfield 347, 3) := by decide +kernel
theorem dX13_init_365 : decode cX13_init 365 = .ok (.aload_n 0, 1) := by decide +kernel
theorem dX13_init_366 : decode cX13_init 366 = .ok (.sipush 7344, 3) := by decide +kernel
theorem dX13_init_369 : decode cX13_init 369 = .ok (.newarray .boolean, 2) := by decide +kernel
theorem dX13_init_371 : decode cX13_init 371 = .ok (.putfield 350, 3) := by decide +kernel
theorem dX13_init_374 : decode cX13_init 374 = .ok (.aload_n 0, 1) := by decide +kernel
theorem dX13_init_375 : decode cX13_init 375 = .ok (.sipush 7344, 3) := by decide +kernel
theorem dX13_init_378 : decode cX13_init 378 = .ok (.newarray .boolean, 2) := by decide +kernel
theorem dX13_init_380 : decode cX13_init 380 = .ok (.putfield 353, 3) := by decide +kernel
theorem dX13_init_383 : decode cX13_init 383 = .ok (.aload_n 0, 1) := by decide +kernel
theorem dX13_init_384 : decode cX13_init 384 = .ok (.sipush 7344, 3) := by decide +kernel
theorem dX13_init_387 : decode cX13_init 387 = .ok (.newarray .long, 2) := by decide +kernel
theorem dX13_init_389 : decode cX13_init 389 = .ok (.putfield 356, 3) := by decide +kernel
theorem dX13_init_392 : decode cX13_init 392 = .ok (.aload_n 0, 1) := by decide +kernel
theorem dX13_init_393 : decode cX13_init 393 = .ok (.sipush 7344, 3) := by decide +kernel
theorem dX13_init_396 : decode cX13_init 396 = .ok (.newarray .int, 2) := by decide +kernel
theorem dX13_init_398 : decode cX13_init 398 = .ok (.putfield 405, 3) := by decide +kernel
theorem dX13_init_401 : decode cX13_init 401 = .ok (.aload_n 0, 1) := by decide +kernel
theorem dX13_init_402 : decode cX13_init 402 = .ok (.sipush 7344, 3) := by decide +kernel
theorem dX13_init_405 : decode cX13_init 405 = .ok (.newarray .long, 2) := by decide +kernel
theorem dX13_init_407 : decode cX13_init 407 = .ok (.putfield 359, 3) := by decide +kernel
theorem dX13_init_410 : decode cX13_init 410 = .ok (.aload_n 0, 1) := by decide +kernel
theorem dX13_init_411 : decode cX13_init 411 = .ok (.sipush 7344, 3) := by decide +kernel
theorem dX13_init_414 : decode cX13_init 414 = .ok (.newarray .int, 2) := by decide +kernel
theorem dX13_init_416 : decode cX13_init 416 = .ok (.putfield 420, 3) := by decide +kernel
theorem dX13_init_419 : decode cX13_init 419 = .ok (.aload_n 0, 1) := by decide +kernel
theorem dX13_init_420 : decode cX13_init 420 = .ok (.sipush 7344, 3) := by decide +kernel
theorem dX13_init_423 : decode cX13_init 423 = .ok (.newarray .int, 2) := by decide +kernel
theorem dX13_init_425 : decode cX13_init 425 = .ok (.putfield 362, 3) := by decide +kernel
theorem dX13_init_428 : decode cX13_init 428 = .ok (.aload_n 0, 1) := by decide +kernel
theorem dX13_init_429 : decode cX13_init 429 = .ok (.sipush 29376, 3) := by decide +kernel
theorem dX13_init_432 : decode cX13_init 432 = .ok (.newarray .long, 2) := by decide +kernel
theorem dX13_init_434 : decode cX13_init 434 = .ok (.putfield 442, 3) := by decide +kernel
theorem dX13_init_437 : decode cX13_init 437 = .ok (.aload_n 0, 1) := by decide +kernel
theorem dX13_init_438 : decode cX13_init 438 = .ok (.sipush 29376, 3) := by decide +kernel
theorem dX13_init_441 : decode cX13_init 441 = .ok (.newarray .int, 2) := by decide +kernel
theorem dX13_init_443 : decode cX13_init 443 = .ok (.putfield 439, 3) := by decide +kernel
theorem dX13_init_446 : decode cX13_init 446 = .ok (.aload_n 0, 1) := by decide +kernel
theorem dX13_init_447 : decode cX13_init 447 = .ok (.sipush 29376, 3) := by decide +kernel
theorem dX13_init_450 : decode cX13_init 450 = .ok (.newarray .long, 2) := by decide +kernel
theorem dX13_init_452 : decode cX13_init 452 = .ok (.putfield 445, 3) := by decide +kernel
theorem dX13_init_455 : decode cX13_init 455 = .ok (.aload_n 0, 1) := by decide +kernel
theorem dX13_init_456 : decode cX13_init 456 = .ok (.sipush 29376, 3) := by decide +kernel
theorem dX13_init_459 : decode cX13_init 459 = .ok (.newarray .int, 2) := by decide +kernel
theorem dX13_init_461 : decode cX13_init 461 = .ok (.putfield 448, 3) := by decide +kernel
theorem dX13_init_464 : decode cX13_init 464 = .ok (.aload_n 0, 1) := by decide +kernel
theorem dX13_init_465 : decode cX13_init 465 = .ok (.sipush 7344, 3) := by decide +kernel
theorem dX13_init_468 : decode cX13_init 468 = .ok (.newarray .int, 2) := by decide +kernel
theorem dX13_init_470 : decode cX13_init 470 = .ok (.putfield 365, 3) := by decide +kernel
theorem dX13_init_473 : decode cX13_init 473 = .ok (.aload_n 0, 1) := by decide +kernel
theorem dX13_init_474 : decode cX13_init 474 = .ok (.sipush 7344, 3) := by decide +kernel
theorem dX13_init_477 : decode cX13_init 477 = .ok (.newarray .int, 2) := by decide +kernel
theorem dX13_init_479 : decode cX13_init 479 = .ok (.putfield 368, 3) := by decide +kernel
theorem dX13_init_482 : decode cX13_init 482 = .ok (.aload_n 0, 1) := by decide +kernel
theorem dX13_init_483 : decode cX13_init 483 = .ok (.sipush 7344, 3) := by decide +kernel
theorem dX13_init_486 : decode cX13_init 486 = .ok (.newarray .int, 2) := by decide +kernel
theorem dX13_init_488 : decode cX13_init 488 = .ok (.putfield 371, 3) := by decide +kernel
theorem dX13_init_491 : decode cX13_init 491 = .ok (.aload_n 0, 1) := by decide +kernel
theorem dX13_init_492 : decode cX13_init 492 = .ok (.sipush 7344, 3) := by decide +kernel
theorem dX13_init_495 : decode cX13_init 495 = .ok (.newarray .int, 2) := by decide +kernel
theorem dX13_init_497 : decode cX13_init 497 = .ok (.putfield 374, 3) := by decide +kernel
theorem dX13_init_500 : decode cX13_init 500 = .ok (.aload_n 0, 1) := by decide +kernel
theorem dX13_init_501 : decode cX13_init 501 = .ok (.sipush 7344, 3) := by decide +kernel
theorem dX13_init_504 : decode cX13_init 504 = .ok (.newarray .boolean, 2) := by decide +kernel
theorem dX13_init_506 : decode cX13_init 506 = .ok (.putfield 377, 3) := by decide +kernel
theorem dX13_init_509 : decode cX13_init 509 = .ok (.aload_n 0, 1) := by decide +kernel
theorem dX13_init_510 : decode cX13_init 510 = .ok (.sipush 7344, 3) := by decide +kernel
theorem dX13_init_513 : decode cX13_init 513 = .ok (.newarray .int, 2) := by decide +kernel
theorem dX13_init_515 : decode cX13_init 515 = .ok (.putfield 380, 3) := by decide +kernel
theorem dX13_init_518 : decode cX13_init 518 = .ok (.aload_n 0, 1) := by decide +kernel
theorem dX13_init_519 : decode cX13_init 519 = .ok (.sipush 7344, 3) := by decide +kernel
theorem dX13_init_522 : decode cX13_init 522 = .ok (.newarray .long, 2) := by decide +kernel
theorem dX13_init_524 : decode cX13_init 524 = .ok (.putfield 383, 3) := by decide +kernel
theorem dX13_init_527 : decode cX13_init 527 = .ok (.aload_n 0, 1) := by decide +kernel
theorem dX13_init_528 : decode cX13_init 528 = .ok (.sipush 7344, 3) := by decide +kernel
theorem dX13_init_531 : decode cX13_init 531 = .ok (.newarray .int, 2) := by decide +kernel
theorem dX13_init_533 : decode cX13_init 533 = .ok (.putfield 386, 3) := by decide +kernel
theorem dX13_init_536 : decode cX13_init 536 = .ok (.aload_n 0, 1) := by decide +kernel
theorem dX13_init_537 : decode cX13_init 537 = .ok (.sipush 7344, 3) := by decide +kernel
theorem dX13_init_540 : decode cX13_init 540 = .ok (.newarray .int, 2) := by decide +kernel
theorem dX13_init_542 : decode cX13_init 542 = .ok (.putfield 389, 3) := by decide +kernel
theorem dX13_init_545 : decode cX13_init 545 = .ok (.aload_n 0, 1) := by decide +kernel
theorem dX13_init_546 : decode cX13_init 546 = .ok (.bipush 18, 2) := by decide +kernel
theorem dX13_init_548 : decode cX13_init 548 = .ok (.newarray .int, 2) := by decide +kernel
theorem dX13_init_550 : decode cX13_init 550 = .ok (.putfield 170, 3) := by decide +kernel
theorem dX13_init_553 : decode cX13_init 553 = .ok (.aload_n 0, 1) := by decide +kernel
theorem dX13_init_554 : decode cX13_init 554 = .ok (.sipush 30600, 3) := by decide +kernel
theorem dX13_init_557 : decode cX13_init 557 = .ok (.newarray .int, 2) := by decide +kernel
theorem dX13_init_559 : decode cX13_init 559 = .ok (.putfield 173, 3) := by decide +kernel
theorem dX13_init_562 : decode cX13_init 562 = .ok (.aload_n 0, 1) := by decide +kernel
theorem dX13_init_563 : decode cX13_init 563 = .ok (.sipush 30600, 3) := by decide +kernel
theorem dX13_init_566 : decode cX13_init 566 = .ok (.newarray .int, 2) := by decide +kernel
theorem dX13_init_568 : decode cX13_init 568 = .ok (.putfield 176, 3) := by decide +kernel
theorem dX13_init_571 : decode cX13_init 571 = .ok (.aload_n 0, 1) := by decide +kernel
theorem dX13_init_572 : decode cX13_init 572 = .ok (.sipush 30600, 3) := by decide +kernel
theorem dX13_init_575 : decode cX13_init 575 = .ok (.newarray .int, 2) := by decide +kernel
theorem dX13_init_577 : decode cX13_init 577 = .ok (.putfield 179, 3) := by decide +kernel
theorem dX13_init_580 : decode cX13_init 580 = .ok (.aload_n 0, 1) := by decide +kernel
theorem dX13_init_581 : decode cX13_init 581 = .ok (.sipush 30600, 3) := by decide +kernel
theorem dX13_init_584 : decode cX13_init 584 = .ok (.newarray .int, 2) := by decide +kernel
theorem dX13_init_586 : decode cX13_init 586 = .ok (.putfield 182, 3) := by decide +kernel
theorem dX13_init_589 : decode cX13_init 589 = .ok (.aload_n 0, 1) := by decide +kernel
theorem dX13_init_590 : decode cX13_init 590 = .ok (.sipush 30600, 3) := by decide +kernel
theorem dX13_init_593 : decode cX13_init 593 = .ok (.newarray .long, 2) := by decide +kernel
theorem dX13_init_595 : decode cX13_init 595 = .ok (.putfield 185, 3) := by decide +kernel
theorem dX13_init_598 : decode cX13_init 598 = .ok (.aload_n 0, 1) := by decide +kernel
theorem dX13_init_599 : decode cX13_init 599 = .ok (.sipush 30600, 3) := by decide +kernel
theorem dX13_init_602 : decode cX13_init 602 = .ok (.newarray .long, 2) := by decide +kernel
theorem dX13_init_604 : decode cX13_init 604 = .ok (.putfield 188, 3) := by decide +kernel
theorem dX13_init_607 : decode cX13_init 607 = .ok (.aload_n 0, 1) := by decide +kernel
theorem dX13_init_608 : decode cX13_init 608 = .ok (.sipush 30600, 3) := by decide +kernel
theorem dX13_init_611 : decode cX13_init 611 = .ok (.newarray .long, 2) := by decide +kernel
theorem dX13_init_613 : decode cX13_init 613 = .ok (.putfield 191, 3) := by decide +kernel
theorem dX13_init_616 : decode cX13_init 616 = .ok (.aload_n 0, 1) := by decide +kernel
theorem dX13_init_617 : decode cX13_init 617 = .ok (.sipush 30600, 3) := by decide +kernel
theorem dX13_init_620 : decode cX13_init 620 = .ok (.newarray .int, 2) := by decide +kernel
theorem dX13_init_622 : decode cX13_init 622 = .ok (.putfield 194, 3) := by decide +kernel
theorem dX13_init_625 : decode cX13_init 625 = .ok (.aload_n 0, 1) := by decide +kernel
theorem dX13_init_626 : decode cX13_init 626 = .ok (.sipush 30600, 3) := by decide +kernel
theorem dX13_init_629 : decode cX13_init 629 = .ok (.newarray .int, 2) := by decide +kernel
theorem dX13_init_631 : decode cX13_init 631 = .ok (.putfield 197, 3) := by decide +kernel
theorem dX13_init_634 : decode cX13_init 634 = .ok (.aload_n 0, 1) := by decide +kernel
theorem dX13_init_635 : decode cX13_init 635 = .ok (.sipush 30600, 3) := by decide +kernel
theorem dX13_init_638 : decode cX13_init 638 = .ok (.newarray .int, 2) := by decide +kernel
theorem dX13_init_640 : decode cX13_init 640 = .ok (.putfield 200, 3) := by decide +kernel
theorem dX13_init_643 : decode cX13_init 643 = .ok (.aload_n 0, 1) := by decide +kernel
theorem dX13_init_644 : decode cX13_init 644 = .ok (.sipush 30600, 3) := by decide +kernel
theorem dX13_init_647 : decode cX13_init 647 = .ok (.newarray .int, 2) := by decide +kernel
theorem dX13_init_649 : decode cX13_init 649 = .ok (.putfield 203, 3) := by decide +kernel
theorem dX13_init_652 : decode cX13_init 652 = .ok (.aload_n 0, 1) := by decide +kernel
theorem dX13_init_653 : decode cX13_init 653 = .ok (.sipush 30600, 3) := by decide +kernel
theorem dX13_init_656 : decode cX13_init 656 = .ok (.newarray .int, 2) := by decide +kernel
theorem dX13_init_658 : decode cX13_init 658 = .ok (.putfield 206, 3) := by decide +kernel
theorem dX13_init_661 : decode cX13_init 661 = .ok (.aload_n 0, 1) := by decide +kernel
theorem dX13_init_662 : decode cX13_init 662 = .ok (.sipush 30600, 3) := by decide +kernel
theorem dX13_init_665 : decode cX13_init 665 = .ok (.newarray .int, 2) := by decide +kernel
theorem dX13_init_667 : decode cX13_init 667 = .ok (.putfield 209, 3) := by decide +kernel
theorem dX13_init_670 : decode cX13_init 670 = .ok (.aload_n 0, 1) := by decide +kernel
theorem dX13_init_671 : decode cX13_init 671 = .ok (.sipush 30600, 3) := by decide +kernel
theorem dX13_init_674 : decode cX13_init 674 = .ok (.newarray .long, 2) := by decide +kernel
theorem dX13_init_676 : decode cX13_init 676 = .ok (.putfield 212, 3) := by decide +kernel
theorem dX13_init_679 : decode cX13_init 679 = .ok (.aload_n 0, 1) := by decide +kernel
theorem dX13_init_680 : decode cX13_init 680 = .ok (.sipush 30600, 3) := by decide +kernel
theorem dX13_init_683 : decode cX13_init 683 = .ok (.newarray .long, 2) := by decide +kernel
theorem dX13_init_685 : decode cX13_init 685 = .ok (.putfield 215, 3) := by decide +kernel
theorem dX13_init_688 : decode cX13_init 688 = .ok (.aload_n 0, 1) := by decide +kernel
theorem dX13_init_689 : decode cX13_init 689 = .ok (.sipush 30600, 3) := by decide +kernel
theorem dX13_init_692 : decode cX13_init 692 = .ok (.newarray .int, 2) := by decide +kernel
theorem dX13_init_694 : decode cX13_init 694 = .ok (.putfield 218, 3) := by decide +kernel
theorem dX13_init_697 : decode cX13_init 697 = .ok (.aload_n 0, 1) := by decide +kernel
theorem dX13_init_698 : decode cX13_init 698 = .ok (.ldc_w 1486, 3) := by decide +kernel
theorem dX13_init_701 : decode cX13_init 701 = .ok (.newarray .long, 2) := by decide +kernel
theorem dX13_init_703 : decode cX13_init 703 = .ok (.putfield 825, 3) := by decide +kernel
theorem dX13_init_706 : decode cX13_init 706 = .ok (.aload_n 0, 1) := by decide +kernel
theorem dX13_init_707 : decode cX13_init 707 = .ok (.sipush 30600, 3) := by decide +kernel
theorem dX13_init_710 : decode cX13_init 710 = .ok (.newarray .int, 2) := by decide +kernel
theorem dX13_init_712 : decode cX13_init 712 = .ok (.putfield 221, 3) := by decide +kernel
theorem dX13_init_715 : decode cX13_init 715 = .ok (.aload_n 0, 1) := by decide +kernel
theorem dX13_init_716 : decode cX13_init 716 = .ok (.sipush 30600, 3) := by decide +kernel
theorem dX13_init_719 : decode cX13_init 719 = .ok (.newarray .int, 2) := by decide +kernel
theorem dX13_init_721 : decode cX13_init 721 = .ok (.putfield 224, 3) := by decide +kernel
theorem dX13_init_724 : decode cX13_init 724 = .ok (.aload_n 0, 1) := by decide +kernel
theorem dX13_init_725 : decode cX13_init 725 = .ok (.iconst 5, 1) := by decide +kernel
theorem dX13_init_726 : decode cX13_init 726 = .ok (.newarray .int, 2) := by decide +kernel
theorem dX13_init_728 : decode cX13_init 728 = .ok (.putfield 535, 3) := by decide +kernel
theorem dX13_init_731 : decode cX13_init 731 = .ok (.aload_n 0, 1) := by decide +kernel
theorem dX13_init_732 : decode cX13_init 732 = .ok (.bipush (-2), 2) := by decide +kernel
theorem dX13_init_734 : decode cX13_init 734 = .ok (.putfield 528, 3) := by decide +kernel
theorem dX13_init_737 : decode cX13_init 737 = .ok (.aload_n 0, 1) := by decide +kernel
theorem dX13_init_738 : decode cX13_init 738 = .ok (.sipush 216, 3) := by decide +kernel
theorem dX13_init_741 : decode cX13_init 741 = .ok (.newarray .int, 2) := by decide +kernel
theorem dX13_init_743 : decode cX13_init 743 = .ok (.putfield 567, 3) := by decide +kernel
theorem dX13_init_746 : decode cX13_init 746 = .ok (.aload_n 0, 1) := by decide +kernel
theorem dX13_init_747 : decode cX13_init 747 = .ok (.sipush 216, 3) := by decide +kernel
theorem dX13_init_750 : decode cX13_init 750 = .ok (.newarray .int, 2) := by decide +kernel
theorem dX13_init_752 : decode cX13_init 752 = .ok (.putfield 570, 3) := by decide +kernel
theorem dX13_init_755 : decode cX13_init 755 = .ok (.aload_n 0, 1) := by decide +kernel
theorem dX13_init_756 : decode cX13_init 756 = .ok (.sipush 4000, 3) := by decide +kernel
theorem dX13_init_759 : decode cX13_init 759 = .ok (.newarray .int, 2) := by decide +kernel
theorem dX13_init_761 : decode cX13_init 761 = .ok (.putfield 576, 3) := by decide +kernel
theorem dX13_init_764 : decode cX13_init 764 = .ok (.aload_n 0, 1) := by decide +kernel
theorem dX13_init_765 : decode cX13_init 765 = .ok (.sipush 216, 3) := by decide +kernel
theorem dX13_init_768 : decode cX13_init 768 = .ok (.newarray .int, 2) := by decide +kernel
theorem dX13_init_770 : decode cX13_init 770 = .ok (.putfield 611, 3) := by decide +kernel
theorem dX13_init_773 : decode cX13_init 773 = .ok (.aload_n 0, 1) := by decide +kernel
theorem dX13_init_774 : decode cX13_init 774 = .ok (.sipush 216, 3) := by decide +kernel
theorem dX13_init_777 : decode cX13_init 777 = .ok (.newarray .int, 2) := by decide +kernel
theorem dX13_init_779 : decode cX13_init 779 = .ok (.putfield 637, 3) := by decide +kernel
theorem dX13_init_782 : decode cX13_init 782 = .ok (.aload_n 0, 1) := by decide +kernel
theorem dX13_init_783 : decode cX13_init 783 = .ok (.sipush 216, 3) := by decide +kernel
theorem dX13_init_786 : decode cX13_init 786 = .ok (.newarray .int, 2) := by decide +kernel
theorem dX13_init_788 : decode cX13_init 788 = .ok (.putfield 630, 3) := by decide +kernel
theorem dX13_init_791 : decode cX13_init 791 = .ok (.aload_n 0, 1) := by decide +kernel
theorem dX13_init_792 : decode cX13_init 792 = .ok (.sipush 432, 3) := by decide +kernel
theorem dX13_init_795 : decode cX13_init 795 = .ok (.newarray .int, 2) := by decide +kernel
theorem dX13_init_797 : decode cX13_init 797 = .ok (.putfield 668, 3) := by decide +kernel
theorem dX13_init_800 : decode cX13_init 800 = .ok (.aload_n 0, 1) := by decide +kernel
theorem dX13_init_801 : decode cX13_init 801 = .ok (.sipush 216, 3) := by decide +kernel
theorem dX13_init_804 : decode cX13_init 804 = .ok (.newarray .int, 2) := by decide +kernel
theorem dX13_init_806 : decode cX13_init 806 = .ok (.putfield 674, 3) := by decide +kernel
theorem dX13_init_809 : decode cX13_init 809 = .ok (.aload_n 0, 1) := by decide +kernel
theorem dX13_init_810 : decode cX13_init 810 = .ok (.sipush 216, 3) := by decide +kernel
theorem dX13_init_813 : decode cX13_init 813 = .ok (.newarray .int, 2) := by decide +kernel
theorem dX13_init_815 : decode cX13_init 815 = .ok (.putfield 705, 3) := by decide +kernel
theorem dX13_init_818 : decode cX13_init 818 = .ok (.aload_n 0, 1) := by decide +kernel
theorem dX13_init_819 : decode cX13_init 819 = .ok (.sipush 1704, 3) := by decide +kernel
theorem dX13_init_822 : decode cX13_init 822 = .ok (.newarray .int, 2) := by decide +kernel
theorem dX13_init_824 : decode cX13_init 824 = .ok (.putfield 726, 3) := by decide +kernel
theorem dX13_init_827 : decode cX13_init 827 = .ok (.aload_n 0, 1) := by decide +kernel
theorem dX13_init_828 : decode cX13_init 828 = .ok (.sipush 720, 3) := by decide +kernel
theorem dX13_init_831 : decode cX13_init 831 = .ok (.newarray .long, 2) := by decide +kernel
theorem dX13_init_833 : decode cX13_init 833 = .ok (.putfield 780, 3) := by decide +kernel
theorem dX13_init_836 : decode cX13_init 836 = .ok (.aload_n 0, 1) := by decide +kernel
theorem dX13_init_837 : decode cX13_init 837 = .ok (.sipush 720, 3) := by decide +kernel
theorem dX13_init_840 : decode cX13_init 840 = .ok (.newarray .long, 2) := by decide +kernel
theorem dX13_init_842 : decode cX13_init 842 = .ok (.putfield 783, 3) := by decide +kernel
theorem dX13_init_845 : decode cX13_init 845 = .ok (.aload_n 0, 1) := by decide +kernel
theorem dX13_init_846 : decode cX13_init 846 = .ok (.sipush 432, 3) := by decide +kernel
theorem dX13_init_849 : decode cX13_init 849 = .ok (.newarray .int, 2) := by decide +kernel
theorem dX13_init_851 : decode cX13_init 851 = .ok (.putfield 841, 3) := by decide +kernel
theorem dX13_init_854 : decode cX13_init 854 = .ok (.aload_n 0, 1) := by decide +kernel
theorem dX13_init_855 : decode cX13_init 855 = .ok (.sipush 216, 3) := by decide +kernel
theorem dX13_init_858 : decode cX13_init 858 = .ok (.newarray .int, 2) := by decide +kernel
theorem dX13_init_860 : decode cX13_init 860 = .ok (.putfield 844, 3) := by decide +kernel
theorem dX13_init_863 : decode cX13_init 863 = .ok (.aload_n 0, 1) := by decide +kernel
theorem dX13_init_864 : decode cX13_init 864 = .ok (.bipush 17, 2) := by decide +kernel
theorem dX13_init_866 : decode cX13_init 866 = .ok (.newarray .int, 2) := by decide +kernel
theorem dX13_init_868 : decode cX13_init 868 = .ok (.putfield 863, 3) := by decide +kernel
theorem dX13_init_871 : decode cX13_init 871 = .ok (.aload_n 0, 1) := by decide +kernel
theorem dX13_init_872 : decode cX13_init 872 = .ok (.sipush 30600, 3) := by decide +kernel
theorem dX13_init_875 : decode cX13_init 875 = .ok (.newarray .int, 2) := by decide +kernel
theorem dX13_init_877 : decode cX13_init 877 = .ok (.putfield 866, 3) := by decide +kernel
theorem dX13_init_880 : decode cX13_init 880 = .ok (.aload_n 0, 1) := by decide +kernel
theorem dX13_init_881 : decode cX13_init 881 = .ok (.sipush 30600, 3) := by decide +kernel
theorem dX13_init_884 : decode cX13_init 884 = .ok (.newarray .int, 2) := by decide +kernel
theorem dX13_init_886 : decode cX13_init 886 = .ok (.putfield 869, 3) := by decide +kernel
theorem dX13_init_889 : decode cX13_init 889 = .ok (.aload_n 0, 1) := by decide +kernel
theorem dX13_init_890 : decode cX13_init 890 = .ok (.sipush 30600, 3) := by decide +kernel
theorem dX13_init_893 : decode cX13_init 893 = .ok (.newarray .long, 2) := by decide +kernel
theorem dX13_init_895 : decode cX13_init 895 = .ok (.putfield 872, 3) := by decide +kernel
theorem dX13_init_898 : decode cX13_init 898 = .ok (.aload_n 0, 1) := by decide +kernel
theorem dX13_init_899 : decode cX13_init 899 = .ok (.sipush 30600, 3) := by decide +kernel
theorem dX13_init_902 : decode cX13_init 902 = .ok (.newarray .long, 2) := by decide +kernel
theorem dX13_init_904 : decode cX13_init 904 = .ok (.putfield 875, 3) := by decide +kernel
theorem dX13_init_907 : decode cX13_init 907 = .ok (.aload_n 0, 1) := by decide +kernel
theorem dX13_init_908 : decode cX13_init 908 = .ok (.sipush 30600, 3) := by decide +kernel
theorem dX13_init_911 : decode cX13_init 911 = .ok (.newarray .long, 2) := by decide +kernel
theorem dX13_init_913 : decode cX13_init 913 = .ok (.putfield 878, 3) := by decide +kernel
theorem dX13_init_916 : decode cX13_init 916 = .ok (.aload_n 0, 1) := by decide +kernel
theorem dX13_init_917 : decode cX13_init 917 = .ok (.sipush 30600, 3) := by decide +kernel
theorem dX13_init_920 : decode cX13_init 920 = .ok (.newarray .int, 2) := by decide +kernel
theorem dX13_init_922 : decode cX13_init 922 = .ok (.putfield 881, 3) := by decide +kernel
theorem dX13_init_925 : decode cX13_init 925 = .ok (.aload_n 0, 1) := by decide +kernel
theorem dX13_init_926 : decode cX13_init 926 = .ok (.ldc_w 1486, 3) := by decide +kernel
theorem dX13_init_929 : decode cX13_init 929 = .ok (.newarray .long, 2) := by decide +kernel
theorem dX13_init_931 : decode cX13_init 931 = .ok (.putfield 890, 3) := by decide +kernel
theorem dX13_init_934 : decode cX13_init 934 = .ok (.aload_n 0, 1) := by decide +kernel
theorem dX13_init_935 : decode cX13_init 935 = .ok (.sipush 30600, 3) := by decide +kernel
theorem dX13_init_938 : decode cX13_init 938 = .ok (.newarray .long, 2) := by decide +kernel
theorem dX13_init_940 : decode cX13_init 940 = .ok (.putfield 884, 3) := by decide +kernel
theorem dX13_init_943 : decode cX13_init 943 = .ok (.aload_n 0, 1) := by decide +kernel
theorem dX13_init_944 : decode cX13_init 944 = .ok (.sipush 30600, 3) := by decide +kernel
theorem dX13_init_947 : decode cX13_init 947 = .ok (.newarray .int, 2) := by decide +kernel
theorem dX13_init_949 : decode cX13_init 949 = .ok (.putfield 887, 3) := by decide +kernel
theorem dX13_init_952 : decode cX13_init 952 = .ok (.aload_n 0, 1) := by decide +kernel
theorem dX13_init_953 : decode cX13_init 953 = .ok (.bipush (-2), 2) := by decide +kernel
theorem dX13_init_955 : decode cX13_init 955 = .ok (.putfield 962, 3) := by decide +kernel
theorem dX13_init_958 : decode cX13_init 958 = .ok (.aload_n 0, 1) := by decide +kernel
theorem dX13_init_959 : decode cX13_init 959 = .ok (.bipush 64, 2) := by decide +kernel
theorem dX13_init_961 : decode cX13_init 961 = .ok (.newarray .int, 2) := by decide +kernel
theorem dX13_init_963 : decode cX13_init 963 = .ok (.putfield 1077, 3) := by decide +kernel
theorem dX13_init_966 : decode cX13_init 966 = .ok (.aload_n 0, 1) := by decide +kernel
theorem dX13_init_967 : decode cX13_init 967 = .ok (.sipush 216, 3) := by decide +kernel
theorem dX13_init_970 : decode cX13_init 970 = .ok (.newarray .int, 2) := by decide +kernel
theorem dX13_init_972 : decode cX13_init 972 = .ok (.putfield 1068, 3) := by decide +kernel
theorem dX13_init_975 : decode cX13_init 975 = .ok (.aload_n 0, 1) := by decide +kernel
theorem dX13_init_976 : decode cX13_init 976 = .ok (.sipush 128, 3) := by decide +kernel
theorem dX13_init_979 : decode cX13_init 979 = .ok (.newarray .int, 2) := by decide +kernel
theorem dX13_init_981 : decode cX13_init 981 = .ok (.putfield 1089, 3) := by decide +kernel
theorem dX13_init_984 : decode cX13_init 984 = .ok (.aload_n 0, 1) := by decide +kernel
theorem dX13_init_985 : decode cX13_init 985 = .ok (.sipush 128, 3) := by decide +kernel
theorem dX13_init_988 : decode cX13_init 988 = .ok (.newarray .int, 2) := by decide +kernel
theorem dX13_init_990 : decode cX13_init 990 = .ok (.putfield 1092, 3) := by decide +kernel
theorem dX13_init_993 : decode cX13_init 993 = .ok (.aload_n 0, 1) := by decide +kernel
theorem dX13_init_994 : decode cX13_init 994 = .ok (.sipush 600, 3) := by decide +kernel
theorem dX13_init_997 : decode cX13_init 997 = .ok (.newarray .int, 2) := by decide +kernel
theorem dX13_init_999 : decode cX13_init 999 = .ok (.putfield 1083, 3) := by decide +kernel
theorem dX13_init_1002 : decode cX13_init 1002 = .ok (.aload_n 0, 1) := by decide +kernel
theorem dX13_init_1003 : decode cX13_init 1003 = .ok (.sipush 216, 3) := by decide +kernel
theorem dX13_init_1006 : decode cX13_init 1006 = .ok (.newarray .int, 2) := by decide +kernel
theorem dX13_init_1008 : decode cX13_init 1008 = .ok (.putfield 1177, 3) := by decide +kernel
theorem dX13_init_1011 : decode cX13_init 1011 = .ok (.aload_n 0, 1) := by decide +kernel
theorem dX13_init_1012 : decode cX13_init 1012 = .ok (.sipush 216, 3) := by decide +kernel
theorem dX13_init_1015 : decode cX13_init 1015 = .ok (.newarray .int, 2) := by decide +kernel
theorem dX13_init_1017 : decode cX13_init 1017 = .ok (.putfield 1118, 3) := by decide +kernel
theorem dX13_init_1020 : decode cX13_init 1020 = .ok (.aload_n 0, 1) := by decide +kernel
theorem dX13_init_1021 : decode cX13_init 1021 = .ok (.sipush 216, 3) := by decide +kernel
theorem dX13_init_1024 : decode cX13_init 1024 = .ok (.newarray .int, 2) := by decide +kernel
theorem dX13_init_1026 : decode cX13_init 1026 = .ok (.putfield 1148, 3) := by decide +kernel
theorem dX13_init_1029 : decode cX13_init 1029 = .ok (.aload_n 0, 1) := by decide +kernel
theorem dX13_init_1030 : decode cX13_init 1030 = .ok (.sipush 27000, 3) := by decide +kernel
theorem dX13_init_1033 : decode cX13_init 1033 = .ok (.newarray .int, 2) := by decide +kernel
theorem dX13_init_1035 : decode cX13_init 1035 = .ok (.putfield 1183, 3) := by decide +kernel
theorem dX13_init_1038 : decode cX13_init 1038 = .ok (.aload_n 0, 1) := by decide +kernel
theorem dX13_init_1039 : decode cX13_init 1039 = .ok (.iconst 5, 1) := by decide +kernel
theorem dX13_init_1040 : decode cX13_init 1040 = .ok (.newarray .int, 2) := by decide +kernel
theorem dX13_init_1042 : decode cX13_init 1042 = .ok (.putfield 1189, 3) := by decide +kernel
theorem dX13_init_1045 : decode cX13_init 1045 = .ok (.aload_n 0, 1) := by decide +kernel
theorem dX13_init_1046 : decode cX13_init 1046 = .ok (.iconst 5, 1) := by decide +kernel
theorem dX13_init_1047 : decode cX13_init 1047 = .ok (.newarray .int, 2) := by decide +kernel
theorem dX13_init_1049 : decode cX13_init 1049 = .ok (.putfield 1186, 3) := by decide +kernel
theorem dX13_init_1052 : decode cX13_init 1052 = .ok (.aload_n 0, 1) := by decide +kernel
theorem dX13_init_1053 : decode cX13_init 1053 = .ok (.sipush 7344, 3) := by decide +kernel
theorem dX13_init_1056 : decode cX13_init 1056 = .ok (.newarray .int, 2) := by decide +kernel
theorem dX13_init_1058 : decode cX13_init 1058 = .ok (.putfield 1204, 3) := by decide +kernel
theorem dX13_init_1061 : decode cX13_init 1061 = .ok (.aload_n 0, 1) := by decide +kernel
theorem dX13_init_1062 : decode cX13_init 1062 = .ok (.sipush 202, 3) := by decide +kernel
theorem dX13_init_1065 : decode cX13_init 1065 = .ok (.newarray .int, 2) := by decide +kernel
theorem dX13_init_1067 : decode cX13_init 1067 = .ok (.putfield 1216, 3) := by decide +kernel
theorem dX13_init_1070 : decode cX13_init 1070 = .ok (.aload_n 0, 1) := by decide +kernel
theorem dX13_init_1071 : decode cX13_init 1071 = .ok (.sipush 202, 3) := by decide +kernel
theorem dX13_init_1074 : decode cX13_init 1074 = .ok (.newarray .int, 2) := by decide +kernel
theorem dX13_init_1076 : decode cX13_init 1076 = .ok (.putfield 1262, 3) := by decide +kernel
theorem dX13_init_1079 : decode cX13_init 1079 = .ok (.aload_n 0, 1) := by decide +kernel
theorem dX13_init_1080 : decode cX13_init 1080 = .ok (.sipush 2001, 3) := by decide +kernel
theorem dX13_init_1083 : decode cX13_init 1083 = .ok (.newarray .int, 2) := by decide +kernel
theorem dX13_init_1085 : decode cX13_init 1085 = .ok (.putfield 1265, 3) := by decide +kernel
theorem dX13_init_1088 : decode cX13_init 1088 = .ok (.aload_n 0, 1) := by decide +kernel
theorem dX13_init_1089 : decode cX13_init 1089 = .ok (.sipush 6240, 3) := by decide +kernel
theorem dX13_init_1092 : decode cX13_init 1092 = .ok (.newarray .int, 2) := by decide +kernel
theorem dX13_init_1094 : decode cX13_init 1094 = .ok (.putfield 1282, 3) := by decide +kernel
theorem dX13_init_1097 : decode cX13_init 1097 = .ok (.aload_n 0, 1) := by decide +kernel
theorem dX13_init_1098 : decode cX13_init 1098 = .ok (.sipush 17280, 3) := by decide +kernel
theorem dX13_init_1101 : decode cX13_init 1101 = .ok (.newarray .int, 2) := by decide +kernel
theorem dX13_init_1103 : decode cX13_init 1103 = .ok (.putfield 1297, 3) := by decide +kernel
theorem dX13_init_1106 : decode cX13_init 1106 = .ok (.aload_n 0, 1) := by decide +kernel
theorem dX13_init_1107 : decode cX13_init 1107 = .ok (.sipush 17280, 3) := by decide +kernel
theorem dX13_init_1110 : decode cX13_init 1110 = .ok (.newarray .int, 2) := by decide +kernel
theorem dX13_init_1112 : decode cX13_init 1112 = .ok (.putfield 1303, 3) := by decide +kernel
theorem dX13_init_1115 : decode cX13_init 1115 = .ok (.aload_n 0, 1) := by decide +kernel
theorem dX13_init_1116 : decode cX13_init 1116 = .ok (.sipush 17280, 3) := by decide +kernel
theorem dX13_init_1119 : decode cX13_init 1119 = .ok (.newarray .int, 2) := by decide +kernel
theorem dX13_init_1121 : decode cX13_init 1121 = .ok (.putfield 1328, 3) := by decide +kernel
theorem dX13_init_1124 : decode cX13_init 1124 = .ok (.aload_n 0, 1) := by decide +kernel
theorem dX13_init_1125 : decode cX13_init 1125 = .ok (.sipush 17280, 3) := by decide +kernel
theorem dX13_init_1128 : decode cX13_init 1128 = .ok (.newarray .int, 2) := by decide +kernel
theorem dX13_init_1130 : decode cX13_init 1130 = .ok (.putfield 1306, 3) := by decide +kernel
theorem dX13_init_1133 : decode cX13_init 1133 = .ok (.aload_n 0, 1) := by decide +kernel
theorem dX13_init_1134 : decode cX13_init 1134 = .ok (.sipush 17280, 3) := by decide +kernel
theorem dX13_init_1137 : decode cX13_init 1137 = .ok (.newarray .int, 2) := by decide +kernel
theorem dX13_init_1139 : decode cX13_init 1139 = .ok (.putfield 1349, 3) := by decide +kernel
theorem dX13_init_1142 : decode cX13_init 1142 = .ok (.aload_n 0, 1) := by decide +kernel
theorem dX13_init_1143 : decode cX13_init 1143 = .ok (.bipush 100, 2) := by decide +kernel
theorem dX13_init_1145 : decode cX13_init 1145 = .ok (.newarray .int, 2) := by decide +kernel
theorem dX13_init_1147 : decode cX13_init 1147 = .ok (.putfield 1361, 3) := by decide +kernel
theorem dX13_init_1150 : decode cX13_init 1150 = .ok (.aload_n 0, 1) := by decide +kernel
theorem dX13_init_1151 : decode cX13_init 1151 = .ok (.sipush 216, 3) := by decide +kernel
theorem dX13_init_1154 : decode cX13_init 1154 = .ok (.newarray .int, 2) := by decide +kernel
theorem dX13_init_1156 : decode cX13_init 1156 = .ok (.putfield 1245, 3) := by decide +kernel
theorem dX13_init_1159 : decode cX13_init 1159 = .ok (.aload_n 0, 1) := by decide +kernel
theorem dX13_init_1160 : decode cX13_init 1160 = .ok (.sipush 8000, 3) := by decide +kernel
theorem dX13_init_1163 : decode cX13_init 1163 = .ok (.newarray .int, 2) := by decide +kernel
theorem dX13_init_1165 : decode cX13_init 1165 = .ok (.putfield 1239, 3) := by decide +kernel
theorem dX13_init_1168 : decode cX13_init 1168 = .ok (.aload_n 0, 1) := by decide +kernel
theorem dX13_init_1169 : decode cX13_init 1169 = .ok (.sipush 30000, 3) := by decide +kernel
theorem dX13_init_1172 : decode cX13_init 1172 = .ok (.newarray .int, 2) := by decide +kernel
theorem dX13_init_1174 : decode cX13_init 1174 = .ok (.putfield 1379, 3) := by decide +kernel
theorem dX13_init_1177 : decode cX13_init 1177 = .ok (.aload_n 0, 1) := by decide +kernel
theorem dX13_init_1178 : decode cX13_init 1178 = .ok (.sipush 702, 3) := by decide +kernel
theorem dX13_init_1181 : decode cX13_init 1181 = .ok (.newarray .int, 2) := by decide +kernel
theorem dX13_init_1183 : decode cX13_init 1183 = .ok (.putfield 1429, 3) := by decide +kernel
theorem dX13_init_1186 : decode cX13_init 1186 = .ok (.aload_n 0, 1) := by decide +kernel
theorem dX13_init_1187 : decode cX13_init 1187 = .ok (.sipush 702, 3) := by decide +kernel
theorem dX13_init_1190 : decode cX13_init 1190 = .ok (.newarray .int, 2) := by decide +kernel
theorem dX13_init_1192 : decode cX13_init 1192 = .ok (.putfield 1435, 3) := by decide +kernel
theorem dX13_init_1195 : decode cX13_init 1195 = .ok (.aload_n 0, 1) := by decide +kernel
theorem dX13_init_1196 : decode cX13_init 1196 = .ok (.sipush 30000, 3) := by decide +kernel
theorem dX13_init_1199 : decode cX13_init 1199 = .ok (.newarray .int, 2) := by decide +kernel
theorem dX13_init_1201 : decode cX13_init 1201 = .ok (.putfield 1441, 3) := by decide +kernel
theorem dX13_init_1204 : decode cX13_init 1204 = .ok (.aload_n 0, 1) := by decide +kernel
theorem dX13_init_1205 : decode cX13_init 1205 = .ok (.sipush 1800, 3) := by decide +kernel
theorem dX13_init_1208 : decode cX13_init 1208 = .ok (.newarray .int, 2) := by decide +kernel
theorem dX13_init_1210 : decode cX13_init 1210 = .ok (.putfield 1474, 3) := by decide +kernel
theorem dX13_init_1213 : decode cX13_init 1213 = .ok (.aload_n 0, 1) := by decide +kernel
theorem dX13_init_1214 : decode cX13_init 1214 = .ok (.invokevirtual 1487, 3) := by decide +kernel
theorem dX13_init_1217 : decode cX13_init 1217 = .ok (.iconst 0, 1) := by decide +kernel
theorem dX13_init_1218 : decode cX13_init 1218 = .ok (.istore_n 1, 1) := by decide +kernel
theorem dX13_init_1219 : decode cX13_init 1219 = .ok (.iload_n 1, 1) := by decide +kernel
theorem dX13_init_1220 : decode cX13_init 1220 = .ok (.iconst 5, 1) := by decide +kernel
theorem dX13_init_1221 : decode cX13_init 1221 = .ok (.if_icmp .ge 17, 3) := by decide +kernel
theorem dX13_init_1224 : decode cX13_init 1224 = .ok (.aload_n 0, 1) := by decide +kernel
theorem dX13_init_1225 : decode cX13_init 1225 = .ok (.getfield 535, 3) := by decide +kernel
theorem dX13_init_1228 : decode cX13_init 1228 = .ok (.iload_n 1, 1) := by decide +kernel
theorem dX13_init_1229 : decode cX13_init 1229 = .ok (.bipush (-2), 2) := by decide +kernel
theorem dX13_init_1231 : decode cX13_init 1231 = .ok (.iastore, 1) := by decide +kernel
theorem dX13_init_1232 : decode cX13_init 1232 = .ok (.iinc 1 1, 3) := by decide +kernel
theorem dX13_init_1235 : decode cX13_init 1235 = .ok (.goto (-16), 3) := by decide +kernel
theorem dX13_init_1238 : decode cX13_init 1238 = .ok (.aload_n 0, 1) := by decide +kernel
theorem dX13_init_1239 : decode cX13_init 1239 = .ok (.invokevirtual 1490, 3) := by decide +kernel
theorem dX13_init_1242 : decode cX13_init 1242 = .ok (.aload_n 0, 1) := by decide +kernel
theorem dX13_init_1243 : decode cX13_init 1243 = .ok (.invokevirtual 998, 3) := by decide +kernel
theorem dX13_init_1246 : decode cX13_init 1246 = .ok (.aload_n 0, 1) := by decide +kernel
theorem dX13_init_1247 : decode cX13_init 1247 = .ok (.bipush (-2), 2) := by decide +kernel
theorem dX13_init_1249 : decode cX13_init 1249 = .ok (.putfield 1171, 3) := by decide +kernel
theorem dX13_init_1252 : decode cX13_init 1252 = .ok (.return_, 1) := by decide +kernel
theorem dJ0_length_8abf5_0 : decode cJ0_length_8abf5 0 = .ok (.aload_n 0, 1) := by decide +kernel
theorem dJ0_length_8abf5_1 : decode cJ0_length_8abf5 1 = .ok (.getfield 9, 3) := by decide +kernel
theorem dJ0_length_8abf5_4 : decode cJ0_length_8abf5 4 = .ok (.arraylength, 1) := by decide +kernel
theorem dJ0_length_8abf5_5 : decode cJ0_length_8abf5 5 = .ok (.aload_n 0, 1) := by decide +kernel
theorem dJ0_length_8abf5_6 : decode cJ0_length_8abf5 6 = .ok (.invokevirtual 335, 3) := by decide +kernel
theorem dJ0_length_8abf5_9 : decode cJ0_length_8abf5 9 = .ok (.ishr, 1) := by decide +kernel
theorem dJ0_length_8abf5_10 : decode cJ0_length_8abf5 10 = .ok (.ireturn, 1) := by decide +kernel
theorem dJ0_charAt_5068e_0 : decode cJ0_charAt_5068e 0 = .ok (.aload_n 0, 1) := by decide +kernel
theorem dJ0_charAt_5068e_1 : decode cJ0_charAt_5068e 1 = .ok (.invokevirtual 492, 3) := by decide +kernel
theorem dJ0_charAt_5068e_4 : decode cJ0_charAt_5068e 4 = .ok (.ifCond .eq 12, 3) := by decide +kernel
theorem dJ0_charAt_5068e_7 : decode cJ0_charAt_5068e 7 = .ok (.aload_n 0, 1) := by decide +kernel
theorem dJ0_charAt_5068e_8 : decode cJ0_charAt_5068e 8 = .ok (.getfield 9, 3) := by decide +kernel
theorem dJ0_charAt_5068e_11 : decode cJ0_charAt_5068e 11 = .ok (.iload_n 1, 1) := by decide +kernel
theorem dJ0_charAt_5068e_12 : decode cJ0_charAt_5068e 12 = .ok (.invokestatic 495, 3) := by decide +kernel
theorem dJ0_charAt_5068e_15 : decode cJ0_charAt_5068e 15 = .ok (.ireturn, 1) := by decide +kernel
theorem dJ0_coder_7d493_0 : decode cJ0_coder_7d493 0 = .ok (.getstatic 38, 3) := by decide +kernel
theorem dJ0_coder_7d493_3 : decode cJ0_coder_7d493 3 = .ok (.ifCond .eq 10, 3) := by decide +kernel
theorem dJ0_coder_7d493_6 : decode cJ0_coder_7d493 6 = .ok (.aload_n 0, 1) := by decide +kernel
theorem dJ0_coder_7d493_7 : decode cJ0_coder_7d493 7 = .ok (.getfield 15, 3) := by decide +kernel
theorem dJ0_coder_7d493_10 : decode cJ0_coder_7d493 10 = .ok (.goto 4, 3) := by decide +kernel
theorem dJ0_coder_7d493_14 : decode cJ0_coder_7d493 14 = .ok (.ireturn, 1) := by decide +kernel
theorem dJ0_isLatin1_aae02_0 : decode cJ0_isLatin1_aae02 0 = .ok (.getstatic 38, 3) := by decide +kernel
theorem dJ0_isLatin1_aae02_3 : decode cJ0_isLatin1_aae02 3 = .ok (.ifCond .eq 14, 3) := by decide +kernel
theorem dJ0_isLatin1_aae02_6 : decode cJ0_isLatin1_aae02 6 = .ok (.aload_n 0, 1) := by decide +kernel
theorem dJ0_isLatin1_aae02_7 : decode cJ0_isLatin1_aae02 7 = .ok (.getfield 15, 3) := by decide +kernel
theorem dJ0_isLatin1_aae02_10 : decode cJ0_isLatin1_aae02 10 = .ok (.ifCond .ne 7, 3) := by decide +kernel
theorem dJ0_isLatin1_aae02_13 : decode cJ0_isLatin1_aae02 13 = .ok (.iconst 1, 1) := by decide +kernel
theorem dJ0_isLatin1_aae02_14 : decode cJ0_isLatin1_aae02 14 = .ok (.goto 4, 3) := by decide +kernel
theorem dJ0_isLatin1_aae02_18 : decode cJ0_isLatin1_aae02 18 = .ok (.ireturn, 1) := by decide +kernel
theorem dJ0_checkIndex_df160_0 : decode cJ0_checkIndex_df160 0 = .ok (.iload_n 0, 1) := by decide +kernel
theorem dJ0_checkIndex_df160_1 : decode cJ0_checkIndex_df160 1 = .ok (.iload_n 1, 1) := by decide +kernel
theorem dJ0_checkIndex_df160_2 : decode cJ0_checkIndex_df160 2 = .ok (.getstatic 1053, 3) := by decide +kernel
theorem dJ0_checkIndex_df160_5 : decode cJ0_checkIndex_df160 5 = .ok (.invokestatic 1059, 3) := by decide +kernel
theorem dJ0_checkIndex_df160_8 : decode cJ0_checkIndex_df160 8 = .ok (.pop, 1) := by decide +kernel
theorem dJ0_checkIndex_df160_9 : decode cJ0_checkIndex_df160 9 = .ok (.return_, 1) := by decide +kernel
theorem dJ1_charAt_3b067_0 : decode cJ1_charAt_3b067 0 = .ok (.iload_n 1, 1) := by decide +kernel
theorem dJ1_charAt_3b067_1 : decode cJ1_charAt_3b067 1 = .ok (.aload_n 0, 1) := by decide +kernel
theorem dJ1_charAt_3b067_2 : decode cJ1_charAt_3b067 2 = .ok (.arraylength, 1) := by decide +kernel
theorem dJ1_charAt_3b067_3 : decode cJ1_charAt_3b067 3 = .ok (.invokestatic 9, 3) := by decide +kernel
theorem dJ1_charAt_3b067_6 : decode cJ1_charAt_3b067 6 = .ok (.aload_n 0, 1) := by decide +kernel
theorem dJ1_charAt_3b067_7 : decode cJ1_charAt_3b067 7 = .ok (.iload_n 1, 1) := by decide +kernel
theorem dJ1_charAt_3b067_8 : decode cJ1_charAt_3b067 8 = .ok (.baload, 1) := by decide +kernel
theorem dJ1_charAt_3b067_9 : decode cJ1_charAt_3b067 9 = .ok (.sipush 255, 3) := by decide +kernel
theorem dJ1_charAt_3b067_12 : decode cJ1_charAt_3b067 12 = .ok (.iand, 1) := by decide +kernel
theorem dJ1_charAt_3b067_13 : decode cJ1_charAt_3b067 13 = .ok (.i2c, 1) := by decide +kernel
theorem dJ1_charAt_3b067_14 : decode cJ1_charAt_3b067 14 = .ok (.ireturn, 1) := by decide +kernel
theorem dJ7_fill_d0a16_0 : decode cJ7_fill_d0a16 0 = .ok (.iconst 0, 1) := by decide +kernel
theorem dJ7_fill_d0a16_1 : decode cJ7_fill_d0a16 1 = .ok (.istore_n 3, 1) := by decide +kernel
theorem dJ7_fill_d0a16_2 : decode cJ7_fill_d0a16 2 = .ok (.aload_n 0, 1) := by decide +kernel
theorem dJ7_fill_d0a16_3 : decode cJ7_fill_d0a16 3 = .ok (.arraylength, 1) := by decide +kernel
theorem dJ7_fill_d0a16_4 : decode cJ7_fill_d0a16 4 = .ok (.istore 4, 2) := by decide +kernel
theorem dJ7_fill_d0a16_6 : decode cJ7_fill_d0a16 6 = .ok (.iload_n 3, 1) := by decide +kernel
theorem dJ7_fill_d0a16_7 : decode cJ7_fill_d0a16 7 = .ok (.iload 4, 2) := by decide +kernel
theorem dJ7_fill_d0a16_9 : decode cJ7_fill_d0a16 9 = .ok (.if_icmp .ge 13, 3) := by decide +kernel
theorem dJ7_fill_d0a16_12 : decode cJ7_fill_d0a16 12 = .ok (.aload_n 0, 1) := by decide +kernel
theorem dJ7_fill_d0a16_13 : decode cJ7_fill_d0a16 13 = .ok (.iload_n 3, 1) := by decide +kernel
theorem dJ7_fill_d0a16_14 : decode cJ7_fill_d0a16 14 = .ok (.lload_n 1, 1) := by decide +kernel
theorem dJ7_fill_d0a16_15 : decode cJ7_fill_d0a16 15 = .ok (.lastore, 1) := by decide +kernel
theorem dJ7_fill_d0a16_16 : decode cJ7_fill_d0a16 16 = .ok (.iinc 3 1, 3) := by decide +kernel
theorem dJ7_fill_d0a16_19 : decode cJ7_fill_d0a16 19 = .ok (.goto (-13), 3) := by decide +kernel
theorem dJ7_fill_d0a16_22 : decode cJ7_fill_d0a16 22 = .ok (.return_, 1) := by decide +kernel
theorem dJ7_fill_53178_0 : decode cJ7_fill_53178 0 = .ok (.iconst 0, 1) := by decide +kernel
theorem dJ7_fill_53178_1 : decode cJ7_fill_53178 1 = .ok (.istore_n 2, 1) := by decide +kernel
theorem dJ7_fill_53178_2 : decode cJ7_fill_53178 2 = .ok (.aload_n 0, 1) := by decide +kernel
theorem dJ7_fill_53178_3 : decode cJ7_fill_53178 3 = .ok (.arraylength, 1) := by decide +kernel
theorem dJ7_fill_53178_4 : decode cJ7_fill_53178 4 = .ok (.istore_n 3, 1) := by decide +kernel
theorem dJ7_fill_53178_5 : decode cJ7_fill_53178 5 = .ok (.iload_n 2, 1) := by decide +kernel
theorem dJ7_fill_53178_6 : decode cJ7_fill_53178 6 = .ok (.iload_n 3, 1) := by decide +kernel
theorem dJ7_fill_53178_7 : decode cJ7_fill_53178 7 = .ok (.if_icmp .ge 13, 3) := by decide +kernel
theorem dJ7_fill_53178_10 : decode cJ7_fill_53178 10 = .ok (.aload_n 0, 1) := by decide +kernel
theorem dJ7_fill_53178_11 : decode cJ7_fill_53178 11 = .ok (.iload_n 2, 1) := by decide +kernel
theorem dJ7_fill_53178_12 : decode cJ7_fill_53178 12 = .ok (.iload_n 1, 1) := by decide +kernel
theorem dJ7_fill_53178_13 : decode cJ7_fill_53178 13 = .ok (.iastore, 1) := by decide +kernel
theorem dJ7_fill_53178_14 : decode cJ7_fill_53178 14 = .ok (.iinc 2 1, 3) := by decide +kernel
theorem dJ7_fill_53178_17 : decode cJ7_fill_53178 17 = .ok (.goto (-12), 3) := by decide +kernel
theorem dJ7_fill_53178_20 : decode cJ7_fill_53178 20 = .ok (.return_, 1) := by decide +kernel
theorem dJ3_checkIndex_8e157_0 : decode cJ3_checkIndex_8e157 0 = .ok (.iload_n 0, 1) := by decide +kernel
theorem dJ3_checkIndex_8e157_1 : decode cJ3_checkIndex_8e157 1 = .ok (.ifCond .lt 8, 3) := by decide +kernel
theorem dJ3_checkIndex_8e157_4 : decode cJ3_checkIndex_8e157 4 = .ok (.iload_n 0, 1) := by decide +kernel
theorem dJ3_checkIndex_8e157_5 : decode cJ3_checkIndex_8e157 5 = .ok (.iload_n 1, 1) := by decide +kernel
theorem dJ3_checkIndex_8e157_6 : decode cJ3_checkIndex_8e157 6 = .ok (.if_icmp .lt 10, 3) := by decide +kernel
theorem dJ3_checkIndex_8e157_16 : decode cJ3_checkIndex_8e157 16 = .ok (.iload_n 0, 1) := by decide +kernel
theorem dJ3_checkIndex_8e157_17 : decode cJ3_checkIndex_8e157 17 = .ok (.ireturn, 1) := by decide +kernel

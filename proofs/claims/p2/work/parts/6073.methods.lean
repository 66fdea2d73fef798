section ZM73
variable {b : Nat} {e : Nat → Value} {D : va_G} {A : Nat → ClassId} {X : State → Prop}
abbrev mX13_weave : rx_M := (RX13, cX13_weave, 11, (some .int), false)
theorem vy_X13_weave : rx_Y (zV b e D A X) yX13_weave mX13_weave 3 := ⟨zw4071, zw431, by decide, by decide +kernel, by decide +kernel, by decide +kernel⟩
noncomputable def vX13_weave_334 (j : Nat → rx_K) : rx_K := o_dup2 (o_ald 0 (o_const 8 (o_bi (fun x y => x + y) (o_ast 0 (fun v => v) rx_isI (o_ld rx_isR 0 (o_dup (o_getf 13 10 (o_const 8 (o_bi (fun x y => x + y) (o_putf rx_isI 13 10 (o_ld rx_isR 0 (o_getf 13 9 (o_ld rx_isI 1 (o_ald 0 (o_const 8 (o_bi (fun x y => x - y) (o_ret1 rx_isI)))))))))))))))))
set_option maxRecDepth 20000 in
theorem wX13_weave_334 (hZ : zO b e D A X) (j : Nat → rx_K) (hj : ∀ k pc, [57, 235][k]? = some pc → rx_OK (zV b e D A X) mX13_weave 6 pc (j k)) : rx_OK (zV b e D A X) mX13_weave 6 334 (vX13_weave_334 j) := by
  unfold vX13_weave_334
  refine s_dup2 hZ.1 dX13_weave_334 ?_
  refine s_iald (tt := 0) rfl dX13_weave_335 ?_
  refine s_iconst dX13_weave_336 (by decide +kernel) ?_
  refine s_iadd dX13_weave_337 ?_
  refine s_iast hZ.1 (tt := 0) rfl dX13_weave_338 ?_
  refine s_aload_n hZ.1 dX13_weave_339 rfl ?_
  refine s_dup hZ.1 dX13_weave_340 ?_
  refine yg13_10 dX13_weave_341 zw4131 ?_
  refine s_iconst dX13_weave_344 (by decide +kernel) ?_
  refine s_iadd dX13_weave_345 ?_
  refine yp13_10 hZ.1 dX13_weave_346 zw4131 ?_
  refine s_aload_n hZ.1 dX13_weave_349 rfl ?_
  refine yg13_9 dX13_weave_350 zw4130 ?_
  refine s_iload_n hZ.1 dX13_weave_353 rfl ?_
  refine s_iald (tt := 0) rfl dX13_weave_354 ?_
  refine s_iconst dX13_weave_355 (by decide +kernel) ?_
  refine s_isub dX13_weave_356 ?_
  exact s_iret hZ.1 rfl dX13_weave_357
noncomputable def vX13_weave_295 (j : Nat → rx_K) : rx_K := o_ld rx_isR 0 (o_getf 13 90 (o_ld rx_isI 1 (o_ld rx_isI 6 (o_ast 0 (fun v => v) rx_isI (o_ld rx_isR 0 (o_ld rx_isI 5 (o_callV 1 13 FX13_weaveUses (o_ld rx_isR 0 (o_getf 13 8 (o_const 64 (o_ld rx_isI 1 (o_bi (fun x y => x * y) (o_ld rx_isR 0 (o_getf 13 9 (o_ld rx_isI 1 (o_ald 0 (o_bi (fun x y => x + y) (o_ld rx_isR 0 (o_getf 13 19 (o_ast 0 (fun v => v) rx_isI (o_ld rx_isR 0 (o_getf 13 9 (o_ld rx_isI 1 ((vX13_weave_334 j)))))))))))))))))))))))))
set_option maxRecDepth 20000 in
theorem wX13_weave_295 (hZ : zO b e D A X) (j : Nat → rx_K) (hj : ∀ k pc, [57, 235][k]? = some pc → rx_OK (zV b e D A X) mX13_weave 6 pc (j k)) : rx_OK (zV b e D A X) mX13_weave 6 295 (vX13_weave_295 j) := by
  unfold vX13_weave_295
  refine s_aload_n hZ.1 dX13_weave_295 rfl ?_
  refine yg13_90 dX13_weave_296 zw4211 ?_
  refine s_iload_n hZ.1 dX13_weave_299 rfl ?_
  refine s_iload hZ.1 dX13_weave_300 ?_
  refine s_iast hZ.1 (tt := 0) rfl dX13_weave_302 ?_
  refine s_aload_n hZ.1 dX13_weave_303 rfl ?_
  refine s_iload hZ.1 dX13_weave_304 ?_
  refine s_callV hZ.1 (Met_X13_weaveUses hZ) (Nat.le_of_ble_eq_true rfl) vy_X13_weaveUses zcl13 zw4098 zw408 (Or.inl zw4096) dX13_weave_306 ?_
  refine s_aload_n hZ.1 dX13_weave_309 rfl ?_
  refine yg13_8 dX13_weave_310 zw4129 ?_
  refine s_bipush dX13_weave_313 (by decide +kernel) ?_
  refine s_iload_n hZ.1 dX13_weave_315 rfl ?_
  refine s_imul dX13_weave_316 ?_
  refine s_aload_n hZ.1 dX13_weave_317 rfl ?_
  refine yg13_9 dX13_weave_318 zw4130 ?_
  refine s_iload_n hZ.1 dX13_weave_321 rfl ?_
  refine s_iald (tt := 0) rfl dX13_weave_322 ?_
  refine s_iadd dX13_weave_323 ?_
  refine s_aload_n hZ.1 dX13_weave_324 rfl ?_
  refine yg13_19 dX13_weave_325 zw4140 ?_
  refine s_iast hZ.1 (tt := 0) rfl dX13_weave_328 ?_
  refine s_aload_n hZ.1 dX13_weave_329 rfl ?_
  refine yg13_9 dX13_weave_330 zw4130 ?_
  refine s_iload_n hZ.1 dX13_weave_333 rfl ?_
  exact (wX13_weave_334 hZ j hj)
noncomputable def vX13_weave_288 (j : Nat → rx_K) : rx_K := o_pop (o_inc 9 (1) ((j 1)))
set_option maxRecDepth 20000 in
theorem wX13_weave_288 (hZ : zO b e D A X) (j : Nat → rx_K) (hj : ∀ k pc, [57, 235][k]? = some pc → rx_OK (zV b e D A X) mX13_weave 6 pc (j k)) : rx_OK (zV b e D A X) mX13_weave 6 288 (vX13_weave_288 j) := by
  unfold vX13_weave_288
  refine s_pop hZ.1 dX13_weave_288 ?_
  refine s_iinc hZ.1 dX13_weave_289 (Nat.le_of_ble_eq_true rfl) ?_
  exact s_goto dX13_weave_292 (by decide) (hj 1 235 rfl)
noncomputable def vX13_weave_247 (j : Nat → rx_K) : rx_K := o_ld rx_isR 0 (o_ld rx_isI 5 (o_const 96 (o_bi (fun x y => x * y) (o_ld rx_isI 9 (o_bi (fun x y => x + y) (o_ld rx_isR 0 (o_ld rx_isI 4 (o_ld rx_isR 0 (o_getf 13 24 (o_ld rx_isI 5 (o_const 96 (o_bi (fun x y => x * y) (o_ld rx_isI 9 (o_bi (fun x y => x + y) (o_ald 1 (o_callV 2 13 FX13_inSlot (o_ld rx_isR 0 (o_getf 13 19 (o_const 96 (o_bi (fun x y => x * y) (o_ld rx_isI 9 (o_bi (fun x y => x + y) (o_callV 3 13 FX13_heal ((vX13_weave_288 j)))))))))))))))))))))))))
set_option maxRecDepth 20000 in
theorem wX13_weave_247 (hZ : zO b e D A X) (j : Nat → rx_K) (hj : ∀ k pc, [57, 235][k]? = some pc → rx_OK (zV b e D A X) mX13_weave 6 pc (j k)) : rx_OK (zV b e D A X) mX13_weave 6 247 (vX13_weave_247 j) := by
  unfold vX13_weave_247
  refine s_aload_n hZ.1 dX13_weave_247 rfl ?_
  refine s_iload hZ.1 dX13_weave_248 ?_
  refine s_bipush dX13_weave_250 (by decide +kernel) ?_
  refine s_imul dX13_weave_252 ?_
  refine s_iload hZ.1 dX13_weave_253 ?_
  refine s_iadd dX13_weave_255 ?_
  refine s_aload_n hZ.1 dX13_weave_256 rfl ?_
  refine s_iload hZ.1 dX13_weave_257 ?_
  refine s_aload_n hZ.1 dX13_weave_259 rfl ?_
  refine yg13_24 dX13_weave_260 zw4145 ?_
  refine s_iload hZ.1 dX13_weave_263 ?_
  refine s_bipush dX13_weave_265 (by decide +kernel) ?_
  refine s_imul dX13_weave_267 ?_
  refine s_iload hZ.1 dX13_weave_268 ?_
  refine s_iadd dX13_weave_270 ?_
  refine s_lald (tt := 1) rfl dX13_weave_271 ?_
  refine s_callV hZ.1 (Met_X13_inSlot hZ) (Nat.le_of_ble_eq_true rfl) vy_X13_inSlot zcl13 zw3174 zw225 (Or.inl zw3172) dX13_weave_272 ?_
  refine s_aload_n hZ.1 dX13_weave_275 rfl ?_
  refine yg13_19 dX13_weave_276 zw4140 ?_
  refine s_bipush dX13_weave_279 (by decide +kernel) ?_
  refine s_imul dX13_weave_281 ?_
  refine s_iload hZ.1 dX13_weave_282 ?_
  refine s_iadd dX13_weave_284 ?_
  refine s_callV hZ.1 (Met_X13_heal hZ) (Nat.le_of_ble_eq_true rfl) vy_X13_heal zcl13 zw4074 zw402 (Or.inl zw4072) dX13_weave_285 ?_
  exact (wX13_weave_288 hZ j hj)
noncomputable def vX13_weave_235 (j : Nat → rx_K) : rx_K := o_ld rx_isI 9 (o_ld rx_isR 0 (o_getf 13 23 (o_ld rx_isI 5 (o_ald 0 (o_c2 rx_lt (vX13_weave_247 j) (vX13_weave_295 j))))))
set_option maxRecDepth 20000 in
theorem wX13_weave_235 (hZ : zO b e D A X) (j : Nat → rx_K) (hj : ∀ k pc, [57, 235][k]? = some pc → rx_OK (zV b e D A X) mX13_weave 6 pc (j k)) : rx_OK (zV b e D A X) mX13_weave 6 235 (vX13_weave_235 j) := by
  unfold vX13_weave_235
  refine s_iload hZ.1 dX13_weave_235 ?_
  refine s_aload_n hZ.1 dX13_weave_237 rfl ?_
  refine yg13_23 dX13_weave_238 zw4144 ?_
  refine s_iload hZ.1 dX13_weave_241 ?_
  refine s_iald (tt := 0) rfl dX13_weave_243 ?_
  exact s_icmp_ge dX13_weave_244 (by decide) (wX13_weave_295 hZ j hj) (wX13_weave_247 hZ j hj)
noncomputable def vX13_weave_217 (j : Nat → rx_K) : rx_K := o_ld rx_isR 0 (o_ld rx_isR 0 (o_getf 13 10 (o_putf rx_isI 13 19 (o_ld rx_isR 0 (o_ld rx_isI 5 (o_ld rx_isI 1 (o_callV 2 13 FX13_copyBuild (o_const 0 (o_st rx_isI 9 ((vX13_weave_235 j)))))))))))
set_option maxRecDepth 20000 in
theorem wX13_weave_217 (hZ : zO b e D A X) (j : Nat → rx_K) (hj : ∀ k pc, [57, 235][k]? = some pc → rx_OK (zV b e D A X) mX13_weave 6 pc (j k)) : rx_OK (zV b e D A X) mX13_weave 6 217 (vX13_weave_217 j) := by
  unfold vX13_weave_217
  refine s_aload_n hZ.1 dX13_weave_217 rfl ?_
  refine s_aload_n hZ.1 dX13_weave_218 rfl ?_
  refine yg13_10 dX13_weave_219 zw4131 ?_
  refine yp13_19 hZ.1 dX13_weave_222 zw4140 ?_
  refine s_aload_n hZ.1 dX13_weave_225 rfl ?_
  refine s_iload hZ.1 dX13_weave_226 ?_
  refine s_iload_n hZ.1 dX13_weave_228 rfl ?_
  refine s_callV hZ.1 (Met_X13_copyBuild hZ) (Nat.le_of_ble_eq_true rfl) vy_X13_copyBuild zcl13 zw4082 zw404 (Or.inl zw4080) dX13_weave_229 ?_
  refine s_iconst dX13_weave_232 (by decide +kernel) ?_
  refine s_istore hZ.1 dX13_weave_233 (Nat.le_of_ble_eq_true rfl) ?_
  exact (wX13_weave_235 hZ j hj)
noncomputable def vX13_weave_216 (j : Nat → rx_K) : rx_K := o_ret1 rx_isI
set_option maxRecDepth 20000 in
theorem wX13_weave_216 (hZ : zO b e D A X) (j : Nat → rx_K) (hj : ∀ k pc, [57, 235][k]? = some pc → rx_OK (zV b e D A X) mX13_weave 6 pc (j k)) : rx_OK (zV b e D A X) mX13_weave 6 216 (vX13_weave_216 j) := by
  unfold vX13_weave_216
  exact s_iret hZ.1 rfl dX13_weave_216
noncomputable def vX13_weave_214 (j : Nat → rx_K) : rx_K := o_const 34359738344 ((vX13_weave_216 j))
set_option maxRecDepth 20000 in
theorem wX13_weave_214 (hZ : zO b e D A X) (j : Nat → rx_K) (hj : ∀ k pc, [57, 235][k]? = some pc → rx_OK (zV b e D A X) mX13_weave 6 pc (j k)) : rx_OK (zV b e D A X) mX13_weave 6 214 (vX13_weave_214 j) := by
  unfold vX13_weave_214
  refine s_bipush dX13_weave_214 (by decide +kernel) ?_
  exact (wX13_weave_216 hZ j hj)
noncomputable def vX13_weave_209 (j : Nat → rx_K) : rx_K := o_const 34359738352 ((vX13_weave_216 j))
set_option maxRecDepth 20000 in
theorem wX13_weave_209 (hZ : zO b e D A X) (j : Nat → rx_K) (hj : ∀ k pc, [57, 235][k]? = some pc → rx_OK (zV b e D A X) mX13_weave 6 pc (j k)) : rx_OK (zV b e D A X) mX13_weave 6 209 (vX13_weave_209 j) := by
  unfold vX13_weave_209
  refine s_bipush dX13_weave_209 (by decide +kernel) ?_
  exact s_goto dX13_weave_211 (by decide) (wX13_weave_216 hZ j hj)
noncomputable def vX13_weave_196 (j : Nat → rx_K) : rx_K := o_ld rx_isR 0 (o_getf 13 90 (o_ld rx_isI 1 (o_ld rx_isI 6 (o_ast 0 (fun v => v) rx_isI (o_ld rx_isI 7 (o_c1 rx_eq (vX13_weave_209 j) (vX13_weave_214 j)))))))
set_option maxRecDepth 20000 in
theorem wX13_weave_196 (hZ : zO b e D A X) (j : Nat → rx_K) (hj : ∀ k pc, [57, 235][k]? = some pc → rx_OK (zV b e D A X) mX13_weave 6 pc (j k)) : rx_OK (zV b e D A X) mX13_weave 6 196 (vX13_weave_196 j) := by
  unfold vX13_weave_196
  refine s_aload_n hZ.1 dX13_weave_196 rfl ?_
  refine yg13_90 dX13_weave_197 zw4211 ?_
  refine s_iload_n hZ.1 dX13_weave_200 rfl ?_
  refine s_iload hZ.1 dX13_weave_201 ?_
  refine s_iast hZ.1 (tt := 0) rfl dX13_weave_203 ?_
  refine s_iload hZ.1 dX13_weave_204 ?_
  exact s_if_ne dX13_weave_206 (by decide) (wX13_weave_214 hZ j hj) (wX13_weave_209 hZ j hj)
noncomputable def vX13_weave_191 (j : Nat → rx_K) : rx_K := o_ld rx_isI 8 (o_c1 rx_eq (vX13_weave_217 j) (vX13_weave_196 j))
set_option maxRecDepth 20000 in
theorem wX13_weave_191 (hZ : zO b e D A X) (j : Nat → rx_K) (hj : ∀ k pc, [57, 235][k]? = some pc → rx_OK (zV b e D A X) mX13_weave 6 pc (j k)) : rx_OK (zV b e D A X) mX13_weave 6 191 (vX13_weave_191 j) := by
  unfold vX13_weave_191
  refine s_iload hZ.1 dX13_weave_191 ?_
  exact s_if_eq dX13_weave_193 (by decide) (wX13_weave_217 hZ j hj) (wX13_weave_196 hZ j hj)
noncomputable def vX13_weave_184 (j : Nat → rx_K) : rx_K := o_st rx_isI 8 (o_ld rx_isI 7 (o_c1 rx_eq (vX13_weave_196 j) (vX13_weave_191 j)))
set_option maxRecDepth 20000 in
theorem wX13_weave_184 (hZ : zO b e D A X) (j : Nat → rx_K) (hj : ∀ k pc, [57, 235][k]? = some pc → rx_OK (zV b e D A X) mX13_weave 6 pc (j k)) : rx_OK (zV b e D A X) mX13_weave 6 184 (vX13_weave_184 j) := by
  unfold vX13_weave_184
  refine s_istore hZ.1 dX13_weave_184 (Nat.le_of_ble_eq_true rfl) ?_
  refine s_iload hZ.1 dX13_weave_186 ?_
  exact s_if_eq dX13_weave_188 (by decide) (wX13_weave_196 hZ j hj) (wX13_weave_191 hZ j hj)
noncomputable def vX13_weave_183 (j : Nat → rx_K) : rx_K := o_const 0 ((vX13_weave_184 j))
set_option maxRecDepth 20000 in
theorem wX13_weave_183 (hZ : zO b e D A X) (j : Nat → rx_K) (hj : ∀ k pc, [57, 235][k]? = some pc → rx_OK (zV b e D A X) mX13_weave 6 pc (j k)) : rx_OK (zV b e D A X) mX13_weave 6 183 (vX13_weave_183 j) := by
  unfold vX13_weave_183
  refine s_iconst dX13_weave_183 (by decide +kernel) ?_
  exact (wX13_weave_184 hZ j hj)
noncomputable def vX13_weave_179 (j : Nat → rx_K) : rx_K := o_const 8 ((vX13_weave_184 j))
set_option maxRecDepth 20000 in
theorem wX13_weave_179 (hZ : zO b e D A X) (j : Nat → rx_K) (hj : ∀ k pc, [57, 235][k]? = some pc → rx_OK (zV b e D A X) mX13_weave 6 pc (j k)) : rx_OK (zV b e D A X) mX13_weave 6 179 (vX13_weave_179 j) := by
  unfold vX13_weave_179
  refine s_iconst dX13_weave_179 (by decide +kernel) ?_
  exact s_goto dX13_weave_180 (by decide) (wX13_weave_184 hZ j hj)
noncomputable def vX13_weave_170 (j : Nat → rx_K) : rx_K := o_ld rx_isR 0 (o_getf 13 10 (o_const 128 (o_c2 rx_eq (vX13_weave_179 j) (vX13_weave_183 j))))
set_option maxRecDepth 20000 in
theorem wX13_weave_170 (hZ : zO b e D A X) (j : Nat → rx_K) (hj : ∀ k pc, [57, 235][k]? = some pc → rx_OK (zV b e D A X) mX13_weave 6 pc (j k)) : rx_OK (zV b e D A X) mX13_weave 6 170 (vX13_weave_170 j) := by
  unfold vX13_weave_170
  refine s_aload_n hZ.1 dX13_weave_170 rfl ?_
  refine yg13_10 dX13_weave_171 zw4131 ?_
  refine s_bipush dX13_weave_174 (by decide +kernel) ?_
  exact s_icmp_ne dX13_weave_176 (by decide) (wX13_weave_183 hZ j hj) (wX13_weave_179 hZ j hj)
noncomputable def vX13_weave_159 (j : Nat → rx_K) : rx_K := o_ld rx_isR 0 (o_getf 13 9 (o_ld rx_isI 1 (o_ald 0 (o_const 64 (o_c2 rx_eq (vX13_weave_179 j) (vX13_weave_170 j))))))
set_option maxRecDepth 20000 in
theorem wX13_weave_159 (hZ : zO b e D A X) (j : Nat → rx_K) (hj : ∀ k pc, [57, 235][k]? = some pc → rx_OK (zV b e D A X) mX13_weave 6 pc (j k)) : rx_OK (zV b e D A X) mX13_weave 6 159 (vX13_weave_159 j) := by
  unfold vX13_weave_159
  refine s_aload_n hZ.1 dX13_weave_159 rfl ?_
  refine yg13_9 dX13_weave_160 zw4130 ?_
  refine s_iload_n hZ.1 dX13_weave_163 rfl ?_
  refine s_iald (tt := 0) rfl dX13_weave_164 ?_
  refine s_bipush dX13_weave_165 (by decide +kernel) ?_
  exact s_icmp_eq dX13_weave_167 (by decide) (wX13_weave_179 hZ j hj) (wX13_weave_170 hZ j hj)
noncomputable def vX13_weave_154 (j : Nat → rx_K) : rx_K := o_ld rx_isI 8 (o_c1 rx_eq (vX13_weave_159 j) (vX13_weave_179 j))
set_option maxRecDepth 20000 in
theorem wX13_weave_154 (hZ : zO b e D A X) (j : Nat → rx_K) (hj : ∀ k pc, [57, 235][k]? = some pc → rx_OK (zV b e D A X) mX13_weave 6 pc (j k)) : rx_OK (zV b e D A X) mX13_weave 6 154 (vX13_weave_154 j) := by
  unfold vX13_weave_154
  refine s_iload hZ.1 dX13_weave_154 ?_
  exact s_if_ne dX13_weave_156 (by decide) (wX13_weave_179 hZ j hj) (wX13_weave_159 hZ j hj)
noncomputable def vX13_weave_146 (j : Nat → rx_K) : rx_K := o_st rx_isI 8 (o_inc 9 (1) ((j 0)))
set_option maxRecDepth 20000 in
theorem wX13_weave_146 (hZ : zO b e D A X) (j : Nat → rx_K) (hj : ∀ k pc, [57, 235][k]? = some pc → rx_OK (zV b e D A X) mX13_weave 6 pc (j k)) : rx_OK (zV b e D A X) mX13_weave 6 146 (vX13_weave_146 j) := by
  unfold vX13_weave_146
  refine s_istore hZ.1 dX13_weave_146 (Nat.le_of_ble_eq_true rfl) ?_
  refine s_iinc hZ.1 dX13_weave_148 (Nat.le_of_ble_eq_true rfl) ?_
  exact s_goto dX13_weave_151 (by decide) (hj 0 57 rfl)
noncomputable def vX13_weave_145 (j : Nat → rx_K) : rx_K := o_const 0 ((vX13_weave_146 j))
set_option maxRecDepth 20000 in
theorem wX13_weave_145 (hZ : zO b e D A X) (j : Nat → rx_K) (hj : ∀ k pc, [57, 235][k]? = some pc → rx_OK (zV b e D A X) mX13_weave 6 pc (j k)) : rx_OK (zV b e D A X) mX13_weave 6 145 (vX13_weave_145 j) := by
  unfold vX13_weave_145
  refine s_iconst dX13_weave_145 (by decide +kernel) ?_
  exact (wX13_weave_146 hZ j hj)
noncomputable def vX13_weave_141 (j : Nat → rx_K) : rx_K := o_const 8 ((vX13_weave_146 j))
set_option maxRecDepth 20000 in
theorem wX13_weave_141 (hZ : zO b e D A X) (j : Nat → rx_K) (hj : ∀ k pc, [57, 235][k]? = some pc → rx_OK (zV b e D A X) mX13_weave 6 pc (j k)) : rx_OK (zV b e D A X) mX13_weave 6 141 (vX13_weave_141 j) := by
  unfold vX13_weave_141
  refine s_iconst dX13_weave_141 (by decide +kernel) ?_
  exact s_goto dX13_weave_142 (by decide) (wX13_weave_146 hZ j hj)
noncomputable def vX13_weave_121 (j : Nat → rx_K) : rx_K := o_ld rx_isR 0 (o_ld rx_isI 5 (o_const 96 (o_bi (fun x y => x * y) (o_ld rx_isI 9 (o_bi (fun x y => x + y) (o_callV 1 13 FX13_bridgesOf (o_ld rx_isI 10 (o_bi (fun x y => x + y) (o_const 96 (o_c2 (fun h x y => rx_lt h y x) (vX13_weave_141 j) (vX13_weave_145 j)))))))))))
set_option maxRecDepth 20000 in
theorem wX13_weave_121 (hZ : zO b e D A X) (j : Nat → rx_K) (hj : ∀ k pc, [57, 235][k]? = some pc → rx_OK (zV b e D A X) mX13_weave 6 pc (j k)) : rx_OK (zV b e D A X) mX13_weave 6 121 (vX13_weave_121 j) := by
  unfold vX13_weave_121
  refine s_aload_n hZ.1 dX13_weave_121 rfl ?_
  refine s_iload hZ.1 dX13_weave_122 ?_
  refine s_bipush dX13_weave_124 (by decide +kernel) ?_
  refine s_imul dX13_weave_126 ?_
  refine s_iload hZ.1 dX13_weave_127 ?_
  refine s_iadd dX13_weave_129 ?_
  refine s_callV hZ.1 (Met_X13_bridgesOf hZ) (Nat.le_of_ble_eq_true rfl) vy_X13_bridgesOf zcl13 zw4078 zw403 (Or.inl zw4076) dX13_weave_130 ?_
  refine s_iload hZ.1 dX13_weave_133 ?_
  refine s_iadd dX13_weave_135 ?_
  refine s_bipush dX13_weave_136 (by decide +kernel) ?_
  exact s_icmp_le dX13_weave_138 (by decide) (wX13_weave_145 hZ j hj) (wX13_weave_141 hZ j hj)
noncomputable def vX13_weave_116 (j : Nat → rx_K) : rx_K := o_ld rx_isI 10 (o_c1 (fun h x y => rx_lt h y x) (vX13_weave_121 j) (vX13_weave_145 j))
set_option maxRecDepth 20000 in
theorem wX13_weave_116 (hZ : zO b e D A X) (j : Nat → rx_K) (hj : ∀ k pc, [57, 235][k]? = some pc → rx_OK (zV b e D A X) mX13_weave 6 pc (j k)) : rx_OK (zV b e D A X) mX13_weave 6 116 (vX13_weave_116 j) := by
  unfold vX13_weave_116
  refine s_iload hZ.1 dX13_weave_116 ?_
  exact s_if_le dX13_weave_118 (by decide) (wX13_weave_145 hZ j hj) (wX13_weave_121 hZ j hj)
noncomputable def vX13_weave_111 (j : Nat → rx_K) : rx_K := o_ld rx_isI 8 (o_c1 rx_eq (vX13_weave_116 j) (vX13_weave_141 j))
set_option maxRecDepth 20000 in
theorem wX13_weave_111 (hZ : zO b e D A X) (j : Nat → rx_K) (hj : ∀ k pc, [57, 235][k]? = some pc → rx_OK (zV b e D A X) mX13_weave 6 pc (j k)) : rx_OK (zV b e D A X) mX13_weave 6 111 (vX13_weave_111 j) := by
  unfold vX13_weave_111
  refine s_iload hZ.1 dX13_weave_111 ?_
  exact s_if_ne dX13_weave_113 (by decide) (wX13_weave_141 hZ j hj) (wX13_weave_116 hZ j hj)
noncomputable def vX13_weave_69 (j : Nat → rx_K) : rx_K := o_ld rx_isR 0 (o_ld rx_isI 5 (o_const 96 (o_bi (fun x y => x * y) (o_ld rx_isI 9 (o_bi (fun x y => x + y) (o_ld rx_isR 0 (o_ld rx_isI 4 (o_ld rx_isR 0 (o_getf 13 24 (o_ld rx_isI 5 (o_const 96 (o_bi (fun x y => x * y) (o_ld rx_isI 9 (o_bi (fun x y => x + y) (o_ald 1 (o_callV 2 13 FX13_inSlot (o_const 34359738352 (o_callV 3 13 FX13_heal (o_st rx_isI 10 (o_ld rx_isI 7 (o_ld rx_isI 10 (o_bi (fun x y => x + y) (o_st rx_isI 7 ((vX13_weave_111 j)))))))))))))))))))))))))
set_option maxRecDepth 20000 in
theorem wX13_weave_69 (hZ : zO b e D A X) (j : Nat → rx_K) (hj : ∀ k pc, [57, 235][k]? = some pc → rx_OK (zV b e D A X) mX13_weave 6 pc (j k)) : rx_OK (zV b e D A X) mX13_weave 6 69 (vX13_weave_69 j) := by
  unfold vX13_weave_69
  refine s_aload_n hZ.1 dX13_weave_69 rfl ?_
  refine s_iload hZ.1 dX13_weave_70 ?_
  refine s_bipush dX13_weave_72 (by decide +kernel) ?_
  refine s_imul dX13_weave_74 ?_
  refine s_iload hZ.1 dX13_weave_75 ?_
  refine s_iadd dX13_weave_77 ?_
  refine s_aload_n hZ.1 dX13_weave_78 rfl ?_
  refine s_iload hZ.1 dX13_weave_79 ?_
  refine s_aload_n hZ.1 dX13_weave_81 rfl ?_
  refine yg13_24 dX13_weave_82 zw4145 ?_
  refine s_iload hZ.1 dX13_weave_85 ?_
  refine s_bipush dX13_weave_87 (by decide +kernel) ?_
  refine s_imul dX13_weave_89 ?_
  refine s_iload hZ.1 dX13_weave_90 ?_
  refine s_iadd dX13_weave_92 ?_
  refine s_lald (tt := 1) rfl dX13_weave_93 ?_
  refine s_callV hZ.1 (Met_X13_inSlot hZ) (Nat.le_of_ble_eq_true rfl) vy_X13_inSlot zcl13 zw3174 zw225 (Or.inl zw3172) dX13_weave_94 ?_
  refine s_bipush dX13_weave_97 (by decide +kernel) ?_
  refine s_callV hZ.1 (Met_X13_heal hZ) (Nat.le_of_ble_eq_true rfl) vy_X13_heal zcl13 zw4074 zw402 (Or.inl zw4072) dX13_weave_99 ?_
  refine s_istore hZ.1 dX13_weave_102 (Nat.le_of_ble_eq_true rfl) ?_
  refine s_iload hZ.1 dX13_weave_104 ?_
  refine s_iload hZ.1 dX13_weave_106 ?_
  refine s_iadd dX13_weave_108 ?_
  refine s_istore hZ.1 dX13_weave_109 (Nat.le_of_ble_eq_true rfl) ?_
  exact (wX13_weave_111 hZ j hj)
noncomputable def vX13_weave_57 (j : Nat → rx_K) : rx_K := o_ld rx_isI 9 (o_ld rx_isR 0 (o_getf 13 23 (o_ld rx_isI 5 (o_ald 0 (o_c2 rx_lt (vX13_weave_69 j) (vX13_weave_154 j))))))
set_option maxRecDepth 20000 in
theorem wX13_weave_57 (hZ : zO b e D A X) (j : Nat → rx_K) (hj : ∀ k pc, [57, 235][k]? = some pc → rx_OK (zV b e D A X) mX13_weave 6 pc (j k)) : rx_OK (zV b e D A X) mX13_weave 6 57 (vX13_weave_57 j) := by
  unfold vX13_weave_57
  refine s_iload hZ.1 dX13_weave_57 ?_
  refine s_aload_n hZ.1 dX13_weave_59 rfl ?_
  refine yg13_23 dX13_weave_60 zw4144 ?_
  refine s_iload hZ.1 dX13_weave_63 ?_
  refine s_iald (tt := 0) rfl dX13_weave_65 ?_
  exact s_icmp_ge dX13_weave_66 (by decide) (wX13_weave_154 hZ j hj) (wX13_weave_69 hZ j hj)
noncomputable def vX13_weave_32 (j : Nat → rx_K) : rx_K := o_ld rx_isR 0 (o_getf 13 90 (o_ld rx_isI 1 (o_ald 0 (o_st rx_isI 6 (o_ld rx_isR 0 (o_getf 13 90 (o_ld rx_isI 1 (o_ld rx_isI 5 (o_ast 0 (fun v => v) rx_isI (o_const 0 (o_st rx_isI 7 (o_const 0 (o_st rx_isI 8 (o_const 0 (o_st rx_isI 9 ((vX13_weave_57 j)))))))))))))))))
set_option maxRecDepth 20000 in
theorem wX13_weave_32 (hZ : zO b e D A X) (j : Nat → rx_K) (hj : ∀ k pc, [57, 235][k]? = some pc → rx_OK (zV b e D A X) mX13_weave 6 pc (j k)) : rx_OK (zV b e D A X) mX13_weave 6 32 (vX13_weave_32 j) := by
  unfold vX13_weave_32
  refine s_aload_n hZ.1 dX13_weave_32 rfl ?_
  refine yg13_90 dX13_weave_33 zw4211 ?_
  refine s_iload_n hZ.1 dX13_weave_36 rfl ?_
  refine s_iald (tt := 0) rfl dX13_weave_37 ?_
  refine s_istore hZ.1 dX13_weave_38 (Nat.le_of_ble_eq_true rfl) ?_
  refine s_aload_n hZ.1 dX13_weave_40 rfl ?_
  refine yg13_90 dX13_weave_41 zw4211 ?_
  refine s_iload_n hZ.1 dX13_weave_44 rfl ?_
  refine s_iload hZ.1 dX13_weave_45 ?_
  refine s_iast hZ.1 (tt := 0) rfl dX13_weave_47 ?_
  refine s_iconst dX13_weave_48 (by decide +kernel) ?_
  refine s_istore hZ.1 dX13_weave_49 (Nat.le_of_ble_eq_true rfl) ?_
  refine s_iconst dX13_weave_51 (by decide +kernel) ?_
  refine s_istore hZ.1 dX13_weave_52 (Nat.le_of_ble_eq_true rfl) ?_
  refine s_iconst dX13_weave_54 (by decide +kernel) ?_
  refine s_istore hZ.1 dX13_weave_55 (Nat.le_of_ble_eq_true rfl) ?_
  exact (wX13_weave_57 hZ j hj)
noncomputable def vX13_weave_30 (j : Nat → rx_K) : rx_K := o_const 34359738360 (o_ret1 rx_isI)
set_option maxRecDepth 20000 in
theorem wX13_weave_30 (hZ : zO b e D A X) (j : Nat → rx_K) (hj : ∀ k pc, [57, 235][k]? = some pc → rx_OK (zV b e D A X) mX13_weave 6 pc (j k)) : rx_OK (zV b e D A X) mX13_weave 6 30 (vX13_weave_30 j) := by
  unfold vX13_weave_30
  refine s_iconst dX13_weave_30 (by decide +kernel) ?_
  exact s_iret hZ.1 rfl dX13_weave_31
noncomputable def vX13_weave_23 (j : Nat → rx_K) : rx_K := o_ld rx_isI 5 (o_const 34359738352 (o_c2 rx_eq (vX13_weave_30 j) (vX13_weave_32 j)))
set_option maxRecDepth 20000 in
theorem wX13_weave_23 (hZ : zO b e D A X) (j : Nat → rx_K) (hj : ∀ k pc, [57, 235][k]? = some pc → rx_OK (zV b e D A X) mX13_weave 6 pc (j k)) : rx_OK (zV b e D A X) mX13_weave 6 23 (vX13_weave_23 j) := by
  unfold vX13_weave_23
  refine s_iload hZ.1 dX13_weave_23 ?_
  refine s_bipush dX13_weave_25 (by decide +kernel) ?_
  exact s_icmp_ne dX13_weave_27 (by decide) (wX13_weave_32 hZ j hj) (wX13_weave_30 hZ j hj)
noncomputable def vX13_weave_0 (j : Nat → rx_K) : rx_K := o_ld rx_isR 0 (o_ld rx_isI 1 (o_ld rx_isI 2 (o_callV 2 13 FX13_slotAt (o_st rx_isI 4 (o_ld rx_isR 0 (o_ld rx_isI 1 (o_ld rx_isI 3 (o_callV 2 13 FX13_slotAt (o_st rx_isI 5 (o_ld rx_isI 4 (o_const 34359738352 (o_c2 rx_eq (vX13_weave_30 j) (vX13_weave_23 j)))))))))))))
set_option maxRecDepth 20000 in
theorem wX13_weave_0 (hZ : zO b e D A X) (j : Nat → rx_K) (hj : ∀ k pc, [57, 235][k]? = some pc → rx_OK (zV b e D A X) mX13_weave 6 pc (j k)) : rx_OK (zV b e D A X) mX13_weave 6 0 (vX13_weave_0 j) := by
  unfold vX13_weave_0
  refine s_aload_n hZ.1 dX13_weave_0 rfl ?_
  refine s_iload_n hZ.1 dX13_weave_1 rfl ?_
  refine s_iload_n hZ.1 dX13_weave_2 rfl ?_
  refine s_callV hZ.1 (Met_X13_slotAt hZ) (Nat.le_of_ble_eq_true rfl) vy_X13_slotAt zcl13 zw3585 zw317 (Or.inl zw3583) dX13_weave_3 ?_
  refine s_istore hZ.1 dX13_weave_6 (Nat.le_of_ble_eq_true rfl) ?_
  refine s_aload_n hZ.1 dX13_weave_8 rfl ?_
  refine s_iload_n hZ.1 dX13_weave_9 rfl ?_
  refine s_iload_n hZ.1 dX13_weave_10 rfl ?_
  refine s_callV hZ.1 (Met_X13_slotAt hZ) (Nat.le_of_ble_eq_true rfl) vy_X13_slotAt zcl13 zw3585 zw317 (Or.inl zw3583) dX13_weave_11 ?_
  refine s_istore hZ.1 dX13_weave_14 (Nat.le_of_ble_eq_true rfl) ?_
  refine s_iload hZ.1 dX13_weave_16 ?_
  refine s_bipush dX13_weave_18 (by decide +kernel) ?_
  exact s_icmp_eq dX13_weave_20 (by decide) (wX13_weave_30 hZ j hj) (wX13_weave_23 hZ j hj)
noncomputable def vhX13_weave (j : Nat → rx_K) : List rx_K := [vX13_weave_57 j, vX13_weave_235 j]
theorem vlX13_weave (hZ : zO b e D A X) : ∀ n k pc, [57, 235][k]? = some pc → rx_OK (zV b e D A X) mX13_weave 6 pc (rx_J (vhX13_weave) n k) := rx_loop fun j hj k pc h => by
  match k, h with
  | 0, h =>
    have e9 := Option.some.inj (show some 57 = some pc from h)
    subst e9
    exact wX13_weave_57 hZ j hj
  | 1, h =>
    have e9 := Option.some.inj (show some 235 = some pc from h)
    subst e9
    exact wX13_weave_235 hZ j hj
  | _ + 2, h => exact absurd h (by simp)
noncomputable def FX13_weave : List Nat → rx_H → Option (Nat × rx_H) := rx_ent 11 (vX13_weave_0 (rx_J (vhX13_weave) 4000000000))
theorem Met_X13_weave (hZ : zO b e D A X) : rx_Met (zV b e D A X) 6 yX13_weave mX13_weave (FX13_weave) := rx_entry hZ.1 (wX13_weave_0 hZ _ (vlX13_weave hZ 4000000000)) (by decide +kernel) rfl (fun h => by cases h)
abbrev mX13_init : rx_M := (RX13, cX13_init, 2, none, true)
theorem vy_X13_init : rx_Y (zV b e D A X) yX13_init mX13_init 0 := ⟨zw4107, zw431, by decide, by decide +kernel, by decide +kernel, by decide +kernel⟩
noncomputable def vX13_init_1238 (j : Nat → rx_K) : rx_K := o_ld rx_isR 0 (o_callV 0 13 FX13_given (o_ld rx_isR 0 (o_callV 0 13 FX13_settle (o_ld rx_isR 0 (o_const 34359738352 (o_putf rx_isI 13 137 (o_ret0)))))))
set_option maxRecDepth 20000 in
theorem wX13_init_1238 (hZ : zO b e D A X) (j : Nat → rx_K) (hj : ∀ k pc, [1219][k]? = some pc → rx_OK (zV b e D A X) mX13_init 6 pc (j k)) : rx_OK (zV b e D A X) mX13_init 6 1238 (vX13_init_1238 j) := by
  unfold vX13_init_1238
  refine s_aload_n hZ.1 dX13_init_1238 rfl ?_
  refine s_callV hZ.1 (Met_X13_given hZ) (Nat.le_of_ble_eq_true rfl) vy_X13_given zcl13 zw4118 zw411 (Or.inl zw4116) dX13_init_1239 ?_
  refine s_aload_n hZ.1 dX13_init_1242 rfl ?_
  refine s_callV hZ.1 (Met_X13_settle hZ) (Nat.le_of_ble_eq_true rfl) vy_X13_settle zcl13 zw3601 zw319 (Or.inl zw3599) dX13_init_1243 ?_
  refine s_aload_n hZ.1 dX13_init_1246 rfl ?_
  refine s_bipush dX13_init_1247 (by decide +kernel) ?_
  refine yp13_137 hZ.1 dX13_init_1249 zw4257 ?_
  exact s_vret rfl dX13_init_1252
noncomputable def vX13_init_1224 (j : Nat → rx_K) : rx_K := o_ld rx_isR 0 (o_getf 13 90 (o_ld rx_isI 1 (o_const 34359738352 (o_ast 0 (fun v => v) rx_isI (o_inc 1 (1) ((j 0)))))))
set_option maxRecDepth 20000 in
theorem wX13_init_1224 (hZ : zO b e D A X) (j : Nat → rx_K) (hj : ∀ k pc, [1219][k]? = some pc → rx_OK (zV b e D A X) mX13_init 6 pc (j k)) : rx_OK (zV b e D A X) mX13_init 6 1224 (vX13_init_1224 j) := by
  unfold vX13_init_1224
  refine s_aload_n hZ.1 dX13_init_1224 rfl ?_
  refine yg13_90 dX13_init_1225 zw4211 ?_
  refine s_iload_n hZ.1 dX13_init_1228 rfl ?_
  refine s_bipush dX13_init_1229 (by decide +kernel) ?_
  refine s_iast hZ.1 (tt := 0) rfl dX13_init_1231 ?_
  refine s_iinc hZ.1 dX13_init_1232 (Nat.le_of_ble_eq_true rfl) ?_
  exact s_goto dX13_init_1235 (by decide) (hj 0 1219 rfl)
noncomputable def vX13_init_1219 (j : Nat → rx_K) : rx_K := o_ld rx_isI 1 (o_const 40 (o_c2 rx_lt (vX13_init_1224 j) (vX13_init_1238 j)))
set_option maxRecDepth 20000 in
theorem wX13_init_1219 (hZ : zO b e D A X) (j : Nat → rx_K) (hj : ∀ k pc, [1219][k]? = some pc → rx_OK (zV b e D A X) mX13_init 6 pc (j k)) : rx_OK (zV b e D A X) mX13_init 6 1219 (vX13_init_1219 j) := by
  unfold vX13_init_1219
  refine s_iload_n hZ.1 dX13_init_1219 rfl ?_
  refine s_iconst dX13_init_1220 (by decide +kernel) ?_
  exact s_icmp_ge dX13_init_1221 (by decide) (wX13_init_1238 hZ j hj) (wX13_init_1224 hZ j hj)
noncomputable def vX13_init_1168 (j : Nat → rx_K) : rx_K := o_ld rx_isR 0 (o_const 240000 (o_newa 0 0 (o_putf rx_isR 13 174 (o_ld rx_isR 0 (o_const 5616 (o_newa 0 0 (o_putf rx_isR 13 176 (o_ld rx_isR 0 (o_const 5616 (o_newa 0 0 (o_putf rx_isR 13 177 (o_ld rx_isR 0 (o_const 240000 (o_newa 0 0 (o_putf rx_isR 13 178 (o_ld rx_isR 0 (o_const 14400 (o_newa 0 0 (o_putf rx_isR 13 179 (o_ld rx_isR 0 (o_callV 0 13 FX13_wordTable (o_const 0 (o_st rx_isI 1 ((vX13_init_1219 j)))))))))))))))))))))))))
set_option maxRecDepth 20000 in
theorem wX13_init_1168 (hZ : zO b e D A X) (j : Nat → rx_K) (hj : ∀ k pc, [1219][k]? = some pc → rx_OK (zV b e D A X) mX13_init 6 pc (j k)) : rx_OK (zV b e D A X) mX13_init 6 1168 (vX13_init_1168 j) := by
  unfold vX13_init_1168
  refine s_aload_n hZ.1 dX13_init_1168 rfl ?_
  refine s_sipush dX13_init_1169 (by decide +kernel) ?_
  refine s_newa (tt := 0) (ty := .int) rfl rfl rfl rfl rfl (by decide) zw527 dX13_init_1172 ?_
  refine yp13_174 hZ.1 rfl rfl dX13_init_1174 zw4294 ?_
  refine s_aload_n hZ.1 dX13_init_1177 rfl ?_
  refine s_sipush dX13_init_1178 (by decide +kernel) ?_
  refine s_newa (tt := 0) (ty := .int) rfl rfl rfl rfl rfl (by decide) zw527 dX13_init_1181 ?_
  refine yp13_176 hZ.1 rfl rfl dX13_init_1183 zw4296 ?_
  refine s_aload_n hZ.1 dX13_init_1186 rfl ?_
  refine s_sipush dX13_init_1187 (by decide +kernel) ?_
  refine s_newa (tt := 0) (ty := .int) rfl rfl rfl rfl rfl (by decide) zw527 dX13_init_1190 ?_
  refine yp13_177 hZ.1 rfl rfl dX13_init_1192 zw4297 ?_
  refine s_aload_n hZ.1 dX13_init_1195 rfl ?_
  refine s_sipush dX13_init_1196 (by decide +kernel) ?_
  refine s_newa (tt := 0) (ty := .int) rfl rfl rfl rfl rfl (by decide) zw527 dX13_init_1199 ?_
  refine yp13_178 hZ.1 rfl rfl dX13_init_1201 zw4298 ?_
  refine s_aload_n hZ.1 dX13_init_1204 rfl ?_
  refine s_sipush dX13_init_1205 (by decide +kernel) ?_
  refine s_newa (tt := 0) (ty := .int) rfl rfl rfl rfl rfl (by decide) zw527 dX13_init_1208 ?_
  refine yp13_179 hZ.1 rfl rfl dX13_init_1210 zw4299 ?_
  refine s_aload_n hZ.1 dX13_init_1213 rfl ?_
  refine s_callV hZ.1 (Met_X13_wordTable hZ) (Nat.le_of_ble_eq_true rfl) vy_X13_wordTable zcl13 zw4113 zw410 (Or.inl zw4111) dX13_init_1214 ?_
  refine s_iconst dX13_init_1217 (by decide +kernel) ?_
  refine s_istore_n hZ.1 dX13_init_1218 rfl (Nat.le_of_ble_eq_true rfl) ?_
  exact (wX13_init_1219 hZ j hj)
noncomputable def vX13_init_1115 (j : Nat → rx_K) : rx_K := o_ld rx_isR 0 (o_const 138240 (o_newa 0 0 (o_putf rx_isR 13 158 (o_ld rx_isR 0 (o_const 138240 (o_newa 0 0 (o_putf rx_isR 13 159 (o_ld rx_isR 0 (o_const 138240 (o_newa 0 0 (o_putf rx_isR 13 160 (o_ld rx_isR 0 (o_const 800 (o_newa 0 0 (o_putf rx_isR 13 168 (o_ld rx_isR 0 (o_const 1728 (o_newa 0 0 (o_putf rx_isR 13 170 (o_ld rx_isR 0 (o_const 64000 (o_newa 0 0 (o_putf rx_isR 13 172 ((vX13_init_1168 j)))))))))))))))))))))))))
set_option maxRecDepth 20000 in
theorem wX13_init_1115 (hZ : zO b e D A X) (j : Nat → rx_K) (hj : ∀ k pc, [1219][k]? = some pc → rx_OK (zV b e D A X) mX13_init 6 pc (j k)) : rx_OK (zV b e D A X) mX13_init 6 1115 (vX13_init_1115 j) := by
  unfold vX13_init_1115
  refine s_aload_n hZ.1 dX13_init_1115 rfl ?_
  refine s_sipush dX13_init_1116 (by decide +kernel) ?_
  refine s_newa (tt := 0) (ty := .int) rfl rfl rfl rfl rfl (by decide) zw527 dX13_init_1119 ?_
  refine yp13_158 hZ.1 rfl rfl dX13_init_1121 zw4278 ?_
  refine s_aload_n hZ.1 dX13_init_1124 rfl ?_
  refine s_sipush dX13_init_1125 (by decide +kernel) ?_
  refine s_newa (tt := 0) (ty := .int) rfl rfl rfl rfl rfl (by decide) zw527 dX13_init_1128 ?_
  refine yp13_159 hZ.1 rfl rfl dX13_init_1130 zw4279 ?_
  refine s_aload_n hZ.1 dX13_init_1133 rfl ?_
  refine s_sipush dX13_init_1134 (by decide +kernel) ?_
  refine s_newa (tt := 0) (ty := .int) rfl rfl rfl rfl rfl (by decide) zw527 dX13_init_1137 ?_
  refine yp13_160 hZ.1 rfl rfl dX13_init_1139 zw4280 ?_
  refine s_aload_n hZ.1 dX13_init_1142 rfl ?_
  refine s_bipush dX13_init_1143 (by decide +kernel) ?_
  refine s_newa (tt := 0) (ty := .int) rfl rfl rfl rfl rfl (by decide) zw527 dX13_init_1145 ?_
  refine yp13_168 hZ.1 rfl rfl dX13_init_1147 zw4288 ?_
  refine s_aload_n hZ.1 dX13_init_1150 rfl ?_
  refine s_sipush dX13_init_1151 (by decide +kernel) ?_
  refine s_newa (tt := 0) (ty := .int) rfl rfl rfl rfl rfl (by decide) zw527 dX13_init_1154 ?_
  refine yp13_170 hZ.1 rfl rfl dX13_init_1156 zw4290 ?_
  refine s_aload_n hZ.1 dX13_init_1159 rfl ?_
  refine s_sipush dX13_init_1160 (by decide +kernel) ?_
  refine s_newa (tt := 0) (ty := .int) rfl rfl rfl rfl rfl (by decide) zw527 dX13_init_1163 ?_
  refine yp13_172 hZ.1 rfl rfl dX13_init_1165 zw4292 ?_
  exact (wX13_init_1168 hZ j hj)
noncomputable def vX13_init_1061 (j : Nat → rx_K) : rx_K := o_ld rx_isR 0 (o_const 1616 (o_newa 0 0 (o_putf rx_isR 13 149 (o_ld rx_isR 0 (o_const 1616 (o_newa 0 0 (o_putf rx_isR 13 150 (o_ld rx_isR 0 (o_const 16008 (o_newa 0 0 (o_putf rx_isR 13 152 (o_ld rx_isR 0 (o_const 49920 (o_newa 0 0 (o_putf rx_isR 13 154 (o_ld rx_isR 0 (o_const 138240 (o_newa 0 0 (o_putf rx_isR 13 156 (o_ld rx_isR 0 (o_const 138240 (o_newa 0 0 (o_putf rx_isR 13 157 ((vX13_init_1115 j)))))))))))))))))))))))))
set_option maxRecDepth 20000 in
theorem wX13_init_1061 (hZ : zO b e D A X) (j : Nat → rx_K) (hj : ∀ k pc, [1219][k]? = some pc → rx_OK (zV b e D A X) mX13_init 6 pc (j k)) : rx_OK (zV b e D A X) mX13_init 6 1061 (vX13_init_1061 j) := by
  unfold vX13_init_1061
  refine s_aload_n hZ.1 dX13_init_1061 rfl ?_
  refine s_sipush dX13_init_1062 (by decide +kernel) ?_
  refine s_newa (tt := 0) (ty := .int) rfl rfl rfl rfl rfl (by decide) zw527 dX13_init_1065 ?_
  refine yp13_149 hZ.1 rfl rfl dX13_init_1067 zw4269 ?_
  refine s_aload_n hZ.1 dX13_init_1070 rfl ?_
  refine s_sipush dX13_init_1071 (by decide +kernel) ?_
  refine s_newa (tt := 0) (ty := .int) rfl rfl rfl rfl rfl (by decide) zw527 dX13_init_1074 ?_
  refine yp13_150 hZ.1 rfl rfl dX13_init_1076 zw4270 ?_
  refine s_aload_n hZ.1 dX13_init_1079 rfl ?_
  refine s_sipush dX13_init_1080 (by decide +kernel) ?_
  refine s_newa (tt := 0) (ty := .int) rfl rfl rfl rfl rfl (by decide) zw527 dX13_init_1083 ?_
  refine yp13_152 hZ.1 rfl rfl dX13_init_1085 zw4272 ?_
  refine s_aload_n hZ.1 dX13_init_1088 rfl ?_
  refine s_sipush dX13_init_1089 (by decide +kernel) ?_
  refine s_newa (tt := 0) (ty := .int) rfl rfl rfl rfl rfl (by decide) zw527 dX13_init_1092 ?_
  refine yp13_154 hZ.1 rfl rfl dX13_init_1094 zw4274 ?_
  refine s_aload_n hZ.1 dX13_init_1097 rfl ?_
  refine s_sipush dX13_init_1098 (by decide +kernel) ?_
  refine s_newa (tt := 0) (ty := .int) rfl rfl rfl rfl rfl (by decide) zw527 dX13_init_1101 ?_
  refine yp13_156 hZ.1 rfl rfl dX13_init_1103 zw4276 ?_
  refine s_aload_n hZ.1 dX13_init_1106 rfl ?_
  refine s_sipush dX13_init_1107 (by decide +kernel) ?_
  refine s_newa (tt := 0) (ty := .int) rfl rfl rfl rfl rfl (by decide) zw527 dX13_init_1110 ?_
  refine yp13_157 hZ.1 rfl rfl dX13_init_1112 zw4277 ?_
  exact (wX13_init_1115 hZ j hj)
noncomputable def vX13_init_1011 (j : Nat → rx_K) : rx_K := o_ld rx_isR 0 (o_const 1728 (o_newa 0 0 (o_putf rx_isR 13 141 (o_ld rx_isR 0 (o_const 1728 (o_newa 0 0 (o_putf rx_isR 13 143 (o_ld rx_isR 0 (o_const 216000 (o_newa 0 0 (o_putf rx_isR 13 144 (o_ld rx_isR 0 (o_const 40 (o_newa 0 0 (o_putf rx_isR 13 146 (o_ld rx_isR 0 (o_const 40 (o_newa 0 0 (o_putf rx_isR 13 147 (o_ld rx_isR 0 (o_const 58752 (o_newa 0 0 (o_putf rx_isR 13 148 ((vX13_init_1061 j)))))))))))))))))))))))))
set_option maxRecDepth 20000 in
theorem wX13_init_1011 (hZ : zO b e D A X) (j : Nat → rx_K) (hj : ∀ k pc, [1219][k]? = some pc → rx_OK (zV b e D A X) mX13_init 6 pc (j k)) : rx_OK (zV b e D A X) mX13_init 6 1011 (vX13_init_1011 j) := by
  unfold vX13_init_1011
  refine s_aload_n hZ.1 dX13_init_1011 rfl ?_
  refine s_sipush dX13_init_1012 (by decide +kernel) ?_
  refine s_newa (tt := 0) (ty := .int) rfl rfl rfl rfl rfl (by decide) zw527 dX13_init_1015 ?_
  refine yp13_141 hZ.1 rfl rfl dX13_init_1017 zw4261 ?_
  refine s_aload_n hZ.1 dX13_init_1020 rfl ?_
  refine s_sipush dX13_init_1021 (by decide +kernel) ?_
  refine s_newa (tt := 0) (ty := .int) rfl rfl rfl rfl rfl (by decide) zw527 dX13_init_1024 ?_
  refine yp13_143 hZ.1 rfl rfl dX13_init_1026 zw4263 ?_
  refine s_aload_n hZ.1 dX13_init_1029 rfl ?_
  refine s_sipush dX13_init_1030 (by decide +kernel) ?_
  refine s_newa (tt := 0) (ty := .int) rfl rfl rfl rfl rfl (by decide) zw527 dX13_init_1033 ?_
  refine yp13_144 hZ.1 rfl rfl dX13_init_1035 zw4264 ?_
  refine s_aload_n hZ.1 dX13_init_1038 rfl ?_
  refine s_iconst dX13_init_1039 (by decide +kernel) ?_
  refine s_newa (tt := 0) (ty := .int) rfl rfl rfl rfl rfl (by decide) zw527 dX13_init_1040 ?_
  refine yp13_146 hZ.1 rfl rfl dX13_init_1042 zw4266 ?_
  refine s_aload_n hZ.1 dX13_init_1045 rfl ?_
  refine s_iconst dX13_init_1046 (by decide +kernel) ?_
  refine s_newa (tt := 0) (ty := .int) rfl rfl rfl rfl rfl (by decide) zw527 dX13_init_1047 ?_
  refine yp13_147 hZ.1 rfl rfl dX13_init_1049 zw4267 ?_
  refine s_aload_n hZ.1 dX13_init_1052 rfl ?_
  refine s_sipush dX13_init_1053 (by decide +kernel) ?_
  refine s_newa (tt := 0) (ty := .int) rfl rfl rfl rfl rfl (by decide) zw527 dX13_init_1056 ?_
  refine yp13_148 hZ.1 rfl rfl dX13_init_1058 zw4268 ?_
  exact (wX13_init_1061 hZ j hj)
noncomputable def vX13_init_958 (j : Nat → rx_K) : rx_K := o_ld rx_isR 0 (o_const 512 (o_newa 0 0 (o_putf rx_isR 13 130 (o_ld rx_isR 0 (o_const 1728 (o_newa 0 0 (o_putf rx_isR 13 131 (o_ld rx_isR 0 (o_const 1024 (o_newa 0 0 (o_putf rx_isR 13 132 (o_ld rx_isR 0 (o_const 1024 (o_newa 0 0 (o_putf rx_isR 13 133 (o_ld rx_isR 0 (o_const 4800 (o_newa 0 0 (o_putf rx_isR 13 135 (o_ld rx_isR 0 (o_const 1728 (o_newa 0 0 (o_putf rx_isR 13 138 ((vX13_init_1011 j)))))))))))))))))))))))))
set_option maxRecDepth 20000 in
theorem wX13_init_958 (hZ : zO b e D A X) (j : Nat → rx_K) (hj : ∀ k pc, [1219][k]? = some pc → rx_OK (zV b e D A X) mX13_init 6 pc (j k)) : rx_OK (zV b e D A X) mX13_init 6 958 (vX13_init_958 j) := by
  unfold vX13_init_958
  refine s_aload_n hZ.1 dX13_init_958 rfl ?_
  refine s_bipush dX13_init_959 (by decide +kernel) ?_
  refine s_newa (tt := 0) (ty := .int) rfl rfl rfl rfl rfl (by decide) zw527 dX13_init_961 ?_
  refine yp13_130 hZ.1 rfl rfl dX13_init_963 zw4250 ?_
  refine s_aload_n hZ.1 dX13_init_966 rfl ?_
  refine s_sipush dX13_init_967 (by decide +kernel) ?_
  refine s_newa (tt := 0) (ty := .int) rfl rfl rfl rfl rfl (by decide) zw527 dX13_init_970 ?_
  refine yp13_131 hZ.1 rfl rfl dX13_init_972 zw4251 ?_
  refine s_aload_n hZ.1 dX13_init_975 rfl ?_
  refine s_sipush dX13_init_976 (by decide +kernel) ?_
  refine s_newa (tt := 0) (ty := .int) rfl rfl rfl rfl rfl (by decide) zw527 dX13_init_979 ?_
  refine yp13_132 hZ.1 rfl rfl dX13_init_981 zw4252 ?_
  refine s_aload_n hZ.1 dX13_init_984 rfl ?_
  refine s_sipush dX13_init_985 (by decide +kernel) ?_
  refine s_newa (tt := 0) (ty := .int) rfl rfl rfl rfl rfl (by decide) zw527 dX13_init_988 ?_
  refine yp13_133 hZ.1 rfl rfl dX13_init_990 zw4253 ?_
  refine s_aload_n hZ.1 dX13_init_993 rfl ?_
  refine s_sipush dX13_init_994 (by decide +kernel) ?_
  refine s_newa (tt := 0) (ty := .int) rfl rfl rfl rfl rfl (by decide) zw527 dX13_init_997 ?_
  refine yp13_135 hZ.1 rfl rfl dX13_init_999 zw4255 ?_
  refine s_aload_n hZ.1 dX13_init_1002 rfl ?_
  refine s_sipush dX13_init_1003 (by decide +kernel) ?_
  refine s_newa (tt := 0) (ty := .int) rfl rfl rfl rfl rfl (by decide) zw527 dX13_init_1006 ?_
  refine yp13_138 hZ.1 rfl rfl dX13_init_1008 zw4258 ?_
  exact (wX13_init_1011 hZ j hj)
noncomputable def vX13_init_904 (j : Nat → rx_K) : rx_K := o_putf rx_isR 13 122 (o_ld rx_isR 0 (o_const 244800 (o_newa 1 1 (o_putf rx_isR 13 123 (o_ld rx_isR 0 (o_const 244800 (o_newa 0 0 (o_putf rx_isR 13 124 (o_ld rx_isR 0 (o_const 979200 (o_newa 1 1 (o_putf rx_isR 13 125 (o_ld rx_isR 0 (o_const 244800 (o_newa 1 1 (o_putf rx_isR 13 126 (o_ld rx_isR 0 (o_const 244800 (o_newa 0 0 (o_putf rx_isR 13 127 (o_ld rx_isR 0 (o_const 34359738352 (o_putf rx_isI 13 128 ((vX13_init_958 j)))))))))))))))))))))))))
set_option maxRecDepth 20000 in
theorem wX13_init_904 (hZ : zO b e D A X) (j : Nat → rx_K) (hj : ∀ k pc, [1219][k]? = some pc → rx_OK (zV b e D A X) mX13_init 6 pc (j k)) : rx_OK (zV b e D A X) mX13_init 6 904 (vX13_init_904 j) := by
  unfold vX13_init_904
  refine yp13_122 hZ.1 rfl rfl dX13_init_904 zw4242 ?_
  refine s_aload_n hZ.1 dX13_init_907 rfl ?_
  refine s_sipush dX13_init_908 (by decide +kernel) ?_
  refine s_newa (tt := 1) (ty := .long) rfl rfl rfl rfl rfl (by decide) zw528 dX13_init_911 ?_
  refine yp13_123 hZ.1 rfl rfl dX13_init_913 zw4243 ?_
  refine s_aload_n hZ.1 dX13_init_916 rfl ?_
  refine s_sipush dX13_init_917 (by decide +kernel) ?_
  refine s_newa (tt := 0) (ty := .int) rfl rfl rfl rfl rfl (by decide) zw527 dX13_init_920 ?_
  refine yp13_124 hZ.1 rfl rfl dX13_init_922 zw4244 ?_
  refine s_aload_n hZ.1 dX13_init_925 rfl ?_
  refine s_ldcw dX13_init_926 zw4110 (by decide +kernel) ?_
  refine s_newa (tt := 1) (ty := .long) rfl rfl rfl rfl rfl (by decide) zw528 dX13_init_929 ?_
  refine yp13_125 hZ.1 rfl rfl dX13_init_931 zw4245 ?_
  refine s_aload_n hZ.1 dX13_init_934 rfl ?_
  refine s_sipush dX13_init_935 (by decide +kernel) ?_
  refine s_newa (tt := 1) (ty := .long) rfl rfl rfl rfl rfl (by decide) zw528 dX13_init_938 ?_
  refine yp13_126 hZ.1 rfl rfl dX13_init_940 zw4246 ?_
  refine s_aload_n hZ.1 dX13_init_943 rfl ?_
  refine s_sipush dX13_init_944 (by decide +kernel) ?_
  refine s_newa (tt := 0) (ty := .int) rfl rfl rfl rfl rfl (by decide) zw527 dX13_init_947 ?_
  refine yp13_127 hZ.1 rfl rfl dX13_init_949 zw4247 ?_
  refine s_aload_n hZ.1 dX13_init_952 rfl ?_
  refine s_bipush dX13_init_953 (by decide +kernel) ?_
  refine yp13_128 hZ.1 dX13_init_955 zw4248 ?_
  exact (wX13_init_958 hZ j hj)
noncomputable def vX13_init_851 (j : Nat → rx_K) : rx_K := o_putf rx_isR 13 115 (o_ld rx_isR 0 (o_const 1728 (o_newa 0 0 (o_putf rx_isR 13 117 (o_ld rx_isR 0 (o_const 136 (o_newa 0 0 (o_putf rx_isR 13 118 (o_ld rx_isR 0 (o_const 244800 (o_newa 0 0 (o_putf rx_isR 13 119 (o_ld rx_isR 0 (o_const 244800 (o_newa 0 0 (o_putf rx_isR 13 120 (o_ld rx_isR 0 (o_const 244800 (o_newa 1 1 (o_putf rx_isR 13 121 (o_ld rx_isR 0 (o_const 244800 (o_newa 1 1 ((vX13_init_904 j)))))))))))))))))))))))))
set_option maxRecDepth 20000 in
theorem wX13_init_851 (hZ : zO b e D A X) (j : Nat → rx_K) (hj : ∀ k pc, [1219][k]? = some pc → rx_OK (zV b e D A X) mX13_init 6 pc (j k)) : rx_OK (zV b e D A X) mX13_init 6 851 (vX13_init_851 j) := by
  unfold vX13_init_851
  refine yp13_115 hZ.1 rfl rfl dX13_init_851 zw4235 ?_
  refine s_aload_n hZ.1 dX13_init_854 rfl ?_
  refine s_sipush dX13_init_855 (by decide +kernel) ?_
  refine s_newa (tt := 0) (ty := .int) rfl rfl rfl rfl rfl (by decide) zw527 dX13_init_858 ?_
  refine yp13_117 hZ.1 rfl rfl dX13_init_860 zw4237 ?_
  refine s_aload_n hZ.1 dX13_init_863 rfl ?_
  refine s_bipush dX13_init_864 (by decide +kernel) ?_
  refine s_newa (tt := 0) (ty := .int) rfl rfl rfl rfl rfl (by decide) zw527 dX13_init_866 ?_
  refine yp13_118 hZ.1 rfl rfl dX13_init_868 zw4238 ?_
  refine s_aload_n hZ.1 dX13_init_871 rfl ?_
  refine s_sipush dX13_init_872 (by decide +kernel) ?_
  refine s_newa (tt := 0) (ty := .int) rfl rfl rfl rfl rfl (by decide) zw527 dX13_init_875 ?_
  refine yp13_119 hZ.1 rfl rfl dX13_init_877 zw4239 ?_
  refine s_aload_n hZ.1 dX13_init_880 rfl ?_
  refine s_sipush dX13_init_881 (by decide +kernel) ?_
  refine s_newa (tt := 0) (ty := .int) rfl rfl rfl rfl rfl (by decide) zw527 dX13_init_884 ?_
  refine yp13_120 hZ.1 rfl rfl dX13_init_886 zw4240 ?_
  refine s_aload_n hZ.1 dX13_init_889 rfl ?_
  refine s_sipush dX13_init_890 (by decide +kernel) ?_
  refine s_newa (tt := 1) (ty := .long) rfl rfl rfl rfl rfl (by decide) zw528 dX13_init_893 ?_
  refine yp13_121 hZ.1 rfl rfl dX13_init_895 zw4241 ?_
  refine s_aload_n hZ.1 dX13_init_898 rfl ?_
  refine s_sipush dX13_init_899 (by decide +kernel) ?_
  refine s_newa (tt := 1) (ty := .long) rfl rfl rfl rfl rfl (by decide) zw528 dX13_init_902 ?_
  exact (wX13_init_904 hZ j hj)
noncomputable def vX13_init_797 (j : Nat → rx_K) : rx_K := o_putf rx_isR 13 103 (o_ld rx_isR 0 (o_const 1728 (o_newa 0 0 (o_putf rx_isR 13 105 (o_ld rx_isR 0 (o_const 1728 (o_newa 0 0 (o_putf rx_isR 13 106 (o_ld rx_isR 0 (o_const 13632 (o_newa 0 0 (o_putf rx_isR 13 107 (o_ld rx_isR 0 (o_const 5760 (o_newa 1 1 (o_putf rx_isR 13 112 (o_ld rx_isR 0 (o_const 5760 (o_newa 1 1 (o_putf rx_isR 13 113 (o_ld rx_isR 0 (o_const 3456 (o_newa 0 0 ((vX13_init_851 j)))))))))))))))))))))))))
set_option maxRecDepth 20000 in
theorem wX13_init_797 (hZ : zO b e D A X) (j : Nat → rx_K) (hj : ∀ k pc, [1219][k]? = some pc → rx_OK (zV b e D A X) mX13_init 6 pc (j k)) : rx_OK (zV b e D A X) mX13_init 6 797 (vX13_init_797 j) := by
  unfold vX13_init_797
  refine yp13_103 hZ.1 rfl rfl dX13_init_797 zw4223 ?_
  refine s_aload_n hZ.1 dX13_init_800 rfl ?_
  refine s_sipush dX13_init_801 (by decide +kernel) ?_
  refine s_newa (tt := 0) (ty := .int) rfl rfl rfl rfl rfl (by decide) zw527 dX13_init_804 ?_
  refine yp13_105 hZ.1 rfl rfl dX13_init_806 zw4225 ?_
  refine s_aload_n hZ.1 dX13_init_809 rfl ?_
  refine s_sipush dX13_init_810 (by decide +kernel) ?_
  refine s_newa (tt := 0) (ty := .int) rfl rfl rfl rfl rfl (by decide) zw527 dX13_init_813 ?_
  refine yp13_106 hZ.1 rfl rfl dX13_init_815 zw4226 ?_
  refine s_aload_n hZ.1 dX13_init_818 rfl ?_
  refine s_sipush dX13_init_819 (by decide +kernel) ?_
  refine s_newa (tt := 0) (ty := .int) rfl rfl rfl rfl rfl (by decide) zw527 dX13_init_822 ?_
  refine yp13_107 hZ.1 rfl rfl dX13_init_824 zw4227 ?_
  refine s_aload_n hZ.1 dX13_init_827 rfl ?_
  refine s_sipush dX13_init_828 (by decide +kernel) ?_
  refine s_newa (tt := 1) (ty := .long) rfl rfl rfl rfl rfl (by decide) zw528 dX13_init_831 ?_
  refine yp13_112 hZ.1 rfl rfl dX13_init_833 zw4232 ?_
  refine s_aload_n hZ.1 dX13_init_836 rfl ?_
  refine s_sipush dX13_init_837 (by decide +kernel) ?_
  refine s_newa (tt := 1) (ty := .long) rfl rfl rfl rfl rfl (by decide) zw528 dX13_init_840 ?_
  refine yp13_113 hZ.1 rfl rfl dX13_init_842 zw4233 ?_
  refine s_aload_n hZ.1 dX13_init_845 rfl ?_
  refine s_sipush dX13_init_846 (by decide +kernel) ?_
  refine s_newa (tt := 0) (ty := .int) rfl rfl rfl rfl rfl (by decide) zw527 dX13_init_849 ?_
  exact (wX13_init_851 hZ j hj)
noncomputable def vX13_init_743 (j : Nat → rx_K) : rx_K := o_putf rx_isR 13 93 (o_ld rx_isR 0 (o_const 1728 (o_newa 0 0 (o_putf rx_isR 13 94 (o_ld rx_isR 0 (o_const 32000 (o_newa 0 0 (o_putf rx_isR 13 96 (o_ld rx_isR 0 (o_const 1728 (o_newa 0 0 (o_putf rx_isR 13 97 (o_ld rx_isR 0 (o_const 1728 (o_newa 0 0 (o_putf rx_isR 13 99 (o_ld rx_isR 0 (o_const 1728 (o_newa 0 0 (o_putf rx_isR 13 100 (o_ld rx_isR 0 (o_const 3456 (o_newa 0 0 ((vX13_init_797 j)))))))))))))))))))))))))
set_option maxRecDepth 20000 in
theorem wX13_init_743 (hZ : zO b e D A X) (j : Nat → rx_K) (hj : ∀ k pc, [1219][k]? = some pc → rx_OK (zV b e D A X) mX13_init 6 pc (j k)) : rx_OK (zV b e D A X) mX13_init 6 743 (vX13_init_743 j) := by
  unfold vX13_init_743
  refine yp13_93 hZ.1 rfl rfl dX13_init_743 zw4214 ?_
  refine s_aload_n hZ.1 dX13_init_746 rfl ?_
  refine s_sipush dX13_init_747 (by decide +kernel) ?_
  refine s_newa (tt := 0) (ty := .int) rfl rfl rfl rfl rfl (by decide) zw527 dX13_init_750 ?_
  refine yp13_94 hZ.1 rfl rfl dX13_init_752 zw4215 ?_
  refine s_aload_n hZ.1 dX13_init_755 rfl ?_
  refine s_sipush dX13_init_756 (by decide +kernel) ?_
  refine s_newa (tt := 0) (ty := .int) rfl rfl rfl rfl rfl (by decide) zw527 dX13_init_759 ?_
  refine yp13_96 hZ.1 rfl rfl dX13_init_761 zw4217 ?_
  refine s_aload_n hZ.1 dX13_init_764 rfl ?_
  refine s_sipush dX13_init_765 (by decide +kernel) ?_
  refine s_newa (tt := 0) (ty := .int) rfl rfl rfl rfl rfl (by decide) zw527 dX13_init_768 ?_
  refine yp13_97 hZ.1 rfl rfl dX13_init_770 zw4218 ?_
  refine s_aload_n hZ.1 dX13_init_773 rfl ?_
  refine s_sipush dX13_init_774 (by decide +kernel) ?_
  refine s_newa (tt := 0) (ty := .int) rfl rfl rfl rfl rfl (by decide) zw527 dX13_init_777 ?_
  refine yp13_99 hZ.1 rfl rfl dX13_init_779 zw4220 ?_
  refine s_aload_n hZ.1 dX13_init_782 rfl ?_
  refine s_sipush dX13_init_783 (by decide +kernel) ?_
  refine s_newa (tt := 0) (ty := .int) rfl rfl rfl rfl rfl (by decide) zw527 dX13_init_786 ?_
  refine yp13_100 hZ.1 rfl rfl dX13_init_788 zw4221 ?_
  refine s_aload_n hZ.1 dX13_init_791 rfl ?_
  refine s_sipush dX13_init_792 (by decide +kernel) ?_
  refine s_newa (tt := 0) (ty := .int) rfl rfl rfl rfl rfl (by decide) zw527 dX13_init_795 ?_
  exact (wX13_init_797 hZ j hj)
noncomputable def vX13_init_692 (j : Nat → rx_K) : rx_K := o_newa 0 0 (o_putf rx_isR 13 85 (o_ld rx_isR 0 (o_const 979200 (o_newa 1 1 (o_putf rx_isR 13 86 (o_ld rx_isR 0 (o_const 244800 (o_newa 0 0 (o_putf rx_isR 13 87 (o_ld rx_isR 0 (o_const 244800 (o_newa 0 0 (o_putf rx_isR 13 88 (o_ld rx_isR 0 (o_const 40 (o_newa 0 0 (o_putf rx_isR 13 90 (o_ld rx_isR 0 (o_const 34359738352 (o_putf rx_isI 13 91 (o_ld rx_isR 0 (o_const 1728 (o_newa 0 0 ((vX13_init_743 j)))))))))))))))))))))))))
set_option maxRecDepth 20000 in
theorem wX13_init_692 (hZ : zO b e D A X) (j : Nat → rx_K) (hj : ∀ k pc, [1219][k]? = some pc → rx_OK (zV b e D A X) mX13_init 6 pc (j k)) : rx_OK (zV b e D A X) mX13_init 6 692 (vX13_init_692 j) := by
  unfold vX13_init_692
  refine s_newa (tt := 0) (ty := .int) rfl rfl rfl rfl rfl (by decide) zw527 dX13_init_692 ?_
  refine yp13_85 hZ.1 rfl rfl dX13_init_694 zw4206 ?_
  refine s_aload_n hZ.1 dX13_init_697 rfl ?_
  refine s_ldcw dX13_init_698 zw4110 (by decide +kernel) ?_
  refine s_newa (tt := 1) (ty := .long) rfl rfl rfl rfl rfl (by decide) zw528 dX13_init_701 ?_
  refine yp13_86 hZ.1 rfl rfl dX13_init_703 zw4207 ?_
  refine s_aload_n hZ.1 dX13_init_706 rfl ?_
  refine s_sipush dX13_init_707 (by decide +kernel) ?_
  refine s_newa (tt := 0) (ty := .int) rfl rfl rfl rfl rfl (by decide) zw527 dX13_init_710 ?_
  refine yp13_87 hZ.1 rfl rfl dX13_init_712 zw4208 ?_
  refine s_aload_n hZ.1 dX13_init_715 rfl ?_
  refine s_sipush dX13_init_716 (by decide +kernel) ?_
  refine s_newa (tt := 0) (ty := .int) rfl rfl rfl rfl rfl (by decide) zw527 dX13_init_719 ?_
  refine yp13_88 hZ.1 rfl rfl dX13_init_721 zw4209 ?_
  refine s_aload_n hZ.1 dX13_init_724 rfl ?_
  refine s_iconst dX13_init_725 (by decide +kernel) ?_
  refine s_newa (tt := 0) (ty := .int) rfl rfl rfl rfl rfl (by decide) zw527 dX13_init_726 ?_
  refine yp13_90 hZ.1 rfl rfl dX13_init_728 zw4211 ?_
  refine s_aload_n hZ.1 dX13_init_731 rfl ?_
  refine s_bipush dX13_init_732 (by decide +kernel) ?_
  refine yp13_91 hZ.1 dX13_init_734 zw4212 ?_
  refine s_aload_n hZ.1 dX13_init_737 rfl ?_
  refine s_sipush dX13_init_738 (by decide +kernel) ?_
  refine s_newa (tt := 0) (ty := .int) rfl rfl rfl rfl rfl (by decide) zw527 dX13_init_741 ?_
  exact (wX13_init_743 hZ j hj)
noncomputable def vX13_init_638 (j : Nat → rx_K) : rx_K := o_newa 0 0 (o_putf rx_isR 13 79 (o_ld rx_isR 0 (o_const 244800 (o_newa 0 0 (o_putf rx_isR 13 80 (o_ld rx_isR 0 (o_const 244800 (o_newa 0 0 (o_putf rx_isR 13 81 (o_ld rx_isR 0 (o_const 244800 (o_newa 0 0 (o_putf rx_isR 13 82 (o_ld rx_isR 0 (o_const 244800 (o_newa 1 1 (o_putf rx_isR 13 83 (o_ld rx_isR 0 (o_const 244800 (o_newa 1 1 (o_putf rx_isR 13 84 (o_ld rx_isR 0 (o_const 244800 ((vX13_init_692 j)))))))))))))))))))))))))
set_option maxRecDepth 20000 in
theorem wX13_init_638 (hZ : zO b e D A X) (j : Nat → rx_K) (hj : ∀ k pc, [1219][k]? = some pc → rx_OK (zV b e D A X) mX13_init 6 pc (j k)) : rx_OK (zV b e D A X) mX13_init 6 638 (vX13_init_638 j) := by
  unfold vX13_init_638
  refine s_newa (tt := 0) (ty := .int) rfl rfl rfl rfl rfl (by decide) zw527 dX13_init_638 ?_
  refine yp13_79 hZ.1 rfl rfl dX13_init_640 zw4200 ?_
  refine s_aload_n hZ.1 dX13_init_643 rfl ?_
  refine s_sipush dX13_init_644 (by decide +kernel) ?_
  refine s_newa (tt := 0) (ty := .int) rfl rfl rfl rfl rfl (by decide) zw527 dX13_init_647 ?_
  refine yp13_80 hZ.1 rfl rfl dX13_init_649 zw4201 ?_
  refine s_aload_n hZ.1 dX13_init_652 rfl ?_
  refine s_sipush dX13_init_653 (by decide +kernel) ?_
  refine s_newa (tt := 0) (ty := .int) rfl rfl rfl rfl rfl (by decide) zw527 dX13_init_656 ?_
  refine yp13_81 hZ.1 rfl rfl dX13_init_658 zw4202 ?_
  refine s_aload_n hZ.1 dX13_init_661 rfl ?_
  refine s_sipush dX13_init_662 (by decide +kernel) ?_
  refine s_newa (tt := 0) (ty := .int) rfl rfl rfl rfl rfl (by decide) zw527 dX13_init_665 ?_
  refine yp13_82 hZ.1 rfl rfl dX13_init_667 zw4203 ?_
  refine s_aload_n hZ.1 dX13_init_670 rfl ?_
  refine s_sipush dX13_init_671 (by decide +kernel) ?_
  refine s_newa (tt := 1) (ty := .long) rfl rfl rfl rfl rfl (by decide) zw528 dX13_init_674 ?_
  refine yp13_83 hZ.1 rfl rfl dX13_init_676 zw4204 ?_
  refine s_aload_n hZ.1 dX13_init_679 rfl ?_
  refine s_sipush dX13_init_680 (by decide +kernel) ?_
  refine s_newa (tt := 1) (ty := .long) rfl rfl rfl rfl rfl (by decide) zw528 dX13_init_683 ?_
  refine yp13_84 hZ.1 rfl rfl dX13_init_685 zw4205 ?_
  refine s_aload_n hZ.1 dX13_init_688 rfl ?_
  refine s_sipush dX13_init_689 (by decide +kernel) ?_
  exact (wX13_init_692 hZ j hj)
noncomputable def vX13_init_584 (j : Nat → rx_K) : rx_K := o_newa 0 0 (o_putf rx_isR 13 73 (o_ld rx_isR 0 (o_const 244800 (o_newa 1 1 (o_putf rx_isR 13 74 (o_ld rx_isR 0 (o_const 244800 (o_newa 1 1 (o_putf rx_isR 13 75 (o_ld rx_isR 0 (o_const 244800 (o_newa 1 1 (o_putf rx_isR 13 76 (o_ld rx_isR 0 (o_const 244800 (o_newa 0 0 (o_putf rx_isR 13 77 (o_ld rx_isR 0 (o_const 244800 (o_newa 0 0 (o_putf rx_isR 13 78 (o_ld rx_isR 0 (o_const 244800 ((vX13_init_638 j)))))))))))))))))))))))))
set_option maxRecDepth 20000 in
theorem wX13_init_584 (hZ : zO b e D A X) (j : Nat → rx_K) (hj : ∀ k pc, [1219][k]? = some pc → rx_OK (zV b e D A X) mX13_init 6 pc (j k)) : rx_OK (zV b e D A X) mX13_init 6 584 (vX13_init_584 j) := by
  unfold vX13_init_584
  refine s_newa (tt := 0) (ty := .int) rfl rfl rfl rfl rfl (by decide) zw527 dX13_init_584 ?_
  refine yp13_73 hZ.1 rfl rfl dX13_init_586 zw4194 ?_
  refine s_aload_n hZ.1 dX13_init_589 rfl ?_
  refine s_sipush dX13_init_590 (by decide +kernel) ?_
  refine s_newa (tt := 1) (ty := .long) rfl rfl rfl rfl rfl (by decide) zw528 dX13_init_593 ?_
  refine yp13_74 hZ.1 rfl rfl dX13_init_595 zw4195 ?_
  refine s_aload_n hZ.1 dX13_init_598 rfl ?_
  refine s_sipush dX13_init_599 (by decide +kernel) ?_
  refine s_newa (tt := 1) (ty := .long) rfl rfl rfl rfl rfl (by decide) zw528 dX13_init_602 ?_
  refine yp13_75 hZ.1 rfl rfl dX13_init_604 zw4196 ?_
  refine s_aload_n hZ.1 dX13_init_607 rfl ?_
  refine s_sipush dX13_init_608 (by decide +kernel) ?_
  refine s_newa (tt := 1) (ty := .long) rfl rfl rfl rfl rfl (by decide) zw528 dX13_init_611 ?_
  refine yp13_76 hZ.1 rfl rfl dX13_init_613 zw4197 ?_
  refine s_aload_n hZ.1 dX13_init_616 rfl ?_
  refine s_sipush dX13_init_617 (by decide +kernel) ?_
  refine s_newa (tt := 0) (ty := .int) rfl rfl rfl rfl rfl (by decide) zw527 dX13_init_620 ?_
  refine yp13_77 hZ.1 rfl rfl dX13_init_622 zw4198 ?_
  refine s_aload_n hZ.1 dX13_init_625 rfl ?_
  refine s_sipush dX13_init_626 (by decide +kernel) ?_
  refine s_newa (tt := 0) (ty := .int) rfl rfl rfl rfl rfl (by decide) zw527 dX13_init_629 ?_
  refine yp13_78 hZ.1 rfl rfl dX13_init_631 zw4199 ?_
  refine s_aload_n hZ.1 dX13_init_634 rfl ?_
  refine s_sipush dX13_init_635 (by decide +kernel) ?_
  exact (wX13_init_638 hZ j hj)
noncomputable def vX13_init_531 (j : Nat → rx_K) : rx_K := o_newa 0 0 (o_putf rx_isR 13 67 (o_ld rx_isR 0 (o_const 58752 (o_newa 0 0 (o_putf rx_isR 13 68 (o_ld rx_isR 0 (o_const 144 (o_newa 0 0 (o_putf rx_isR 13 69 (o_ld rx_isR 0 (o_const 244800 (o_newa 0 0 (o_putf rx_isR 13 70 (o_ld rx_isR 0 (o_const 244800 (o_newa 0 0 (o_putf rx_isR 13 71 (o_ld rx_isR 0 (o_const 244800 (o_newa 0 0 (o_putf rx_isR 13 72 (o_ld rx_isR 0 (o_const 244800 ((vX13_init_584 j)))))))))))))))))))))))))
set_option maxRecDepth 20000 in
theorem wX13_init_531 (hZ : zO b e D A X) (j : Nat → rx_K) (hj : ∀ k pc, [1219][k]? = some pc → rx_OK (zV b e D A X) mX13_init 6 pc (j k)) : rx_OK (zV b e D A X) mX13_init 6 531 (vX13_init_531 j) := by
  unfold vX13_init_531
  refine s_newa (tt := 0) (ty := .int) rfl rfl rfl rfl rfl (by decide) zw527 dX13_init_531 ?_
  refine yp13_67 hZ.1 rfl rfl dX13_init_533 zw4188 ?_
  refine s_aload_n hZ.1 dX13_init_536 rfl ?_
  refine s_sipush dX13_init_537 (by decide +kernel) ?_
  refine s_newa (tt := 0) (ty := .int) rfl rfl rfl rfl rfl (by decide) zw527 dX13_init_540 ?_
  refine yp13_68 hZ.1 rfl rfl dX13_init_542 zw4189 ?_
  refine s_aload_n hZ.1 dX13_init_545 rfl ?_
  refine s_bipush dX13_init_546 (by decide +kernel) ?_
  refine s_newa (tt := 0) (ty := .int) rfl rfl rfl rfl rfl (by decide) zw527 dX13_init_548 ?_
  refine yp13_69 hZ.1 rfl rfl dX13_init_550 zw4190 ?_
  refine s_aload_n hZ.1 dX13_init_553 rfl ?_
  refine s_sipush dX13_init_554 (by decide +kernel) ?_
  refine s_newa (tt := 0) (ty := .int) rfl rfl rfl rfl rfl (by decide) zw527 dX13_init_557 ?_
  refine yp13_70 hZ.1 rfl rfl dX13_init_559 zw4191 ?_
  refine s_aload_n hZ.1 dX13_init_562 rfl ?_
  refine s_sipush dX13_init_563 (by decide +kernel) ?_
  refine s_newa (tt := 0) (ty := .int) rfl rfl rfl rfl rfl (by decide) zw527 dX13_init_566 ?_
  refine yp13_71 hZ.1 rfl rfl dX13_init_568 zw4192 ?_
  refine s_aload_n hZ.1 dX13_init_571 rfl ?_
  refine s_sipush dX13_init_572 (by decide +kernel) ?_
  refine s_newa (tt := 0) (ty := .int) rfl rfl rfl rfl rfl (by decide) zw527 dX13_init_575 ?_
  refine yp13_72 hZ.1 rfl rfl dX13_init_577 zw4193 ?_
  refine s_aload_n hZ.1 dX13_init_580 rfl ?_
  refine s_sipush dX13_init_581 (by decide +kernel) ?_
  exact (wX13_init_584 hZ j hj)
noncomputable def vX13_init_477 (j : Nat → rx_K) : rx_K := o_newa 0 0 (o_putf rx_isR 13 61 (o_ld rx_isR 0 (o_const 58752 (o_newa 0 0 (o_putf rx_isR 13 62 (o_ld rx_isR 0 (o_const 58752 (o_newa 0 0 (o_putf rx_isR 13 63 (o_ld rx_isR 0 (o_const 58752 (o_newa 3 0 (o_putf rx_isR 13 64 (o_ld rx_isR 0 (o_const 58752 (o_newa 0 0 (o_putf rx_isR 13 65 (o_ld rx_isR 0 (o_const 58752 (o_newa 1 1 (o_putf rx_isR 13 66 (o_ld rx_isR 0 (o_const 58752 ((vX13_init_531 j)))))))))))))))))))))))))
set_option maxRecDepth 20000 in
theorem wX13_init_477 (hZ : zO b e D A X) (j : Nat → rx_K) (hj : ∀ k pc, [1219][k]? = some pc → rx_OK (zV b e D A X) mX13_init 6 pc (j k)) : rx_OK (zV b e D A X) mX13_init 6 477 (vX13_init_477 j) := by
  unfold vX13_init_477
  refine s_newa (tt := 0) (ty := .int) rfl rfl rfl rfl rfl (by decide) zw527 dX13_init_477 ?_
  refine yp13_61 hZ.1 rfl rfl dX13_init_479 zw4182 ?_
  refine s_aload_n hZ.1 dX13_init_482 rfl ?_
  refine s_sipush dX13_init_483 (by decide +kernel) ?_
  refine s_newa (tt := 0) (ty := .int) rfl rfl rfl rfl rfl (by decide) zw527 dX13_init_486 ?_
  refine yp13_62 hZ.1 rfl rfl dX13_init_488 zw4183 ?_
  refine s_aload_n hZ.1 dX13_init_491 rfl ?_
  refine s_sipush dX13_init_492 (by decide +kernel) ?_
  refine s_newa (tt := 0) (ty := .int) rfl rfl rfl rfl rfl (by decide) zw527 dX13_init_495 ?_
  refine yp13_63 hZ.1 rfl rfl dX13_init_497 zw4184 ?_
  refine s_aload_n hZ.1 dX13_init_500 rfl ?_
  refine s_sipush dX13_init_501 (by decide +kernel) ?_
  refine s_newa (tt := 3) (ty := .boolean) rfl rfl rfl rfl rfl (by decide) zw4661 dX13_init_504 ?_
  refine yp13_64 hZ.1 rfl rfl dX13_init_506 zw4185 ?_
  refine s_aload_n hZ.1 dX13_init_509 rfl ?_
  refine s_sipush dX13_init_510 (by decide +kernel) ?_
  refine s_newa (tt := 0) (ty := .int) rfl rfl rfl rfl rfl (by decide) zw527 dX13_init_513 ?_
  refine yp13_65 hZ.1 rfl rfl dX13_init_515 zw4186 ?_
  refine s_aload_n hZ.1 dX13_init_518 rfl ?_
  refine s_sipush dX13_init_519 (by decide +kernel) ?_
  refine s_newa (tt := 1) (ty := .long) rfl rfl rfl rfl rfl (by decide) zw528 dX13_init_522 ?_
  refine yp13_66 hZ.1 rfl rfl dX13_init_524 zw4187 ?_
  refine s_aload_n hZ.1 dX13_init_527 rfl ?_
  refine s_sipush dX13_init_528 (by decide +kernel) ?_
  exact (wX13_init_531 hZ j hj)
noncomputable def vX13_init_423 (j : Nat → rx_K) : rx_K := o_newa 0 0 (o_putf rx_isR 13 55 (o_ld rx_isR 0 (o_const 235008 (o_newa 1 1 (o_putf rx_isR 13 56 (o_ld rx_isR 0 (o_const 235008 (o_newa 0 0 (o_putf rx_isR 13 57 (o_ld rx_isR 0 (o_const 235008 (o_newa 1 1 (o_putf rx_isR 13 58 (o_ld rx_isR 0 (o_const 235008 (o_newa 0 0 (o_putf rx_isR 13 59 (o_ld rx_isR 0 (o_const 58752 (o_newa 0 0 (o_putf rx_isR 13 60 (o_ld rx_isR 0 (o_const 58752 ((vX13_init_477 j)))))))))))))))))))))))))
set_option maxRecDepth 20000 in
theorem wX13_init_423 (hZ : zO b e D A X) (j : Nat → rx_K) (hj : ∀ k pc, [1219][k]? = some pc → rx_OK (zV b e D A X) mX13_init 6 pc (j k)) : rx_OK (zV b e D A X) mX13_init 6 423 (vX13_init_423 j) := by
  unfold vX13_init_423
  refine s_newa (tt := 0) (ty := .int) rfl rfl rfl rfl rfl (by decide) zw527 dX13_init_423 ?_
  refine yp13_55 hZ.1 rfl rfl dX13_init_425 zw4176 ?_
  refine s_aload_n hZ.1 dX13_init_428 rfl ?_
  refine s_sipush dX13_init_429 (by decide +kernel) ?_
  refine s_newa (tt := 1) (ty := .long) rfl rfl rfl rfl rfl (by decide) zw528 dX13_init_432 ?_
  refine yp13_56 hZ.1 rfl rfl dX13_init_434 zw4177 ?_
  refine s_aload_n hZ.1 dX13_init_437 rfl ?_
  refine s_sipush dX13_init_438 (by decide +kernel) ?_
  refine s_newa (tt := 0) (ty := .int) rfl rfl rfl rfl rfl (by decide) zw527 dX13_init_441 ?_
  refine yp13_57 hZ.1 rfl rfl dX13_init_443 zw4178 ?_
  refine s_aload_n hZ.1 dX13_init_446 rfl ?_
  refine s_sipush dX13_init_447 (by decide +kernel) ?_
  refine s_newa (tt := 1) (ty := .long) rfl rfl rfl rfl rfl (by decide) zw528 dX13_init_450 ?_
  refine yp13_58 hZ.1 rfl rfl dX13_init_452 zw4179 ?_
  refine s_aload_n hZ.1 dX13_init_455 rfl ?_
  refine s_sipush dX13_init_456 (by decide +kernel) ?_
  refine s_newa (tt := 0) (ty := .int) rfl rfl rfl rfl rfl (by decide) zw527 dX13_init_459 ?_
  refine yp13_59 hZ.1 rfl rfl dX13_init_461 zw4180 ?_
  refine s_aload_n hZ.1 dX13_init_464 rfl ?_
  refine s_sipush dX13_init_465 (by decide +kernel) ?_
  refine s_newa (tt := 0) (ty := .int) rfl rfl rfl rfl rfl (by decide) zw527 dX13_init_468 ?_
  refine yp13_60 hZ.1 rfl rfl dX13_init_470 zw4181 ?_
  refine s_aload_n hZ.1 dX13_init_473 rfl ?_
  refine s_sipush dX13_init_474 (by decide +kernel) ?_
  exact (wX13_init_477 hZ j hj)
noncomputable def vX13_init_369 (j : Nat → rx_K) : rx_K := o_newa 3 0 (o_putf rx_isR 13 49 (o_ld rx_isR 0 (o_const 58752 (o_newa 3 0 (o_putf rx_isR 13 50 (o_ld rx_isR 0 (o_const 58752 (o_newa 1 1 (o_putf rx_isR 13 51 (o_ld rx_isR 0 (o_const 58752 (o_newa 0 0 (o_putf rx_isR 13 52 (o_ld rx_isR 0 (o_const 58752 (o_newa 1 1 (o_putf rx_isR 13 53 (o_ld rx_isR 0 (o_const 58752 (o_newa 0 0 (o_putf rx_isR 13 54 (o_ld rx_isR 0 (o_const 58752 ((vX13_init_423 j)))))))))))))))))))))))))
set_option maxRecDepth 20000 in
theorem wX13_init_369 (hZ : zO b e D A X) (j : Nat → rx_K) (hj : ∀ k pc, [1219][k]? = some pc → rx_OK (zV b e D A X) mX13_init 6 pc (j k)) : rx_OK (zV b e D A X) mX13_init 6 369 (vX13_init_369 j) := by
  unfold vX13_init_369
  refine s_newa (tt := 3) (ty := .boolean) rfl rfl rfl rfl rfl (by decide) zw4661 dX13_init_369 ?_
  refine yp13_49 hZ.1 rfl rfl dX13_init_371 zw4170 ?_
  refine s_aload_n hZ.1 dX13_init_374 rfl ?_
  refine s_sipush dX13_init_375 (by decide +kernel) ?_
  refine s_newa (tt := 3) (ty := .boolean) rfl rfl rfl rfl rfl (by decide) zw4661 dX13_init_378 ?_
  refine yp13_50 hZ.1 rfl rfl dX13_init_380 zw4171 ?_
  refine s_aload_n hZ.1 dX13_init_383 rfl ?_
  refine s_sipush dX13_init_384 (by decide +kernel) ?_
  refine s_newa (tt := 1) (ty := .long) rfl rfl rfl rfl rfl (by decide) zw528 dX13_init_387 ?_
  refine yp13_51 hZ.1 rfl rfl dX13_init_389 zw4172 ?_
  refine s_aload_n hZ.1 dX13_init_392 rfl ?_
  refine s_sipush dX13_init_393 (by decide +kernel) ?_
  refine s_newa (tt := 0) (ty := .int) rfl rfl rfl rfl rfl (by decide) zw527 dX13_init_396 ?_
  refine yp13_52 hZ.1 rfl rfl dX13_init_398 zw4173 ?_
  refine s_aload_n hZ.1 dX13_init_401 rfl ?_
  refine s_sipush dX13_init_402 (by decide +kernel) ?_
  refine s_newa (tt := 1) (ty := .long) rfl rfl rfl rfl rfl (by decide) zw528 dX13_init_405 ?_
  refine yp13_53 hZ.1 rfl rfl dX13_init_407 zw4174 ?_
  refine s_aload_n hZ.1 dX13_init_410 rfl ?_
  refine s_sipush dX13_init_411 (by decide +kernel) ?_
  refine s_newa (tt := 0) (ty := .int) rfl rfl rfl rfl rfl (by decide) zw527 dX13_init_414 ?_
  refine yp13_54 hZ.1 rfl rfl dX13_init_416 zw4175 ?_
  refine s_aload_n hZ.1 dX13_init_419 rfl ?_
  refine s_sipush dX13_init_420 (by decide +kernel) ?_
  exact (wX13_init_423 hZ j hj)
noncomputable def vX13_init_315 (j : Nat → rx_K) : rx_K := o_newa 0 0 (o_putf rx_isR 13 43 (o_ld rx_isR 0 (o_const 58752 (o_newa 0 0 (o_putf rx_isR 13 44 (o_ld rx_isR 0 (o_const 58752 (o_newa 3 0 (o_putf rx_isR 13 45 (o_ld rx_isR 0 (o_const 58752 (o_newa 3 0 (o_putf rx_isR 13 46 (o_ld rx_isR 0 (o_const 58752 (o_newa 3 0 (o_putf rx_isR 13 47 (o_ld rx_isR 0 (o_const 58752 (o_newa 3 0 (o_putf rx_isR 13 48 (o_ld rx_isR 0 (o_const 58752 ((vX13_init_369 j)))))))))))))))))))))))))
set_option maxRecDepth 20000 in
theorem wX13_init_315 (hZ : zO b e D A X) (j : Nat → rx_K) (hj : ∀ k pc, [1219][k]? = some pc → rx_OK (zV b e D A X) mX13_init 6 pc (j k)) : rx_OK (zV b e D A X) mX13_init 6 315 (vX13_init_315 j) := by
  unfold vX13_init_315
  refine s_newa (tt := 0) (ty := .int) rfl rfl rfl rfl rfl (by decide) zw527 dX13_init_315 ?_
  refine yp13_43 hZ.1 rfl rfl dX13_init_317 zw4164 ?_
  refine s_aload_n hZ.1 dX13_init_320 rfl ?_
  refine s_sipush dX13_init_321 (by decide +kernel) ?_
  refine s_newa (tt := 0) (ty := .int) rfl rfl rfl rfl rfl (by decide) zw527 dX13_init_324 ?_
  refine yp13_44 hZ.1 rfl rfl dX13_init_326 zw4165 ?_
  refine s_aload_n hZ.1 dX13_init_329 rfl ?_
  refine s_sipush dX13_init_330 (by decide +kernel) ?_
  refine s_newa (tt := 3) (ty := .boolean) rfl rfl rfl rfl rfl (by decide) zw4661 dX13_init_333 ?_
  refine yp13_45 hZ.1 rfl rfl dX13_init_335 zw4166 ?_
  refine s_aload_n hZ.1 dX13_init_338 rfl ?_
  refine s_sipush dX13_init_339 (by decide +kernel) ?_
  refine s_newa (tt := 3) (ty := .boolean) rfl rfl rfl rfl rfl (by decide) zw4661 dX13_init_342 ?_
  refine yp13_46 hZ.1 rfl rfl dX13_init_344 zw4167 ?_
  refine s_aload_n hZ.1 dX13_init_347 rfl ?_
  refine s_sipush dX13_init_348 (by decide +kernel) ?_
  refine s_newa (tt := 3) (ty := .boolean) rfl rfl rfl rfl rfl (by decide) zw4661 dX13_init_351 ?_
  refine yp13_47 hZ.1 rfl rfl dX13_init_353 zw4168 ?_
  refine s_aload_n hZ.1 dX13_init_356 rfl ?_
  refine s_sipush dX13_init_357 (by decide +kernel) ?_
  refine s_newa (tt := 3) (ty := .boolean) rfl rfl rfl rfl rfl (by decide) zw4661 dX13_init_360 ?_
  refine yp13_48 hZ.1 rfl rfl dX13_init_362 zw4169 ?_
  refine s_aload_n hZ.1 dX13_init_365 rfl ?_
  refine s_sipush dX13_init_366 (by decide +kernel) ?_
  exact (wX13_init_369 hZ j hj)
noncomputable def vX13_init_261 (j : Nat → rx_K) : rx_K := o_newa 0 0 (o_putf rx_isR 13 37 (o_ld rx_isR 0 (o_const 13824 (o_newa 1 1 (o_putf rx_isR 13 38 (o_ld rx_isR 0 (o_const 13824 (o_newa 0 0 (o_putf rx_isR 13 39 (o_ld rx_isR 0 (o_const 1728 (o_newa 0 0 (o_putf rx_isR 13 40 (o_ld rx_isR 0 (o_const 1728 (o_newa 0 0 (o_putf rx_isR 13 41 (o_ld rx_isR 0 (o_const 58752 (o_newa 0 0 (o_putf rx_isR 13 42 (o_ld rx_isR 0 (o_const 58752 ((vX13_init_315 j)))))))))))))))))))))))))
set_option maxRecDepth 20000 in
theorem wX13_init_261 (hZ : zO b e D A X) (j : Nat → rx_K) (hj : ∀ k pc, [1219][k]? = some pc → rx_OK (zV b e D A X) mX13_init 6 pc (j k)) : rx_OK (zV b e D A X) mX13_init 6 261 (vX13_init_261 j) := by
  unfold vX13_init_261
  refine s_newa (tt := 0) (ty := .int) rfl rfl rfl rfl rfl (by decide) zw527 dX13_init_261 ?_
  refine yp13_37 hZ.1 rfl rfl dX13_init_263 zw4158 ?_
  refine s_aload_n hZ.1 dX13_init_266 rfl ?_
  refine s_sipush dX13_init_267 (by decide +kernel) ?_
  refine s_newa (tt := 1) (ty := .long) rfl rfl rfl rfl rfl (by decide) zw528 dX13_init_270 ?_
  refine yp13_38 hZ.1 rfl rfl dX13_init_272 zw4159 ?_
  refine s_aload_n hZ.1 dX13_init_275 rfl ?_
  refine s_sipush dX13_init_276 (by decide +kernel) ?_
  refine s_newa (tt := 0) (ty := .int) rfl rfl rfl rfl rfl (by decide) zw527 dX13_init_279 ?_
  refine yp13_39 hZ.1 rfl rfl dX13_init_281 zw4160 ?_
  refine s_aload_n hZ.1 dX13_init_284 rfl ?_
  refine s_sipush dX13_init_285 (by decide +kernel) ?_
  refine s_newa (tt := 0) (ty := .int) rfl rfl rfl rfl rfl (by decide) zw527 dX13_init_288 ?_
  refine yp13_40 hZ.1 rfl rfl dX13_init_290 zw4161 ?_
  refine s_aload_n hZ.1 dX13_init_293 rfl ?_
  refine s_sipush dX13_init_294 (by decide +kernel) ?_
  refine s_newa (tt := 0) (ty := .int) rfl rfl rfl rfl rfl (by decide) zw527 dX13_init_297 ?_
  refine yp13_41 hZ.1 rfl rfl dX13_init_299 zw4162 ?_
  refine s_aload_n hZ.1 dX13_init_302 rfl ?_
  refine s_sipush dX13_init_303 (by decide +kernel) ?_
  refine s_newa (tt := 0) (ty := .int) rfl rfl rfl rfl rfl (by decide) zw527 dX13_init_306 ?_
  refine yp13_42 hZ.1 rfl rfl dX13_init_308 zw4163 ?_
  refine s_aload_n hZ.1 dX13_init_311 rfl ?_
  refine s_sipush dX13_init_312 (by decide +kernel) ?_
  exact (wX13_init_315 hZ j hj)
noncomputable def vX13_init_207 (j : Nat → rx_K) : rx_K := o_newa 0 0 (o_putf rx_isR 13 31 (o_ld rx_isR 0 (o_const 1728 (o_newa 0 0 (o_putf rx_isR 13 32 (o_ld rx_isR 0 (o_const 1728 (o_newa 1 1 (o_putf rx_isR 13 33 (o_ld rx_isR 0 (o_const 1728 (o_newa 0 0 (o_putf rx_isR 13 34 (o_ld rx_isR 0 (o_const 13824 (o_newa 1 1 (o_putf rx_isR 13 35 (o_ld rx_isR 0 (o_const 13824 (o_newa 0 0 (o_putf rx_isR 13 36 (o_ld rx_isR 0 (o_const 1728 ((vX13_init_261 j)))))))))))))))))))))))))
set_option maxRecDepth 20000 in
theorem wX13_init_207 (hZ : zO b e D A X) (j : Nat → rx_K) (hj : ∀ k pc, [1219][k]? = some pc → rx_OK (zV b e D A X) mX13_init 6 pc (j k)) : rx_OK (zV b e D A X) mX13_init 6 207 (vX13_init_207 j) := by
  unfold vX13_init_207
  refine s_newa (tt := 0) (ty := .int) rfl rfl rfl rfl rfl (by decide) zw527 dX13_init_207 ?_
  refine yp13_31 hZ.1 rfl rfl dX13_init_209 zw4152 ?_
  refine s_aload_n hZ.1 dX13_init_212 rfl ?_
  refine s_sipush dX13_init_213 (by decide +kernel) ?_
  refine s_newa (tt := 0) (ty := .int) rfl rfl rfl rfl rfl (by decide) zw527 dX13_init_216 ?_
  refine yp13_32 hZ.1 rfl rfl dX13_init_218 zw4153 ?_
  refine s_aload_n hZ.1 dX13_init_221 rfl ?_
  refine s_sipush dX13_init_222 (by decide +kernel) ?_
  refine s_newa (tt := 1) (ty := .long) rfl rfl rfl rfl rfl (by decide) zw528 dX13_init_225 ?_
  refine yp13_33 hZ.1 rfl rfl dX13_init_227 zw4154 ?_
  refine s_aload_n hZ.1 dX13_init_230 rfl ?_
  refine s_sipush dX13_init_231 (by decide +kernel) ?_
  refine s_newa (tt := 0) (ty := .int) rfl rfl rfl rfl rfl (by decide) zw527 dX13_init_234 ?_
  refine yp13_34 hZ.1 rfl rfl dX13_init_236 zw4155 ?_
  refine s_aload_n hZ.1 dX13_init_239 rfl ?_
  refine s_sipush dX13_init_240 (by decide +kernel) ?_
  refine s_newa (tt := 1) (ty := .long) rfl rfl rfl rfl rfl (by decide) zw528 dX13_init_243 ?_
  refine yp13_35 hZ.1 rfl rfl dX13_init_245 zw4156 ?_
  refine s_aload_n hZ.1 dX13_init_248 rfl ?_
  refine s_sipush dX13_init_249 (by decide +kernel) ?_
  refine s_newa (tt := 0) (ty := .int) rfl rfl rfl rfl rfl (by decide) zw527 dX13_init_252 ?_
  refine yp13_36 hZ.1 rfl rfl dX13_init_254 zw4157 ?_
  refine s_aload_n hZ.1 dX13_init_257 rfl ?_
  refine s_sipush dX13_init_258 (by decide +kernel) ?_
  exact (wX13_init_261 hZ j hj)
noncomputable def vX13_init_153 (j : Nat → rx_K) : rx_K := o_newa 0 0 (o_putf rx_isR 13 25 (o_ld rx_isR 0 (o_const 1728 (o_newa 3 0 (o_putf rx_isR 13 26 (o_ld rx_isR 0 (o_const 1728 (o_newa 0 0 (o_putf rx_isR 13 27 (o_ld rx_isR 0 (o_const 1728 (o_newa 1 1 (o_putf rx_isR 13 28 (o_ld rx_isR 0 (o_const 1728 (o_newa 0 0 (o_putf rx_isR 13 29 (o_ld rx_isR 0 (o_const 6912 (o_newa 1 1 (o_putf rx_isR 13 30 (o_ld rx_isR 0 (o_const 6912 ((vX13_init_207 j)))))))))))))))))))))))))
set_option maxRecDepth 20000 in
theorem wX13_init_153 (hZ : zO b e D A X) (j : Nat → rx_K) (hj : ∀ k pc, [1219][k]? = some pc → rx_OK (zV b e D A X) mX13_init 6 pc (j k)) : rx_OK (zV b e D A X) mX13_init 6 153 (vX13_init_153 j) := by
  unfold vX13_init_153
  refine s_newa (tt := 0) (ty := .int) rfl rfl rfl rfl rfl (by decide) zw527 dX13_init_153 ?_
  refine yp13_25 hZ.1 rfl rfl dX13_init_155 zw4146 ?_
  refine s_aload_n hZ.1 dX13_init_158 rfl ?_
  refine s_sipush dX13_init_159 (by decide +kernel) ?_
  refine s_newa (tt := 3) (ty := .boolean) rfl rfl rfl rfl rfl (by decide) zw4661 dX13_init_162 ?_
  refine yp13_26 hZ.1 rfl rfl dX13_init_164 zw4147 ?_
  refine s_aload_n hZ.1 dX13_init_167 rfl ?_
  refine s_sipush dX13_init_168 (by decide +kernel) ?_
  refine s_newa (tt := 0) (ty := .int) rfl rfl rfl rfl rfl (by decide) zw527 dX13_init_171 ?_
  refine yp13_27 hZ.1 rfl rfl dX13_init_173 zw4148 ?_
  refine s_aload_n hZ.1 dX13_init_176 rfl ?_
  refine s_sipush dX13_init_177 (by decide +kernel) ?_
  refine s_newa (tt := 1) (ty := .long) rfl rfl rfl rfl rfl (by decide) zw528 dX13_init_180 ?_
  refine yp13_28 hZ.1 rfl rfl dX13_init_182 zw4149 ?_
  refine s_aload_n hZ.1 dX13_init_185 rfl ?_
  refine s_sipush dX13_init_186 (by decide +kernel) ?_
  refine s_newa (tt := 0) (ty := .int) rfl rfl rfl rfl rfl (by decide) zw527 dX13_init_189 ?_
  refine yp13_29 hZ.1 rfl rfl dX13_init_191 zw4150 ?_
  refine s_aload_n hZ.1 dX13_init_194 rfl ?_
  refine s_sipush dX13_init_195 (by decide +kernel) ?_
  refine s_newa (tt := 1) (ty := .long) rfl rfl rfl rfl rfl (by decide) zw528 dX13_init_198 ?_
  refine yp13_30 hZ.1 rfl rfl dX13_init_200 zw4151 ?_
  refine s_aload_n hZ.1 dX13_init_203 rfl ?_
  refine s_sipush dX13_init_204 (by decide +kernel) ?_
  exact (wX13_init_207 hZ j hj)
noncomputable def vX13_init_102 (j : Nat → rx_K) : rx_K := o_newa 1 1 (o_putf rx_isR 13 14 (o_ld rx_isR 0 (o_const 101088 (o_newa 0 0 (o_putf rx_isR 13 15 (o_ld rx_isR 0 (o_const 144 (o_newa 0 0 (o_putf rx_isR 13 16 (o_ld rx_isR 0 (o_const 256 (o_newa 1 1 (o_putf rx_isR 13 17 (o_ld rx_isR 0 (o_const 144 (o_newa 0 0 (o_putf rx_isR 13 23 (o_ld rx_isR 0 (o_const 1728 (o_newa 1 1 (o_putf rx_isR 13 24 (o_ld rx_isR 0 (o_const 1728 ((vX13_init_153 j)))))))))))))))))))))))))
set_option maxRecDepth 20000 in
theorem wX13_init_102 (hZ : zO b e D A X) (j : Nat → rx_K) (hj : ∀ k pc, [1219][k]? = some pc → rx_OK (zV b e D A X) mX13_init 6 pc (j k)) : rx_OK (zV b e D A X) mX13_init 6 102 (vX13_init_102 j) := by
  unfold vX13_init_102
  refine s_newa (tt := 1) (ty := .long) rfl rfl rfl rfl rfl (by decide) zw528 dX13_init_102 ?_
  refine yp13_14 hZ.1 rfl rfl dX13_init_104 zw4135 ?_
  refine s_aload_n hZ.1 dX13_init_107 rfl ?_
  refine s_sipush dX13_init_108 (by decide +kernel) ?_
  refine s_newa (tt := 0) (ty := .int) rfl rfl rfl rfl rfl (by decide) zw527 dX13_init_111 ?_
  refine yp13_15 hZ.1 rfl rfl dX13_init_113 zw4136 ?_
  refine s_aload_n hZ.1 dX13_init_116 rfl ?_
  refine s_bipush dX13_init_117 (by decide +kernel) ?_
  refine s_newa (tt := 0) (ty := .int) rfl rfl rfl rfl rfl (by decide) zw527 dX13_init_119 ?_
  refine yp13_16 hZ.1 rfl rfl dX13_init_121 zw4137 ?_
  refine s_aload_n hZ.1 dX13_init_124 rfl ?_
  refine s_bipush dX13_init_125 (by decide +kernel) ?_
  refine s_newa (tt := 1) (ty := .long) rfl rfl rfl rfl rfl (by decide) zw528 dX13_init_127 ?_
  refine yp13_17 hZ.1 rfl rfl dX13_init_129 zw4138 ?_
  refine s_aload_n hZ.1 dX13_init_132 rfl ?_
  refine s_bipush dX13_init_133 (by decide +kernel) ?_
  refine s_newa (tt := 0) (ty := .int) rfl rfl rfl rfl rfl (by decide) zw527 dX13_init_135 ?_
  refine yp13_23 hZ.1 rfl rfl dX13_init_137 zw4144 ?_
  refine s_aload_n hZ.1 dX13_init_140 rfl ?_
  refine s_sipush dX13_init_141 (by decide +kernel) ?_
  refine s_newa (tt := 1) (ty := .long) rfl rfl rfl rfl rfl (by decide) zw528 dX13_init_144 ?_
  refine yp13_24 hZ.1 rfl rfl dX13_init_146 zw4145 ?_
  refine s_aload_n hZ.1 dX13_init_149 rfl ?_
  refine s_sipush dX13_init_150 (by decide +kernel) ?_
  exact (wX13_init_153 hZ j hj)
noncomputable def vX13_init_51 (j : Nat → rx_K) : rx_K := o_newa 0 0 (o_putf rx_isR 13 7 (o_ld rx_isR 0 (o_const 320 (o_newa 0 0 (o_putf rx_isR 13 8 (o_ld rx_isR 0 (o_const 40 (o_newa 0 0 (o_putf rx_isR 13 9 (o_ld rx_isR 0 (o_const 101088 (o_newa 0 0 (o_putf rx_isR 13 11 (o_ld rx_isR 0 (o_const 101088 (o_newa 0 0 (o_putf rx_isR 13 12 (o_ld rx_isR 0 (o_const 101088 (o_newa 0 0 (o_putf rx_isR 13 13 (o_ld rx_isR 0 (o_const 101088 ((vX13_init_102 j)))))))))))))))))))))))))
set_option maxRecDepth 20000 in
theorem wX13_init_51 (hZ : zO b e D A X) (j : Nat → rx_K) (hj : ∀ k pc, [1219][k]? = some pc → rx_OK (zV b e D A X) mX13_init 6 pc (j k)) : rx_OK (zV b e D A X) mX13_init 6 51 (vX13_init_51 j) := by
  unfold vX13_init_51
  refine s_newa (tt := 0) (ty := .int) rfl rfl rfl rfl rfl (by decide) zw527 dX13_init_51 ?_
  refine yp13_7 hZ.1 rfl rfl dX13_init_53 zw4128 ?_
  refine s_aload_n hZ.1 dX13_init_56 rfl ?_
  refine s_bipush dX13_init_57 (by decide +kernel) ?_
  refine s_newa (tt := 0) (ty := .int) rfl rfl rfl rfl rfl (by decide) zw527 dX13_init_59 ?_
  refine yp13_8 hZ.1 rfl rfl dX13_init_61 zw4129 ?_
  refine s_aload_n hZ.1 dX13_init_64 rfl ?_
  refine s_iconst dX13_init_65 (by decide +kernel) ?_
  refine s_newa (tt := 0) (ty := .int) rfl rfl rfl rfl rfl (by decide) zw527 dX13_init_66 ?_
  refine yp13_9 hZ.1 rfl rfl dX13_init_68 zw4130 ?_
  refine s_aload_n hZ.1 dX13_init_71 rfl ?_
  refine s_sipush dX13_init_72 (by decide +kernel) ?_
  refine s_newa (tt := 0) (ty := .int) rfl rfl rfl rfl rfl (by decide) zw527 dX13_init_75 ?_
  refine yp13_11 hZ.1 rfl rfl dX13_init_77 zw4132 ?_
  refine s_aload_n hZ.1 dX13_init_80 rfl ?_
  refine s_sipush dX13_init_81 (by decide +kernel) ?_
  refine s_newa (tt := 0) (ty := .int) rfl rfl rfl rfl rfl (by decide) zw527 dX13_init_84 ?_
  refine yp13_12 hZ.1 rfl rfl dX13_init_86 zw4133 ?_
  refine s_aload_n hZ.1 dX13_init_89 rfl ?_
  refine s_sipush dX13_init_90 (by decide +kernel) ?_
  refine s_newa (tt := 0) (ty := .int) rfl rfl rfl rfl rfl (by decide) zw527 dX13_init_93 ?_
  refine yp13_13 hZ.1 rfl rfl dX13_init_95 zw4134 ?_
  refine s_aload_n hZ.1 dX13_init_98 rfl ?_
  refine s_sipush dX13_init_99 (by decide +kernel) ?_
  exact (wX13_init_102 hZ j hj)
noncomputable def vX13_init_0 (j : Nat → rx_K) : rx_K := o_ld rx_isR 0 (o_obj (o_ld rx_isR 0 (o_const 32000 (o_newa 0 0 (o_putf rx_isR 13 0 (o_ld rx_isR 0 (o_const 33600 (o_newa 0 0 (o_putf rx_isR 13 2 (o_ld rx_isR 0 (o_const 32000 (o_newa 0 0 (o_putf rx_isR 13 4 (o_ld rx_isR 0 (o_const 512000 (o_newa 2 0 (o_putf rx_isR 13 5 (o_ld rx_isR 0 (o_const 128 (o_newa 0 0 (o_putf rx_isR 13 6 (o_ld rx_isR 0 (o_const 128 ((vX13_init_51 j)))))))))))))))))))))))))
set_option maxRecDepth 20000 in
theorem wX13_init_0 (hZ : zO b e D A X) (j : Nat → rx_K) (hj : ∀ k pc, [1219][k]? = some pc → rx_OK (zV b e D A X) mX13_init 6 pc (j k)) : rx_OK (zV b e D A X) mX13_init 6 0 (vX13_init_0 j) := by
  unfold vX13_init_0
  refine s_aload_n hZ.1 dX13_init_0 rfl ?_
  refine s_obj hZ.1 (Nat.le_of_ble_eq_true rfl) zw4108 zw440 zw441 dX13_init_1 ?_
  refine s_aload_n hZ.1 dX13_init_4 rfl ?_
  refine s_sipush dX13_init_5 (by decide +kernel) ?_
  refine s_newa (tt := 0) (ty := .int) rfl rfl rfl rfl rfl (by decide) zw527 dX13_init_8 ?_
  refine yp13_0 hZ.1 rfl rfl dX13_init_10 zw4121 ?_
  refine s_aload_n hZ.1 dX13_init_13 rfl ?_
  refine s_sipush dX13_init_14 (by decide +kernel) ?_
  refine s_newa (tt := 0) (ty := .int) rfl rfl rfl rfl rfl (by decide) zw527 dX13_init_17 ?_
  refine yp13_2 hZ.1 rfl rfl dX13_init_19 zw4123 ?_
  refine s_aload_n hZ.1 dX13_init_22 rfl ?_
  refine s_sipush dX13_init_23 (by decide +kernel) ?_
  refine s_newa (tt := 0) (ty := .int) rfl rfl rfl rfl rfl (by decide) zw527 dX13_init_26 ?_
  refine yp13_4 hZ.1 rfl rfl dX13_init_28 zw4125 ?_
  refine s_aload_n hZ.1 dX13_init_31 rfl ?_
  refine s_ldcw dX13_init_32 zw4109 (by decide +kernel) ?_
  refine s_newa (tt := 2) (ty := .byte) rfl rfl rfl rfl rfl (by decide) zw526 dX13_init_35 ?_
  refine yp13_5 hZ.1 rfl rfl dX13_init_37 zw4126 ?_
  refine s_aload_n hZ.1 dX13_init_40 rfl ?_
  refine s_bipush dX13_init_41 (by decide +kernel) ?_
  refine s_newa (tt := 0) (ty := .int) rfl rfl rfl rfl rfl (by decide) zw527 dX13_init_43 ?_
  refine yp13_6 hZ.1 rfl rfl dX13_init_45 zw4127 ?_
  refine s_aload_n hZ.1 dX13_init_48 rfl ?_
  refine s_bipush dX13_init_49 (by decide +kernel) ?_
  exact (wX13_init_51 hZ j hj)
noncomputable def vhX13_init (j : Nat → rx_K) : List rx_K := [vX13_init_1219 j]
theorem vlX13_init (hZ : zO b e D A X) : ∀ n k pc, [1219][k]? = some pc → rx_OK (zV b e D A X) mX13_init 6 pc (rx_J (vhX13_init) n k) := rx_loop fun j hj k pc h => by
  match k, h with
  | 0, h =>
    have e9 := Option.some.inj (show some 1219 = some pc from h)
    subst e9
    exact wX13_init_1219 hZ j hj
  | _ + 1, h => exact absurd h (by simp)
noncomputable def FX13_init : List Nat → rx_H → Option (Nat × rx_H) := rx_ent 2 (vX13_init_0 (rx_J (vhX13_init) 4000000000))
theorem Met_X13_init (hZ : zO b e D A X) : rx_Met (zV b e D A X) 6 yX13_init mX13_init (FX13_init) := rx_entry hZ.1 (wX13_init_0 hZ _ (vlX13_init hZ 4000000000)) (by decide +kernel) rfl (fun _ => rfl)
end ZM73

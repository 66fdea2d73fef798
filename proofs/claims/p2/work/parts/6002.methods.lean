section ZM2
variable {b : Nat} {e : Nat → Value} {D : va_G} {A : Nat → ClassId} {X : State → Prop}
abbrev mX0_meant : rx_M := (RX0, cX0_meant, 14, (some (.object "LinkHouse$Member")), false)
theorem vy_X0_meant : rx_Y (zV b e D A X) yX0_meant mX0_meant 4 := ⟨zw2120, zw421, by decide, by decide +kernel, by decide +kernel, by decide +kernel⟩
noncomputable def vX0_meant_362 (j : Nat → rx_K) : rx_K := o_const 3 (o_ret1 rx_isR)
set_option maxRecDepth 20000 in
theorem wX0_meant_362 (hZ : zO b e D A X) (j : Nat → rx_K) (hj : ∀ k pc, [13, 48, 101, 252, 267, 284][k]? = some pc → rx_OK (zV b e D A X) mX0_meant 2 pc (j k)) : rx_OK (zV b e D A X) mX0_meant 2 362 (vX0_meant_362 j) := by
  unfold vX0_meant_362
  refine s_null dX0_meant_362 ?_
  exact s_aret hZ.1 rfl (Or.inl ⟨_, rfl⟩) dX0_meant_363
noncomputable def vX0_meant_356 (j : Nat → rx_K) : rx_K := o_inc 8 (1) ((j 3))
set_option maxRecDepth 20000 in
theorem wX0_meant_356 (hZ : zO b e D A X) (j : Nat → rx_K) (hj : ∀ k pc, [13, 48, 101, 252, 267, 284][k]? = some pc → rx_OK (zV b e D A X) mX0_meant 2 pc (j k)) : rx_OK (zV b e D A X) mX0_meant 2 356 (vX0_meant_356 j) := by
  unfold vX0_meant_356
  refine s_iinc hZ.1 dX0_meant_356 (Nat.le_of_ble_eq_true rfl) ?_
  exact s_goto dX0_meant_359 (by decide) (hj 3 252 rfl)
noncomputable def vX0_meant_348 (j : Nat → rx_K) : rx_K := o_ld rx_isR 0 (o_getf 0 13 (o_ld rx_isI 8 (o_ald 5 (o_ret1 rx_isR))))
set_option maxRecDepth 20000 in
theorem wX0_meant_348 (hZ : zO b e D A X) (j : Nat → rx_K) (hj : ∀ k pc, [13, 48, 101, 252, 267, 284][k]? = some pc → rx_OK (zV b e D A X) mX0_meant 2 pc (j k)) : rx_OK (zV b e D A X) mX0_meant 2 348 (vX0_meant_348 j) := by
  unfold vX0_meant_348
  refine s_aload_n hZ.1 dX0_meant_348 rfl ?_
  refine yg0_13 dX0_meant_349 zw676 ?_
  refine s_iload hZ.1 dX0_meant_352 ?_
  refine s_aald (tt := 5) rfl rfl dX0_meant_354 ?_
  exact s_aret hZ.1 rfl (Or.inl ⟨_, rfl⟩) dX0_meant_355
noncomputable def vX0_meant_343 (j : Nat → rx_K) : rx_K := o_ld rx_isI 9 (o_c1 rx_eq (vX0_meant_356 j) (vX0_meant_348 j))
set_option maxRecDepth 20000 in
theorem wX0_meant_343 (hZ : zO b e D A X) (j : Nat → rx_K) (hj : ∀ k pc, [13, 48, 101, 252, 267, 284][k]? = some pc → rx_OK (zV b e D A X) mX0_meant 2 pc (j k)) : rx_OK (zV b e D A X) mX0_meant 2 343 (vX0_meant_343 j) := by
  unfold vX0_meant_343
  refine s_iload hZ.1 dX0_meant_343 ?_
  exact s_if_eq dX0_meant_345 (by decide) (wX0_meant_356 hZ j hj) (wX0_meant_348 hZ j hj)
noncomputable def vX0_meant_337 (j : Nat → rx_K) : rx_K := o_inc 10 (1) ((j 4))
set_option maxRecDepth 20000 in
theorem wX0_meant_337 (hZ : zO b e D A X) (j : Nat → rx_K) (hj : ∀ k pc, [13, 48, 101, 252, 267, 284][k]? = some pc → rx_OK (zV b e D A X) mX0_meant 2 pc (j k)) : rx_OK (zV b e D A X) mX0_meant 2 337 (vX0_meant_337 j) := by
  unfold vX0_meant_337
  refine s_iinc hZ.1 dX0_meant_337 (Nat.le_of_ble_eq_true rfl) ?_
  exact s_goto dX0_meant_340 (by decide) (hj 4 267 rfl)
noncomputable def vX0_meant_296 (j : Nat → rx_K) : rx_K := o_ld rx_isR 0 (o_getf 0 0 (o_ld rx_isR 0 (o_getf 0 13 (o_ld rx_isI 8 (o_ald 5 (o_getf 7 10 (o_ld rx_isI 11 (o_ald 1 (o_ld rx_isR 0 (o_getf 0 13 (o_ld rx_isI 10 (o_ald 5 (o_getf 7 10 (o_ld rx_isI 11 (o_ald 1 (o_callV 2 11 FX11_fits (o_st rx_isI 9 (o_inc 11 (1) ((j 5))))))))))))))))))))
set_option maxRecDepth 20000 in
theorem wX0_meant_296 (hZ : zO b e D A X) (j : Nat → rx_K) (hj : ∀ k pc, [13, 48, 101, 252, 267, 284][k]? = some pc → rx_OK (zV b e D A X) mX0_meant 2 pc (j k)) : rx_OK (zV b e D A X) mX0_meant 2 296 (vX0_meant_296 j) := by
  unfold vX0_meant_296
  refine s_aload_n hZ.1 dX0_meant_296 rfl ?_
  refine yg0_0 dX0_meant_297 zw661 ?_
  refine s_aload_n hZ.1 dX0_meant_300 rfl ?_
  refine yg0_13 dX0_meant_301 zw676 ?_
  refine s_iload hZ.1 dX0_meant_304 ?_
  refine s_aald (tt := 5) rfl rfl dX0_meant_306 ?_
  refine yg7_10 dX0_meant_307 zw1031 ?_
  refine s_iload hZ.1 dX0_meant_310 ?_
  refine s_lald (tt := 1) rfl dX0_meant_312 ?_
  refine s_aload_n hZ.1 dX0_meant_313 rfl ?_
  refine yg0_13 dX0_meant_314 zw676 ?_
  refine s_iload hZ.1 dX0_meant_317 ?_
  refine s_aald (tt := 5) rfl rfl dX0_meant_319 ?_
  refine yg7_10 dX0_meant_320 zw1031 ?_
  refine s_iload hZ.1 dX0_meant_323 ?_
  refine s_lald (tt := 1) rfl dX0_meant_325 ?_
  refine s_callV hZ.1 (Met_X11_fits hZ) (Nat.le_of_ble_eq_true rfl) vy_X11_fits zcl11 zw1978 zw1979 (Or.inl zw2130) dX0_meant_326 ?_
  refine s_istore hZ.1 dX0_meant_329 (Nat.le_of_ble_eq_true rfl) ?_
  refine s_iinc hZ.1 dX0_meant_331 (Nat.le_of_ble_eq_true rfl) ?_
  exact s_goto dX0_meant_334 (by decide) (hj 5 284 rfl)
noncomputable def vX0_meant_291 (j : Nat → rx_K) : rx_K := o_ld rx_isI 9 (o_c1 rx_eq (vX0_meant_337 j) (vX0_meant_296 j))
set_option maxRecDepth 20000 in
theorem wX0_meant_291 (hZ : zO b e D A X) (j : Nat → rx_K) (hj : ∀ k pc, [13, 48, 101, 252, 267, 284][k]? = some pc → rx_OK (zV b e D A X) mX0_meant 2 pc (j k)) : rx_OK (zV b e D A X) mX0_meant 2 291 (vX0_meant_291 j) := by
  unfold vX0_meant_291
  refine s_iload hZ.1 dX0_meant_291 ?_
  exact s_if_eq dX0_meant_293 (by decide) (wX0_meant_337 hZ j hj) (wX0_meant_296 hZ j hj)
noncomputable def vX0_meant_284 (j : Nat → rx_K) : rx_K := o_ld rx_isI 11 (o_ld rx_isI 6 (o_c2 rx_lt (vX0_meant_291 j) (vX0_meant_337 j)))
set_option maxRecDepth 20000 in
theorem wX0_meant_284 (hZ : zO b e D A X) (j : Nat → rx_K) (hj : ∀ k pc, [13, 48, 101, 252, 267, 284][k]? = some pc → rx_OK (zV b e D A X) mX0_meant 2 pc (j k)) : rx_OK (zV b e D A X) mX0_meant 2 284 (vX0_meant_284 j) := by
  unfold vX0_meant_284
  refine s_iload hZ.1 dX0_meant_284 ?_
  refine s_iload hZ.1 dX0_meant_286 ?_
  exact s_icmp_ge dX0_meant_288 (by decide) (wX0_meant_337 hZ j hj) (wX0_meant_291 hZ j hj)
noncomputable def vX0_meant_281 (j : Nat → rx_K) : rx_K := o_const 0 (o_st rx_isI 11 ((vX0_meant_284 j)))
set_option maxRecDepth 20000 in
theorem wX0_meant_281 (hZ : zO b e D A X) (j : Nat → rx_K) (hj : ∀ k pc, [13, 48, 101, 252, 267, 284][k]? = some pc → rx_OK (zV b e D A X) mX0_meant 2 pc (j k)) : rx_OK (zV b e D A X) mX0_meant 2 281 (vX0_meant_281 j) := by
  unfold vX0_meant_281
  refine s_iconst dX0_meant_281 (by decide +kernel) ?_
  refine s_istore hZ.1 dX0_meant_282 (Nat.le_of_ble_eq_true rfl) ?_
  exact (wX0_meant_284 hZ j hj)
noncomputable def vX0_meant_276 (j : Nat → rx_K) : rx_K := o_ld rx_isI 9 (o_c1 rx_eq (vX0_meant_343 j) (vX0_meant_281 j))
set_option maxRecDepth 20000 in
theorem wX0_meant_276 (hZ : zO b e D A X) (j : Nat → rx_K) (hj : ∀ k pc, [13, 48, 101, 252, 267, 284][k]? = some pc → rx_OK (zV b e D A X) mX0_meant 2 pc (j k)) : rx_OK (zV b e D A X) mX0_meant 2 276 (vX0_meant_276 j) := by
  unfold vX0_meant_276
  refine s_iload hZ.1 dX0_meant_276 ?_
  exact s_if_eq dX0_meant_278 (by decide) (wX0_meant_343 hZ j hj) (wX0_meant_281 hZ j hj)
noncomputable def vX0_meant_267 (j : Nat → rx_K) : rx_K := o_ld rx_isI 10 (o_ld rx_isR 0 (o_getf 0 14 (o_c2 rx_lt (vX0_meant_276 j) (vX0_meant_343 j))))
set_option maxRecDepth 20000 in
theorem wX0_meant_267 (hZ : zO b e D A X) (j : Nat → rx_K) (hj : ∀ k pc, [13, 48, 101, 252, 267, 284][k]? = some pc → rx_OK (zV b e D A X) mX0_meant 2 pc (j k)) : rx_OK (zV b e D A X) mX0_meant 2 267 (vX0_meant_267 j) := by
  unfold vX0_meant_267
  refine s_iload hZ.1 dX0_meant_267 ?_
  refine s_aload_n hZ.1 dX0_meant_269 rfl ?_
  refine yg0_14 dX0_meant_270 zw677 ?_
  exact s_icmp_ge dX0_meant_273 (by decide) (wX0_meant_343 hZ j hj) (wX0_meant_276 hZ j hj)
noncomputable def vX0_meant_261 (j : Nat → rx_K) : rx_K := o_const 8 (o_st rx_isI 9 (o_const 0 (o_st rx_isI 10 ((vX0_meant_267 j)))))
set_option maxRecDepth 20000 in
theorem wX0_meant_261 (hZ : zO b e D A X) (j : Nat → rx_K) (hj : ∀ k pc, [13, 48, 101, 252, 267, 284][k]? = some pc → rx_OK (zV b e D A X) mX0_meant 2 pc (j k)) : rx_OK (zV b e D A X) mX0_meant 2 261 (vX0_meant_261 j) := by
  unfold vX0_meant_261
  refine s_iconst dX0_meant_261 (by decide +kernel) ?_
  refine s_istore hZ.1 dX0_meant_262 (Nat.le_of_ble_eq_true rfl) ?_
  refine s_iconst dX0_meant_264 (by decide +kernel) ?_
  refine s_istore hZ.1 dX0_meant_265 (Nat.le_of_ble_eq_true rfl) ?_
  exact (wX0_meant_267 hZ j hj)
noncomputable def vX0_meant_252 (j : Nat → rx_K) : rx_K := o_ld rx_isI 8 (o_ld rx_isR 0 (o_getf 0 14 (o_c2 rx_lt (vX0_meant_261 j) (vX0_meant_362 j))))
set_option maxRecDepth 20000 in
theorem wX0_meant_252 (hZ : zO b e D A X) (j : Nat → rx_K) (hj : ∀ k pc, [13, 48, 101, 252, 267, 284][k]? = some pc → rx_OK (zV b e D A X) mX0_meant 2 pc (j k)) : rx_OK (zV b e D A X) mX0_meant 2 252 (vX0_meant_252 j) := by
  unfold vX0_meant_252
  refine s_iload hZ.1 dX0_meant_252 ?_
  refine s_aload_n hZ.1 dX0_meant_254 rfl ?_
  refine yg0_14 dX0_meant_255 zw677 ?_
  exact s_icmp_ge dX0_meant_258 (by decide) (wX0_meant_362 hZ j hj) (wX0_meant_261 hZ j hj)
noncomputable def vX0_meant_249 (j : Nat → rx_K) : rx_K := o_const 0 (o_st rx_isI 8 ((vX0_meant_252 j)))
set_option maxRecDepth 20000 in
theorem wX0_meant_249 (hZ : zO b e D A X) (j : Nat → rx_K) (hj : ∀ k pc, [13, 48, 101, 252, 267, 284][k]? = some pc → rx_OK (zV b e D A X) mX0_meant 2 pc (j k)) : rx_OK (zV b e D A X) mX0_meant 2 249 (vX0_meant_249 j) := by
  unfold vX0_meant_249
  refine s_iconst dX0_meant_249 (by decide +kernel) ?_
  refine s_istore hZ.1 dX0_meant_250 (Nat.le_of_ble_eq_true rfl) ?_
  exact (wX0_meant_252 hZ j hj)
noncomputable def vX0_meant_243 (j : Nat → rx_K) : rx_K := o_inc 8 (1) ((j 1))
set_option maxRecDepth 20000 in
theorem wX0_meant_243 (hZ : zO b e D A X) (j : Nat → rx_K) (hj : ∀ k pc, [13, 48, 101, 252, 267, 284][k]? = some pc → rx_OK (zV b e D A X) mX0_meant 2 pc (j k)) : rx_OK (zV b e D A X) mX0_meant 2 243 (vX0_meant_243 j) := by
  unfold vX0_meant_243
  refine s_iinc hZ.1 dX0_meant_243 (Nat.le_of_ble_eq_true rfl) ?_
  exact s_goto dX0_meant_246 (by decide) (hj 1 48 rfl)
noncomputable def vX0_meant_237 (j : Nat → rx_K) : rx_K := o_inc 11 (1) ((j 2))
set_option maxRecDepth 20000 in
theorem wX0_meant_237 (hZ : zO b e D A X) (j : Nat → rx_K) (hj : ∀ k pc, [13, 48, 101, 252, 267, 284][k]? = some pc → rx_OK (zV b e D A X) mX0_meant 2 pc (j k)) : rx_OK (zV b e D A X) mX0_meant 2 237 (vX0_meant_237 j) := by
  unfold vX0_meant_237
  refine s_iinc hZ.1 dX0_meant_237 (Nat.le_of_ble_eq_true rfl) ?_
  exact s_goto dX0_meant_240 (by decide) (hj 2 101 rfl)
noncomputable def vX0_meant_229 (j : Nat → rx_K) : rx_K := o_ld rx_isR 0 (o_ld rx_isR 12 (o_ld rx_isR 4 (o_callV 2 0 FX0_consider ((vX0_meant_237 j)))))
set_option maxRecDepth 20000 in
theorem wX0_meant_229 (hZ : zO b e D A X) (j : Nat → rx_K) (hj : ∀ k pc, [13, 48, 101, 252, 267, 284][k]? = some pc → rx_OK (zV b e D A X) mX0_meant 2 pc (j k)) : rx_OK (zV b e D A X) mX0_meant 2 229 (vX0_meant_229 j) := by
  unfold vX0_meant_229
  refine s_aload_n hZ.1 dX0_meant_229 rfl ?_
  refine s_aload hZ.1 dX0_meant_230 ?_
  refine s_aload hZ.1 dX0_meant_232 ?_
  refine s_callV hZ.1 (Met_X0_consider hZ) (Nat.le_of_ble_eq_true rfl) vy_X0_consider zcl0 zw2128 zw73 (Or.inl zw2126) dX0_meant_234 ?_
  exact (wX0_meant_237 hZ j hj)
noncomputable def vX0_meant_205 (j : Nat → rx_K) : rx_K := o_ld rx_isR 0 (o_getf 0 0 (o_ld rx_isR 12 (o_ld rx_isR 0 (o_getf 0 15 (o_ld rx_isI 8 (o_ald 0 (o_ld rx_isI 1 (o_ld rx_isR 0 (o_getf 0 6 (o_callV 4 11 FX11_isLet_ (o_c1 rx_eq (vX0_meant_237 j) (vX0_meant_229 j))))))))))))
set_option maxRecDepth 20000 in
theorem wX0_meant_205 (hZ : zO b e D A X) (j : Nat → rx_K) (hj : ∀ k pc, [13, 48, 101, 252, 267, 284][k]? = some pc → rx_OK (zV b e D A X) mX0_meant 2 pc (j k)) : rx_OK (zV b e D A X) mX0_meant 2 205 (vX0_meant_205 j) := by
  unfold vX0_meant_205
  refine s_aload_n hZ.1 dX0_meant_205 rfl ?_
  refine yg0_0 dX0_meant_206 zw661 ?_
  refine s_aload hZ.1 dX0_meant_209 ?_
  refine s_aload_n hZ.1 dX0_meant_211 rfl ?_
  refine yg0_15 dX0_meant_212 zw678 ?_
  refine s_iload hZ.1 dX0_meant_215 ?_
  refine s_iald (tt := 0) rfl dX0_meant_217 ?_
  refine s_iload_n hZ.1 dX0_meant_218 rfl ?_
  refine s_aload_n hZ.1 dX0_meant_219 rfl ?_
  refine yg0_6 dX0_meant_220 zw669 ?_
  refine s_callV hZ.1 (Met_X11_isLet_ hZ) (Nat.le_of_ble_eq_true rfl) vy_X11_isLet_ zcl11 zw2072 zw2073 (Or.inl zw2071) dX0_meant_223 ?_
  exact s_if_eq dX0_meant_226 (by decide) (wX0_meant_237 hZ j hj) (wX0_meant_229 hZ j hj)
noncomputable def vX0_meant_200 (j : Nat → rx_K) : rx_K := o_ld rx_isI 10 (o_c1 rx_eq (vX0_meant_205 j) (vX0_meant_237 j))
set_option maxRecDepth 20000 in
theorem wX0_meant_200 (hZ : zO b e D A X) (j : Nat → rx_K) (hj : ∀ k pc, [13, 48, 101, 252, 267, 284][k]? = some pc → rx_OK (zV b e D A X) mX0_meant 2 pc (j k)) : rx_OK (zV b e D A X) mX0_meant 2 200 (vX0_meant_200 j) := by
  unfold vX0_meant_200
  refine s_iload hZ.1 dX0_meant_200 ?_
  exact s_if_ne dX0_meant_202 (by decide) (wX0_meant_237 hZ j hj) (wX0_meant_205 hZ j hj)
noncomputable def vX0_meant_192 (j : Nat → rx_K) : rx_K := o_ld rx_isR 12 (o_getf 7 2 (o_c1 rx_eq (vX0_meant_205 j) (vX0_meant_200 j)))
set_option maxRecDepth 20000 in
theorem wX0_meant_192 (hZ : zO b e D A X) (j : Nat → rx_K) (hj : ∀ k pc, [13, 48, 101, 252, 267, 284][k]? = some pc → rx_OK (zV b e D A X) mX0_meant 2 pc (j k)) : rx_OK (zV b e D A X) mX0_meant 2 192 (vX0_meant_192 j) := by
  unfold vX0_meant_192
  refine s_aload hZ.1 dX0_meant_192 ?_
  refine yg7_2 dX0_meant_194 zw963 ?_
  exact s_if_eq dX0_meant_197 (by decide) (wX0_meant_205 hZ j hj) (wX0_meant_200 hZ j hj)
noncomputable def vX0_meant_182 (j : Nat → rx_K) : rx_K := o_ld rx_isR 12 (o_getf 7 9 (o_ld rx_isI 6 (o_c2 rx_eq (vX0_meant_192 j) (vX0_meant_237 j))))
set_option maxRecDepth 20000 in
theorem wX0_meant_182 (hZ : zO b e D A X) (j : Nat → rx_K) (hj : ∀ k pc, [13, 48, 101, 252, 267, 284][k]? = some pc → rx_OK (zV b e D A X) mX0_meant 2 pc (j k)) : rx_OK (zV b e D A X) mX0_meant 2 182 (vX0_meant_182 j) := by
  unfold vX0_meant_182
  refine s_aload hZ.1 dX0_meant_182 ?_
  refine yg7_9 dX0_meant_184 zw1024 ?_
  refine s_iload hZ.1 dX0_meant_187 ?_
  exact s_icmp_ne dX0_meant_189 (by decide) (wX0_meant_237 hZ j hj) (wX0_meant_192 hZ j hj)
noncomputable def vX0_meant_175 (j : Nat → rx_K) : rx_K := o_st rx_isI 13 (o_ld rx_isI 13 (o_c1 rx_eq (vX0_meant_237 j) (vX0_meant_182 j)))
set_option maxRecDepth 20000 in
theorem wX0_meant_175 (hZ : zO b e D A X) (j : Nat → rx_K) (hj : ∀ k pc, [13, 48, 101, 252, 267, 284][k]? = some pc → rx_OK (zV b e D A X) mX0_meant 2 pc (j k)) : rx_OK (zV b e D A X) mX0_meant 2 175 (vX0_meant_175 j) := by
  unfold vX0_meant_175
  refine s_istore hZ.1 dX0_meant_175 (Nat.le_of_ble_eq_true rfl) ?_
  refine s_iload hZ.1 dX0_meant_177 ?_
  exact s_if_eq dX0_meant_179 (by decide) (wX0_meant_237 hZ j hj) (wX0_meant_182 hZ j hj)
noncomputable def vX0_meant_174 (j : Nat → rx_K) : rx_K := o_const 0 ((vX0_meant_175 j))
set_option maxRecDepth 20000 in
theorem wX0_meant_174 (hZ : zO b e D A X) (j : Nat → rx_K) (hj : ∀ k pc, [13, 48, 101, 252, 267, 284][k]? = some pc → rx_OK (zV b e D A X) mX0_meant 2 pc (j k)) : rx_OK (zV b e D A X) mX0_meant 2 174 (vX0_meant_174 j) := by
  unfold vX0_meant_174
  refine s_iconst dX0_meant_174 (by decide +kernel) ?_
  exact (wX0_meant_175 hZ j hj)
noncomputable def vX0_meant_170 (j : Nat → rx_K) : rx_K := o_const 8 ((vX0_meant_175 j))
set_option maxRecDepth 20000 in
theorem wX0_meant_170 (hZ : zO b e D A X) (j : Nat → rx_K) (hj : ∀ k pc, [13, 48, 101, 252, 267, 284][k]? = some pc → rx_OK (zV b e D A X) mX0_meant 2 pc (j k)) : rx_OK (zV b e D A X) mX0_meant 2 170 (vX0_meant_170 j) := by
  unfold vX0_meant_170
  refine s_iconst dX0_meant_170 (by decide +kernel) ?_
  exact s_goto dX0_meant_171 (by decide) (wX0_meant_175 hZ j hj)
noncomputable def vX0_meant_162 (j : Nat → rx_K) : rx_K := o_ld rx_isR 12 (o_getf 7 5 (o_c1 rx_eq (vX0_meant_170 j) (vX0_meant_174 j)))
set_option maxRecDepth 20000 in
theorem wX0_meant_162 (hZ : zO b e D A X) (j : Nat → rx_K) (hj : ∀ k pc, [13, 48, 101, 252, 267, 284][k]? = some pc → rx_OK (zV b e D A X) mX0_meant 2 pc (j k)) : rx_OK (zV b e D A X) mX0_meant 2 162 (vX0_meant_162 j) := by
  unfold vX0_meant_162
  refine s_aload hZ.1 dX0_meant_162 ?_
  refine yg7_5 dX0_meant_164 zw994 ?_
  exact s_if_ne dX0_meant_167 (by decide) (wX0_meant_174 hZ j hj) (wX0_meant_170 hZ j hj)
noncomputable def vX0_meant_152 (j : Nat → rx_K) : rx_K := o_ld rx_isR 12 (o_getf 7 7 (o_ld rx_isL 2 (o_bc (fun x y => lg_cmp x y) (o_c1 rx_eq (vX0_meant_162 j) (vX0_meant_174 j)))))
set_option maxRecDepth 20000 in
theorem wX0_meant_152 (hZ : zO b e D A X) (j : Nat → rx_K) (hj : ∀ k pc, [13, 48, 101, 252, 267, 284][k]? = some pc → rx_OK (zV b e D A X) mX0_meant 2 pc (j k)) : rx_OK (zV b e D A X) mX0_meant 2 152 (vX0_meant_152 j) := by
  unfold vX0_meant_152
  refine s_aload hZ.1 dX0_meant_152 ?_
  refine yg7_7 dX0_meant_154 zw1009 ?_
  refine s_lload_n hZ.1 dX0_meant_157 rfl ?_
  refine s_lcmp dX0_meant_158 ?_
  exact s_if_ne dX0_meant_159 (by decide) (wX0_meant_174 hZ j hj) (wX0_meant_162 hZ j hj)
noncomputable def vX0_meant_143 (j : Nat → rx_K) : rx_K := o_ld rx_isR 12 (o_getf 7 0 (o_const 8 (o_c2 rx_eq (vX0_meant_152 j) (vX0_meant_174 j))))
set_option maxRecDepth 20000 in
theorem wX0_meant_143 (hZ : zO b e D A X) (j : Nat → rx_K) (hj : ∀ k pc, [13, 48, 101, 252, 267, 284][k]? = some pc → rx_OK (zV b e D A X) mX0_meant 2 pc (j k)) : rx_OK (zV b e D A X) mX0_meant 2 143 (vX0_meant_143 j) := by
  unfold vX0_meant_143
  refine s_aload hZ.1 dX0_meant_143 ?_
  refine yg7_0 dX0_meant_145 zw945 ?_
  refine s_iconst dX0_meant_148 (by decide +kernel) ?_
  exact s_icmp_ne dX0_meant_149 (by decide) (wX0_meant_174 hZ j hj) (wX0_meant_152 hZ j hj)
noncomputable def vX0_meant_139 (j : Nat → rx_K) : rx_K := o_const 0 ((vX0_meant_175 j))
set_option maxRecDepth 20000 in
theorem wX0_meant_139 (hZ : zO b e D A X) (j : Nat → rx_K) (hj : ∀ k pc, [13, 48, 101, 252, 267, 284][k]? = some pc → rx_OK (zV b e D A X) mX0_meant 2 pc (j k)) : rx_OK (zV b e D A X) mX0_meant 2 139 (vX0_meant_139 j) := by
  unfold vX0_meant_139
  refine s_iconst dX0_meant_139 (by decide +kernel) ?_
  exact s_goto dX0_meant_140 (by decide) (wX0_meant_175 hZ j hj)
noncomputable def vX0_meant_135 (j : Nat → rx_K) : rx_K := o_const 8 ((vX0_meant_175 j))
set_option maxRecDepth 20000 in
theorem wX0_meant_135 (hZ : zO b e D A X) (j : Nat → rx_K) (hj : ∀ k pc, [13, 48, 101, 252, 267, 284][k]? = some pc → rx_OK (zV b e D A X) mX0_meant 2 pc (j k)) : rx_OK (zV b e D A X) mX0_meant 2 135 (vX0_meant_135 j) := by
  unfold vX0_meant_135
  refine s_iconst dX0_meant_135 (by decide +kernel) ?_
  exact s_goto dX0_meant_136 (by decide) (wX0_meant_175 hZ j hj)
noncomputable def vX0_meant_126 (j : Nat → rx_K) : rx_K := o_ld rx_isR 12 (o_getf 7 0 (o_const 16 (o_c2 rx_eq (vX0_meant_135 j) (vX0_meant_139 j))))
set_option maxRecDepth 20000 in
theorem wX0_meant_126 (hZ : zO b e D A X) (j : Nat → rx_K) (hj : ∀ k pc, [13, 48, 101, 252, 267, 284][k]? = some pc → rx_OK (zV b e D A X) mX0_meant 2 pc (j k)) : rx_OK (zV b e D A X) mX0_meant 2 126 (vX0_meant_126 j) := by
  unfold vX0_meant_126
  refine s_aload hZ.1 dX0_meant_126 ?_
  refine yg7_0 dX0_meant_128 zw945 ?_
  refine s_iconst dX0_meant_131 (by decide +kernel) ?_
  exact s_icmp_ne dX0_meant_132 (by decide) (wX0_meant_139 hZ j hj) (wX0_meant_135 hZ j hj)
noncomputable def vX0_meant_111 (j : Nat → rx_K) : rx_K := o_ld rx_isR 9 (o_getf 10 14 (o_ld rx_isI 11 (o_ald 5 (o_st rx_isR 12 (o_ld rx_isI 5 (o_c1 rx_eq (vX0_meant_143 j) (vX0_meant_126 j)))))))
set_option maxRecDepth 20000 in
theorem wX0_meant_111 (hZ : zO b e D A X) (j : Nat → rx_K) (hj : ∀ k pc, [13, 48, 101, 252, 267, 284][k]? = some pc → rx_OK (zV b e D A X) mX0_meant 2 pc (j k)) : rx_OK (zV b e D A X) mX0_meant 2 111 (vX0_meant_111 j) := by
  unfold vX0_meant_111
  refine s_aload hZ.1 dX0_meant_111 ?_
  refine yg10_14 dX0_meant_113 zw860 ?_
  refine s_iload hZ.1 dX0_meant_116 ?_
  refine s_aald (tt := 5) rfl rfl dX0_meant_118 ?_
  refine s_astore hZ.1 dX0_meant_119 (Nat.le_of_ble_eq_true rfl) ?_
  refine s_iload hZ.1 dX0_meant_121 ?_
  exact s_if_eq dX0_meant_123 (by decide) (wX0_meant_143 hZ j hj) (wX0_meant_126 hZ j hj)
noncomputable def vX0_meant_101 (j : Nat → rx_K) : rx_K := o_ld rx_isI 11 (o_ld rx_isR 9 (o_getf 10 15 (o_c2 rx_lt (vX0_meant_111 j) (vX0_meant_243 j))))
set_option maxRecDepth 20000 in
theorem wX0_meant_101 (hZ : zO b e D A X) (j : Nat → rx_K) (hj : ∀ k pc, [13, 48, 101, 252, 267, 284][k]? = some pc → rx_OK (zV b e D A X) mX0_meant 2 pc (j k)) : rx_OK (zV b e D A X) mX0_meant 2 101 (vX0_meant_101 j) := by
  unfold vX0_meant_101
  refine s_iload hZ.1 dX0_meant_101 ?_
  refine s_aload hZ.1 dX0_meant_103 ?_
  refine yg10_15 dX0_meant_105 zw868 ?_
  exact s_icmp_ge dX0_meant_108 (by decide) (wX0_meant_243 hZ j hj) (wX0_meant_111 hZ j hj)
noncomputable def vX0_meant_96 (j : Nat → rx_K) : rx_K := o_st rx_isI 10 (o_const 0 (o_st rx_isI 11 ((vX0_meant_101 j))))
set_option maxRecDepth 20000 in
theorem wX0_meant_96 (hZ : zO b e D A X) (j : Nat → rx_K) (hj : ∀ k pc, [13, 48, 101, 252, 267, 284][k]? = some pc → rx_OK (zV b e D A X) mX0_meant 2 pc (j k)) : rx_OK (zV b e D A X) mX0_meant 2 96 (vX0_meant_96 j) := by
  unfold vX0_meant_96
  refine s_istore hZ.1 dX0_meant_96 (Nat.le_of_ble_eq_true rfl) ?_
  refine s_iconst dX0_meant_98 (by decide +kernel) ?_
  refine s_istore hZ.1 dX0_meant_99 (Nat.le_of_ble_eq_true rfl) ?_
  exact (wX0_meant_101 hZ j hj)
noncomputable def vX0_meant_95 (j : Nat → rx_K) : rx_K := o_const 0 ((vX0_meant_96 j))
set_option maxRecDepth 20000 in
theorem wX0_meant_95 (hZ : zO b e D A X) (j : Nat → rx_K) (hj : ∀ k pc, [13, 48, 101, 252, 267, 284][k]? = some pc → rx_OK (zV b e D A X) mX0_meant 2 pc (j k)) : rx_OK (zV b e D A X) mX0_meant 2 95 (vX0_meant_95 j) := by
  unfold vX0_meant_95
  refine s_iconst dX0_meant_95 (by decide +kernel) ?_
  exact (wX0_meant_96 hZ j hj)
noncomputable def vX0_meant_91 (j : Nat → rx_K) : rx_K := o_const 8 ((vX0_meant_96 j))
set_option maxRecDepth 20000 in
theorem wX0_meant_91 (hZ : zO b e D A X) (j : Nat → rx_K) (hj : ∀ k pc, [13, 48, 101, 252, 267, 284][k]? = some pc → rx_OK (zV b e D A X) mX0_meant 2 pc (j k)) : rx_OK (zV b e D A X) mX0_meant 2 91 (vX0_meant_91 j) := by
  unfold vX0_meant_91
  refine s_iconst dX0_meant_91 (by decide +kernel) ?_
  exact s_goto dX0_meant_92 (by decide) (wX0_meant_96 hZ j hj)
noncomputable def vX0_meant_80 (j : Nat → rx_K) : rx_K := o_ld rx_isR 0 (o_getf 0 15 (o_ld rx_isI 8 (o_ald 0 (o_ld rx_isI 1 (o_c2 rx_eq (vX0_meant_95 j) (vX0_meant_91 j))))))
set_option maxRecDepth 20000 in
theorem wX0_meant_80 (hZ : zO b e D A X) (j : Nat → rx_K) (hj : ∀ k pc, [13, 48, 101, 252, 267, 284][k]? = some pc → rx_OK (zV b e D A X) mX0_meant 2 pc (j k)) : rx_OK (zV b e D A X) mX0_meant 2 80 (vX0_meant_80 j) := by
  unfold vX0_meant_80
  refine s_aload_n hZ.1 dX0_meant_80 rfl ?_
  refine yg0_15 dX0_meant_81 zw678 ?_
  refine s_iload hZ.1 dX0_meant_84 ?_
  refine s_iald (tt := 0) rfl dX0_meant_86 ?_
  refine s_iload_n hZ.1 dX0_meant_87 rfl ?_
  exact s_icmp_eq dX0_meant_88 (by decide) (wX0_meant_95 hZ j hj) (wX0_meant_91 hZ j hj)
noncomputable def vX0_meant_55 (j : Nat → rx_K) : rx_K := o_ld rx_isR 0 (o_getf 0 0 (o_getf 11 1 (o_ld rx_isR 0 (o_getf 0 15 (o_ld rx_isI 8 (o_ald 0 (o_ald 4 (o_st rx_isR 9 (o_ld rx_isR 9 (o_getf 10 4 (o_c1 rx_eq (vX0_meant_95 j) (vX0_meant_80 j))))))))))))
set_option maxRecDepth 20000 in
theorem wX0_meant_55 (hZ : zO b e D A X) (j : Nat → rx_K) (hj : ∀ k pc, [13, 48, 101, 252, 267, 284][k]? = some pc → rx_OK (zV b e D A X) mX0_meant 2 pc (j k)) : rx_OK (zV b e D A X) mX0_meant 2 55 (vX0_meant_55 j) := by
  unfold vX0_meant_55
  refine s_aload_n hZ.1 dX0_meant_55 rfl ?_
  refine yg0_0 dX0_meant_56 zw661 ?_
  refine yg11_1 dX0_meant_59 zw1257 ?_
  refine s_aload_n hZ.1 dX0_meant_62 rfl ?_
  refine yg0_15 dX0_meant_63 zw678 ?_
  refine s_iload hZ.1 dX0_meant_66 ?_
  refine s_iald (tt := 0) rfl dX0_meant_68 ?_
  refine s_aald (tt := 4) rfl rfl dX0_meant_69 ?_
  refine s_astore hZ.1 dX0_meant_70 (Nat.le_of_ble_eq_true rfl) ?_
  refine s_aload hZ.1 dX0_meant_72 ?_
  refine yg10_4 dX0_meant_74 zw799 ?_
  exact s_if_eq dX0_meant_77 (by decide) (wX0_meant_95 hZ j hj) (wX0_meant_80 hZ j hj)
noncomputable def vX0_meant_48 (j : Nat → rx_K) : rx_K := o_ld rx_isI 8 (o_ld rx_isI 7 (o_c2 rx_lt (vX0_meant_55 j) (vX0_meant_249 j)))
set_option maxRecDepth 20000 in
theorem wX0_meant_48 (hZ : zO b e D A X) (j : Nat → rx_K) (hj : ∀ k pc, [13, 48, 101, 252, 267, 284][k]? = some pc → rx_OK (zV b e D A X) mX0_meant 2 pc (j k)) : rx_OK (zV b e D A X) mX0_meant 2 48 (vX0_meant_48 j) := by
  unfold vX0_meant_48
  refine s_iload hZ.1 dX0_meant_48 ?_
  refine s_iload hZ.1 dX0_meant_50 ?_
  exact s_icmp_ge dX0_meant_52 (by decide) (wX0_meant_249 hZ j hj) (wX0_meant_55 hZ j hj)
noncomputable def vX0_meant_31 (j : Nat → rx_K) : rx_K := o_ld rx_isR 0 (o_ld rx_isI 1 (o_ld rx_isI 5 (o_callV 2 0 FX0_whereLooked (o_st rx_isI 7 (o_ld rx_isR 0 (o_const 0 (o_putf rx_isI 0 14 (o_const 0 (o_st rx_isI 8 ((vX0_meant_48 j)))))))))))
set_option maxRecDepth 20000 in
theorem wX0_meant_31 (hZ : zO b e D A X) (j : Nat → rx_K) (hj : ∀ k pc, [13, 48, 101, 252, 267, 284][k]? = some pc → rx_OK (zV b e D A X) mX0_meant 2 pc (j k)) : rx_OK (zV b e D A X) mX0_meant 2 31 (vX0_meant_31 j) := by
  unfold vX0_meant_31
  refine s_aload_n hZ.1 dX0_meant_31 rfl ?_
  refine s_iload_n hZ.1 dX0_meant_32 rfl ?_
  refine s_iload hZ.1 dX0_meant_33 ?_
  refine s_callV hZ.1 (Met_X0_whereLooked hZ) (Nat.le_of_ble_eq_true rfl) vy_X0_whereLooked zcl0 zw2123 zw72 (Or.inl zw2121) dX0_meant_35 ?_
  refine s_istore hZ.1 dX0_meant_38 (Nat.le_of_ble_eq_true rfl) ?_
  refine s_aload_n hZ.1 dX0_meant_40 rfl ?_
  refine s_iconst dX0_meant_41 (by decide +kernel) ?_
  refine yp0_14 hZ.1 dX0_meant_42 zw677 ?_
  refine s_iconst dX0_meant_45 (by decide +kernel) ?_
  refine s_istore hZ.1 dX0_meant_46 (Nat.le_of_ble_eq_true rfl) ?_
  exact (wX0_meant_48 hZ j hj)
noncomputable def vX0_meant_18 (j : Nat → rx_K) : rx_K := o_inc 6 (1) (o_ld rx_isR 7 (o_getf 8 8 (o_st rx_isR 7 ((j 0)))))
set_option maxRecDepth 20000 in
theorem wX0_meant_18 (hZ : zO b e D A X) (j : Nat → rx_K) (hj : ∀ k pc, [13, 48, 101, 252, 267, 284][k]? = some pc → rx_OK (zV b e D A X) mX0_meant 2 pc (j k)) : rx_OK (zV b e D A X) mX0_meant 2 18 (vX0_meant_18 j) := by
  unfold vX0_meant_18
  refine s_iinc hZ.1 dX0_meant_18 (Nat.le_of_ble_eq_true rfl) ?_
  refine s_aload hZ.1 dX0_meant_21 ?_
  refine yg8_8 dX0_meant_23 zw487 ?_
  refine s_astore hZ.1 dX0_meant_26 (Nat.le_of_ble_eq_true rfl) ?_
  exact s_goto dX0_meant_28 (by decide) (hj 0 13 rfl)
noncomputable def vX0_meant_13 (j : Nat → rx_K) : rx_K := o_ld rx_isR 7 (o_nul (vX0_meant_31 j) (vX0_meant_18 j))
set_option maxRecDepth 20000 in
theorem wX0_meant_13 (hZ : zO b e D A X) (j : Nat → rx_K) (hj : ∀ k pc, [13, 48, 101, 252, 267, 284][k]? = some pc → rx_OK (zV b e D A X) mX0_meant 2 pc (j k)) : rx_OK (zV b e D A X) mX0_meant 2 13 (vX0_meant_13 j) := by
  unfold vX0_meant_13
  refine s_aload hZ.1 dX0_meant_13 ?_
  exact s_ifnull dX0_meant_15 (by decide) (wX0_meant_31 hZ j hj) (wX0_meant_18 hZ j hj)
noncomputable def vX0_meant_6 (j : Nat → rx_K) : rx_K := o_const 0 (o_st rx_isI 6 (o_ld rx_isR 4 (o_st rx_isR 7 ((vX0_meant_13 j)))))
set_option maxRecDepth 20000 in
theorem wX0_meant_6 (hZ : zO b e D A X) (j : Nat → rx_K) (hj : ∀ k pc, [13, 48, 101, 252, 267, 284][k]? = some pc → rx_OK (zV b e D A X) mX0_meant 2 pc (j k)) : rx_OK (zV b e D A X) mX0_meant 2 6 (vX0_meant_6 j) := by
  unfold vX0_meant_6
  refine s_iconst dX0_meant_6 (by decide +kernel) ?_
  refine s_istore hZ.1 dX0_meant_7 (Nat.le_of_ble_eq_true rfl) ?_
  refine s_aload hZ.1 dX0_meant_9 ?_
  refine s_astore hZ.1 dX0_meant_11 (Nat.le_of_ble_eq_true rfl) ?_
  exact (wX0_meant_13 hZ j hj)
noncomputable def vX0_meant_4 (j : Nat → rx_K) : rx_K := o_const 3 (o_ret1 rx_isR)
set_option maxRecDepth 20000 in
theorem wX0_meant_4 (hZ : zO b e D A X) (j : Nat → rx_K) (hj : ∀ k pc, [13, 48, 101, 252, 267, 284][k]? = some pc → rx_OK (zV b e D A X) mX0_meant 2 pc (j k)) : rx_OK (zV b e D A X) mX0_meant 2 4 (vX0_meant_4 j) := by
  unfold vX0_meant_4
  refine s_null dX0_meant_4 ?_
  exact s_aret hZ.1 rfl (Or.inl ⟨_, rfl⟩) dX0_meant_5
noncomputable def vX0_meant_0 (j : Nat → rx_K) : rx_K := o_ld rx_isI 1 (o_c1 rx_lt (vX0_meant_4 j) (vX0_meant_6 j))
set_option maxRecDepth 20000 in
theorem wX0_meant_0 (hZ : zO b e D A X) (j : Nat → rx_K) (hj : ∀ k pc, [13, 48, 101, 252, 267, 284][k]? = some pc → rx_OK (zV b e D A X) mX0_meant 2 pc (j k)) : rx_OK (zV b e D A X) mX0_meant 2 0 (vX0_meant_0 j) := by
  unfold vX0_meant_0
  refine s_iload_n hZ.1 dX0_meant_0 rfl ?_
  exact s_if_ge dX0_meant_1 (by decide) (wX0_meant_6 hZ j hj) (wX0_meant_4 hZ j hj)
noncomputable def vhX0_meant (j : Nat → rx_K) : List rx_K := [vX0_meant_13 j, vX0_meant_48 j, vX0_meant_101 j, vX0_meant_252 j, vX0_meant_267 j, vX0_meant_284 j]
theorem vlX0_meant (hZ : zO b e D A X) : ∀ n k pc, [13, 48, 101, 252, 267, 284][k]? = some pc → rx_OK (zV b e D A X) mX0_meant 2 pc (rx_J (vhX0_meant) n k) := rx_loop fun j hj k pc h => by
  match k, h with
  | 0, h =>
    have e9 := Option.some.inj (show some 13 = some pc from h)
    subst e9
    exact wX0_meant_13 hZ j hj
  | 1, h =>
    have e9 := Option.some.inj (show some 48 = some pc from h)
    subst e9
    exact wX0_meant_48 hZ j hj
  | 2, h =>
    have e9 := Option.some.inj (show some 101 = some pc from h)
    subst e9
    exact wX0_meant_101 hZ j hj
  | 3, h =>
    have e9 := Option.some.inj (show some 252 = some pc from h)
    subst e9
    exact wX0_meant_252 hZ j hj
  | 4, h =>
    have e9 := Option.some.inj (show some 267 = some pc from h)
    subst e9
    exact wX0_meant_267 hZ j hj
  | 5, h =>
    have e9 := Option.some.inj (show some 284 = some pc from h)
    subst e9
    exact wX0_meant_284 hZ j hj
  | _ + 6, h => exact absurd h (by simp)
noncomputable def FX0_meant : List Nat → rx_H → Option (Nat × rx_H) := rx_ent 14 (vX0_meant_0 (rx_J (vhX0_meant) 4000000000))
theorem Met_X0_meant (hZ : zO b e D A X) : rx_Met (zV b e D A X) 2 yX0_meant mX0_meant (FX0_meant) := rx_entry hZ.1 (wX0_meant_0 hZ _ (vlX0_meant hZ 4000000000)) (by decide +kernel) rfl (fun h => by cases h)
abbrev mX11_find : rx_M := (RX11, cX11_find, 4, (some .int), false)
theorem vy_X11_find : rx_Y (zV b e D A X) yX11_find mX11_find 1 := ⟨zw1576, zw423, by decide, by decide +kernel, by decide +kernel, by decide +kernel⟩
noncomputable def vX11_find_58 (j : Nat → rx_K) : rx_K := o_ret1 rx_isI
set_option maxRecDepth 20000 in
theorem wX11_find_58 (hZ : zO b e D A X) (j : Nat → rx_K) (hj : ∀ k pc, [2][k]? = some pc → rx_OK (zV b e D A X) mX11_find 0 pc (j k)) : rx_OK (zV b e D A X) mX11_find 0 58 (vX11_find_58 j) := by
  unfold vX11_find_58
  exact s_iret hZ.1 rfl dX11_find_58
noncomputable def vX11_find_56 (j : Nat → rx_K) : rx_K := o_const 34359738352 ((vX11_find_58 j))
set_option maxRecDepth 20000 in
theorem wX11_find_56 (hZ : zO b e D A X) (j : Nat → rx_K) (hj : ∀ k pc, [2][k]? = some pc → rx_OK (zV b e D A X) mX11_find 0 pc (j k)) : rx_OK (zV b e D A X) mX11_find 0 56 (vX11_find_56 j) := by
  unfold vX11_find_56
  refine s_bipush dX11_find_56 (by decide +kernel) ?_
  exact (wX11_find_58 hZ j hj)
noncomputable def vX11_find_52 (j : Nat → rx_K) : rx_K := o_const 8 ((vX11_find_58 j))
set_option maxRecDepth 20000 in
theorem wX11_find_52 (hZ : zO b e D A X) (j : Nat → rx_K) (hj : ∀ k pc, [2][k]? = some pc → rx_OK (zV b e D A X) mX11_find 0 pc (j k)) : rx_OK (zV b e D A X) mX11_find 0 52 (vX11_find_52 j) := by
  unfold vX11_find_52
  refine s_iconst dX11_find_52 (by decide +kernel) ?_
  exact s_goto dX11_find_53 (by decide) (wX11_find_58 hZ j hj)
noncomputable def vX11_find_44 (j : Nat → rx_K) : rx_K := o_ld rx_isL 1 (o_const 116472515775520833537 (o_bc (fun x y => lg_cmp x y) (o_c1 rx_eq (vX11_find_52 j) (vX11_find_56 j))))
set_option maxRecDepth 20000 in
theorem wX11_find_44 (hZ : zO b e D A X) (j : Nat → rx_K) (hj : ∀ k pc, [2][k]? = some pc → rx_OK (zV b e D A X) mX11_find 0 pc (j k)) : rx_OK (zV b e D A X) mX11_find 0 44 (vX11_find_44 j) := by
  unfold vX11_find_44
  refine s_lload_n hZ.1 dX11_find_44 rfl ?_
  refine s_ldc2 dX11_find_45 zw1247 (by decide +kernel) ?_
  refine s_lcmp dX11_find_48 ?_
  exact s_if_ne dX11_find_49 (by decide) (wX11_find_56 hZ j hj) (wX11_find_52 hZ j hj)
noncomputable def vX11_find_40 (j : Nat → rx_K) : rx_K := o_const 0 ((vX11_find_58 j))
set_option maxRecDepth 20000 in
theorem wX11_find_40 (hZ : zO b e D A X) (j : Nat → rx_K) (hj : ∀ k pc, [2][k]? = some pc → rx_OK (zV b e D A X) mX11_find 0 pc (j k)) : rx_OK (zV b e D A X) mX11_find 0 40 (vX11_find_40 j) := by
  unfold vX11_find_40
  refine s_iconst dX11_find_40 (by decide +kernel) ?_
  exact s_goto dX11_find_41 (by decide) (wX11_find_58 hZ j hj)
noncomputable def vX11_find_32 (j : Nat → rx_K) : rx_K := o_ld rx_isL 1 (o_const 115324555267378511873 (o_bc (fun x y => lg_cmp x y) (o_c1 rx_eq (vX11_find_40 j) (vX11_find_44 j))))
set_option maxRecDepth 20000 in
theorem wX11_find_32 (hZ : zO b e D A X) (j : Nat → rx_K) (hj : ∀ k pc, [2][k]? = some pc → rx_OK (zV b e D A X) mX11_find 0 pc (j k)) : rx_OK (zV b e D A X) mX11_find 0 32 (vX11_find_32 j) := by
  unfold vX11_find_32
  refine s_lload_n hZ.1 dX11_find_32 rfl ?_
  refine s_ldc2 dX11_find_33 zw1225 (by decide +kernel) ?_
  refine s_lcmp dX11_find_36 ?_
  exact s_if_ne dX11_find_37 (by decide) (wX11_find_44 hZ j hj) (wX11_find_40 hZ j hj)
noncomputable def vX11_find_26 (j : Nat → rx_K) : rx_K := o_inc 3 (1) ((j 0))
set_option maxRecDepth 20000 in
theorem wX11_find_26 (hZ : zO b e D A X) (j : Nat → rx_K) (hj : ∀ k pc, [2][k]? = some pc → rx_OK (zV b e D A X) mX11_find 0 pc (j k)) : rx_OK (zV b e D A X) mX11_find 0 26 (vX11_find_26 j) := by
  unfold vX11_find_26
  refine s_iinc hZ.1 dX11_find_26 (Nat.le_of_ble_eq_true rfl) ?_
  exact s_goto dX11_find_29 (by decide) (hj 0 2 rfl)
noncomputable def vX11_find_24 (j : Nat → rx_K) : rx_K := o_ld rx_isI 3 (o_ret1 rx_isI)
set_option maxRecDepth 20000 in
theorem wX11_find_24 (hZ : zO b e D A X) (j : Nat → rx_K) (hj : ∀ k pc, [2][k]? = some pc → rx_OK (zV b e D A X) mX11_find 0 pc (j k)) : rx_OK (zV b e D A X) mX11_find 0 24 (vX11_find_24 j) := by
  unfold vX11_find_24
  refine s_iload_n hZ.1 dX11_find_24 rfl ?_
  exact s_iret hZ.1 rfl dX11_find_25
noncomputable def vX11_find_10 (j : Nat → rx_K) : rx_K := o_ld rx_isR 0 (o_getf 11 1 (o_ld rx_isI 3 (o_ald 4 (o_getf 10 1 (o_ld rx_isL 1 (o_bc (fun x y => lg_cmp x y) (o_c1 rx_eq (vX11_find_24 j) (vX11_find_26 j))))))))
set_option maxRecDepth 20000 in
theorem wX11_find_10 (hZ : zO b e D A X) (j : Nat → rx_K) (hj : ∀ k pc, [2][k]? = some pc → rx_OK (zV b e D A X) mX11_find 0 pc (j k)) : rx_OK (zV b e D A X) mX11_find 0 10 (vX11_find_10 j) := by
  unfold vX11_find_10
  refine s_aload_n hZ.1 dX11_find_10 rfl ?_
  refine yg11_1 dX11_find_11 zw1252 ?_
  refine s_iload_n hZ.1 dX11_find_14 rfl ?_
  refine s_aald (tt := 4) rfl rfl dX11_find_15 ?_
  refine yg10_1 dX11_find_16 zw768 ?_
  refine s_lload_n hZ.1 dX11_find_19 rfl ?_
  refine s_lcmp dX11_find_20 ?_
  exact s_if_ne dX11_find_21 (by decide) (wX11_find_26 hZ j hj) (wX11_find_24 hZ j hj)
noncomputable def vX11_find_2 (j : Nat → rx_K) : rx_K := o_ld rx_isI 3 (o_ld rx_isR 0 (o_getf 11 2 (o_c2 rx_lt (vX11_find_10 j) (vX11_find_32 j))))
set_option maxRecDepth 20000 in
theorem wX11_find_2 (hZ : zO b e D A X) (j : Nat → rx_K) (hj : ∀ k pc, [2][k]? = some pc → rx_OK (zV b e D A X) mX11_find 0 pc (j k)) : rx_OK (zV b e D A X) mX11_find 0 2 (vX11_find_2 j) := by
  unfold vX11_find_2
  refine s_iload_n hZ.1 dX11_find_2 rfl ?_
  refine s_aload_n hZ.1 dX11_find_3 rfl ?_
  refine yg11_2 dX11_find_4 zw1260 ?_
  exact s_icmp_ge dX11_find_7 (by decide) (wX11_find_32 hZ j hj) (wX11_find_10 hZ j hj)
noncomputable def vX11_find_0 (j : Nat → rx_K) : rx_K := o_const 16 (o_st rx_isI 3 ((vX11_find_2 j)))
set_option maxRecDepth 20000 in
theorem wX11_find_0 (hZ : zO b e D A X) (j : Nat → rx_K) (hj : ∀ k pc, [2][k]? = some pc → rx_OK (zV b e D A X) mX11_find 0 pc (j k)) : rx_OK (zV b e D A X) mX11_find 0 0 (vX11_find_0 j) := by
  unfold vX11_find_0
  refine s_iconst dX11_find_0 (by decide +kernel) ?_
  refine s_istore_n hZ.1 dX11_find_1 rfl (Nat.le_of_ble_eq_true rfl) ?_
  exact (wX11_find_2 hZ j hj)
noncomputable def vhX11_find (j : Nat → rx_K) : List rx_K := [vX11_find_2 j]
theorem vlX11_find (hZ : zO b e D A X) : ∀ n k pc, [2][k]? = some pc → rx_OK (zV b e D A X) mX11_find 0 pc (rx_J (vhX11_find) n k) := rx_loop fun j hj k pc h => by
  match k, h with
  | 0, h =>
    have e9 := Option.some.inj (show some 2 = some pc from h)
    subst e9
    exact wX11_find_2 hZ j hj
  | _ + 1, h => exact absurd h (by simp)
noncomputable def FX11_find : List Nat → rx_H → Option (Nat × rx_H) := rx_ent 4 (vX11_find_0 (rx_J (vhX11_find) 4000000000))
theorem Met_X11_find (hZ : zO b e D A X) : rx_Met (zV b e D A X) 0 yX11_find mX11_find (FX11_find) := rx_entry hZ.1 (wX11_find_0 hZ _ (vlX11_find hZ 4000000000)) (by decide +kernel) rfl (fun h => by cases h)
abbrev mX11_isLet : rx_M := (RX11, cX11_isLet, 3, (some .boolean), false)
theorem vy_X11_isLet : rx_Y (zV b e D A X) yX11_isLet mX11_isLet 2 := ⟨zw1947, zw423, by decide, by decide +kernel, by decide +kernel, by decide +kernel⟩
noncomputable def vX11_isLet_45 : rx_K := o_ret1 rx_isZ
set_option maxRecDepth 20000 in
theorem wX11_isLet_45 (hZ : zO b e D A X) : rx_OK (zV b e D A X) mX11_isLet 0 45 vX11_isLet_45 := by
  unfold vX11_isLet_45
  exact s_zret rx_z_ok rfl dX11_isLet_45
noncomputable def vX11_isLet_44 : rx_K := o_const 0 (vX11_isLet_45)
set_option maxRecDepth 20000 in
theorem wX11_isLet_44 (hZ : zO b e D A X) : rx_OK (zV b e D A X) mX11_isLet 0 44 vX11_isLet_44 := by
  unfold vX11_isLet_44
  refine s_iconst dX11_isLet_44 (by decide +kernel) ?_
  exact (wX11_isLet_45 hZ)
noncomputable def vX11_isLet_40 : rx_K := o_const 8 (vX11_isLet_45)
set_option maxRecDepth 20000 in
theorem wX11_isLet_40 (hZ : zO b e D A X) : rx_OK (zV b e D A X) mX11_isLet 0 40 vX11_isLet_40 := by
  unfold vX11_isLet_40
  refine s_iconst dX11_isLet_40 (by decide +kernel) ?_
  exact s_goto dX11_isLet_41 (by decide) (wX11_isLet_45 hZ)
noncomputable def vX11_isLet_12 : rx_K := o_ld rx_isR 0 (o_getf 11 1 (o_ld rx_isI 1 (o_ald 4 (o_getf 10 1 (o_const 472 (o_bs (fun x y => (x.toUInt64 >>> (y.toInt64.toUInt64 &&& Int64.toUInt64 63)).toInt64) (o_ld rx_isR 0 (o_getf 11 1 (o_ld rx_isI 2 (o_ald 4 (o_getf 10 1 (o_const 472 (o_bs (fun x y => (x.toUInt64 >>> (y.toInt64.toUInt64 &&& Int64.toUInt64 63)).toInt64) (o_bc (fun x y => lg_cmp x y) (o_c1 rx_eq vX11_isLet_40 vX11_isLet_44)))))))))))))))
set_option maxRecDepth 20000 in
theorem wX11_isLet_12 (hZ : zO b e D A X) : rx_OK (zV b e D A X) mX11_isLet 0 12 vX11_isLet_12 := by
  unfold vX11_isLet_12
  refine s_aload_n hZ.1 dX11_isLet_12 rfl ?_
  refine yg11_1 dX11_isLet_13 zw1252 ?_
  refine s_iload_n hZ.1 dX11_isLet_16 rfl ?_
  refine s_aald (tt := 4) rfl rfl dX11_isLet_17 ?_
  refine yg10_1 dX11_isLet_18 zw768 ?_
  refine s_bipush dX11_isLet_21 (by decide +kernel) ?_
  refine s_lushr dX11_isLet_23 ?_
  refine s_aload_n hZ.1 dX11_isLet_24 rfl ?_
  refine yg11_1 dX11_isLet_25 zw1252 ?_
  refine s_iload_n hZ.1 dX11_isLet_28 rfl ?_
  refine s_aald (tt := 4) rfl rfl dX11_isLet_29 ?_
  refine yg10_1 dX11_isLet_30 zw768 ?_
  refine s_bipush dX11_isLet_33 (by decide +kernel) ?_
  refine s_lushr dX11_isLet_35 ?_
  refine s_lcmp dX11_isLet_36 ?_
  exact s_if_ne dX11_isLet_37 (by decide) (wX11_isLet_44 hZ) (wX11_isLet_40 hZ)
noncomputable def vX11_isLet_0 : rx_K := o_ld rx_isR 0 (o_getf 11 1 (o_ld rx_isI 1 (o_ald 4 (o_getf 10 3 (o_c1 rx_eq vX11_isLet_12 vX11_isLet_40)))))
set_option maxRecDepth 20000 in
theorem wX11_isLet_0 (hZ : zO b e D A X) : rx_OK (zV b e D A X) mX11_isLet 0 0 vX11_isLet_0 := by
  unfold vX11_isLet_0
  refine s_aload_n hZ.1 dX11_isLet_0 rfl ?_
  refine yg11_1 dX11_isLet_1 zw1252 ?_
  refine s_iload_n hZ.1 dX11_isLet_4 rfl ?_
  refine s_aald (tt := 4) rfl rfl dX11_isLet_5 ?_
  refine yg10_3 dX11_isLet_6 zw783 ?_
  exact s_if_ne dX11_isLet_9 (by decide) (wX11_isLet_40 hZ) (wX11_isLet_12 hZ)
noncomputable def FX11_isLet : List Nat → rx_H → Option (Nat × rx_H) := rx_ent 3 vX11_isLet_0
theorem Met_X11_isLet (hZ : zO b e D A X) : rx_Met (zV b e D A X) 0 yX11_isLet mX11_isLet (FX11_isLet) := rx_entry hZ.1 (wX11_isLet_0 hZ) (by decide +kernel) rfl (fun h => by cases h)
abbrev mX0_named : rx_M := (RX0, cX0_named, 5, (some .int), false)
theorem vy_X0_named : rx_Y (zV b e D A X) yX0_named mX0_named 2 := ⟨zw2139, zw421, by decide, by decide +kernel, by decide +kernel, by decide +kernel⟩
noncomputable def vX0_named_42 : rx_K := o_ld rx_isI 4 (o_ret1 rx_isI)
set_option maxRecDepth 20000 in
theorem wX0_named_42 (hZ : zO b e D A X) : rx_OK (zV b e D A X) mX0_named 1 42 vX0_named_42 := by
  unfold vX0_named_42
  refine s_iload hZ.1 dX0_named_42 ?_
  exact s_iret hZ.1 rfl dX0_named_44
noncomputable def vX0_named_31 : rx_K := o_ld rx_isR 0 (o_const 56 (o_ld rx_isI 3 (o_callV 2 0 FX0_fail (o_pop (o_const 34359738352 (o_ret1 rx_isI))))))
set_option maxRecDepth 20000 in
theorem wX0_named_31 (hZ : zO b e D A X) : rx_OK (zV b e D A X) mX0_named 1 31 vX0_named_31 := by
  unfold vX0_named_31
  refine s_aload_n hZ.1 dX0_named_31 rfl ?_
  refine s_bipush dX0_named_32 (by decide +kernel) ?_
  refine s_iload_n hZ.1 dX0_named_34 rfl ?_
  refine s_callV hZ.1 (Met_X0_fail hZ) (Nat.le_of_ble_eq_true rfl) vy_X0_fail zcl0 zw2095 zw65 (Or.inl zw2093) dX0_named_35 ?_
  refine s_pop hZ.1 dX0_named_38 ?_
  refine s_bipush dX0_named_39 (by decide +kernel) ?_
  exact s_iret hZ.1 rfl dX0_named_41
noncomputable def vX0_named_15 : rx_K := o_ld rx_isR 0 (o_getf 0 0 (o_ld rx_isI 4 (o_ld rx_isR 0 (o_getf 0 6 (o_callV 2 11 FX11_isLet (o_c1 rx_eq vX0_named_31 vX0_named_42))))))
set_option maxRecDepth 20000 in
theorem wX0_named_15 (hZ : zO b e D A X) : rx_OK (zV b e D A X) mX0_named 1 15 vX0_named_15 := by
  unfold vX0_named_15
  refine s_aload_n hZ.1 dX0_named_15 rfl ?_
  refine yg0_0 dX0_named_16 zw661 ?_
  refine s_iload hZ.1 dX0_named_19 ?_
  refine s_aload_n hZ.1 dX0_named_21 rfl ?_
  refine yg0_6 dX0_named_22 zw669 ?_
  refine s_callV hZ.1 (Met_X11_isLet hZ) (Nat.le_of_ble_eq_true rfl) vy_X11_isLet zcl11 zw1945 zw1946 (Or.inl zw2075) dX0_named_25 ?_
  exact s_if_ne dX0_named_28 (by decide) (wX0_named_42 hZ) (wX0_named_31 hZ)
noncomputable def vX0_named_0 : rx_K := o_ld rx_isR 0 (o_getf 0 0 (o_ld rx_isL 1 (o_callV 1 11 FX11_find (o_st rx_isI 4 (o_ld rx_isI 4 (o_c1 rx_lt vX0_named_31 vX0_named_15))))))
set_option maxRecDepth 20000 in
theorem wX0_named_0 (hZ : zO b e D A X) : rx_OK (zV b e D A X) mX0_named 1 0 vX0_named_0 := by
  unfold vX0_named_0
  refine s_aload_n hZ.1 dX0_named_0 rfl ?_
  refine yg0_0 dX0_named_1 zw661 ?_
  refine s_lload_n hZ.1 dX0_named_4 rfl ?_
  refine s_callV hZ.1 (Met_X11_find hZ) (Nat.le_of_ble_eq_true rfl) vy_X11_find zcl11 zw1574 zw1575 (Or.inl zw2048) dX0_named_5 ?_
  refine s_istore hZ.1 dX0_named_8 (Nat.le_of_ble_eq_true rfl) ?_
  refine s_iload hZ.1 dX0_named_10 ?_
  exact s_if_lt dX0_named_12 (by decide) (wX0_named_31 hZ) (wX0_named_15 hZ)
noncomputable def FX0_named : List Nat → rx_H → Option (Nat × rx_H) := rx_ent 5 vX0_named_0
theorem Met_X0_named (hZ : zO b e D A X) : rx_Met (zV b e D A X) 1 yX0_named mX0_named (FX0_named) := rx_entry hZ.1 (wX0_named_0 hZ) (by decide +kernel) rfl (fun h => by cases h)
abbrev mX0_statics : rx_M := (RX0, cX0_statics, 5, (some .boolean), false)
theorem vy_X0_statics : rx_Y (zV b e D A X) yX0_statics mX0_statics 3 := ⟨zw2112, zw421, by decide, by decide +kernel, by decide +kernel, by decide +kernel⟩
noncomputable def vX0_statics_55 : rx_K := o_ret1 rx_isZ
set_option maxRecDepth 20000 in
theorem wX0_statics_55 (hZ : zO b e D A X) : rx_OK (zV b e D A X) mX0_statics 1 55 vX0_statics_55 := by
  unfold vX0_statics_55
  exact s_zret rx_z_ok rfl dX0_statics_55
noncomputable def vX0_statics_54 : rx_K := o_const 0 (vX0_statics_55)
set_option maxRecDepth 20000 in
theorem wX0_statics_54 (hZ : zO b e D A X) : rx_OK (zV b e D A X) mX0_statics 1 54 vX0_statics_54 := by
  unfold vX0_statics_54
  refine s_iconst dX0_statics_54 (by decide +kernel) ?_
  exact (wX0_statics_55 hZ)
noncomputable def vX0_statics_50 : rx_K := o_const 8 (vX0_statics_55)
set_option maxRecDepth 20000 in
theorem wX0_statics_50 (hZ : zO b e D A X) : rx_OK (zV b e D A X) mX0_statics 1 50 vX0_statics_50 := by
  unfold vX0_statics_50
  refine s_iconst dX0_statics_50 (by decide +kernel) ?_
  exact s_goto dX0_statics_51 (by decide) (wX0_statics_55 hZ)
noncomputable def vX0_statics_37 : rx_K := o_ld rx_isR 0 (o_const 112 (o_ld rx_isR 1 (o_getf 8 2 (o_callV 2 0 FX0_fail (o_c1 rx_eq vX0_statics_54 vX0_statics_50)))))
set_option maxRecDepth 20000 in
theorem wX0_statics_37 (hZ : zO b e D A X) : rx_OK (zV b e D A X) mX0_statics 1 37 vX0_statics_37 := by
  unfold vX0_statics_37
  refine s_aload_n hZ.1 dX0_statics_37 rfl ?_
  refine s_bipush dX0_statics_38 (by decide +kernel) ?_
  refine s_aload_n hZ.1 dX0_statics_40 rfl ?_
  refine yg8_2 dX0_statics_41 zw465 ?_
  refine s_callV hZ.1 (Met_X0_fail hZ) (Nat.le_of_ble_eq_true rfl) vy_X0_fail zcl0 zw2095 zw65 (Or.inl zw2093) dX0_statics_44 ?_
  exact s_if_eq dX0_statics_47 (by decide) (wX0_statics_54 hZ) (wX0_statics_50 hZ)
noncomputable def vX0_statics_29 : rx_K := o_ld rx_isR 4 (o_getf 7 2 (o_c1 rx_eq vX0_statics_50 vX0_statics_37))
set_option maxRecDepth 20000 in
theorem wX0_statics_29 (hZ : zO b e D A X) : rx_OK (zV b e D A X) mX0_statics 1 29 vX0_statics_29 := by
  unfold vX0_statics_29
  refine s_aload hZ.1 dX0_statics_29 ?_
  refine yg7_2 dX0_statics_31 zw963 ?_
  exact s_if_eq dX0_statics_34 (by decide) (wX0_statics_50 hZ) (wX0_statics_37 hZ)
noncomputable def vX0_statics_25 : rx_K := o_ld rx_isI 3 (o_c1 rx_eq vX0_statics_50 vX0_statics_29)
set_option maxRecDepth 20000 in
theorem wX0_statics_25 (hZ : zO b e D A X) : rx_OK (zV b e D A X) mX0_statics 1 25 vX0_statics_25 := by
  unfold vX0_statics_25
  refine s_iload_n hZ.1 dX0_statics_25 rfl ?_
  exact s_if_eq dX0_statics_26 (by decide) (wX0_statics_50 hZ) (wX0_statics_29 hZ)
noncomputable def vX0_statics_17 : rx_K := o_ld rx_isR 4 (o_getf 7 2 (o_c1 rx_eq vX0_statics_37 vX0_statics_25))
set_option maxRecDepth 20000 in
theorem wX0_statics_17 (hZ : zO b e D A X) : rx_OK (zV b e D A X) mX0_statics 1 17 vX0_statics_17 := by
  unfold vX0_statics_17
  refine s_aload hZ.1 dX0_statics_17 ?_
  refine yg7_2 dX0_statics_19 zw963 ?_
  exact s_if_eq dX0_statics_22 (by decide) (wX0_statics_37 hZ) (wX0_statics_25 hZ)
noncomputable def vX0_statics_13 : rx_K := o_ld rx_isI 2 (o_c1 rx_eq vX0_statics_25 vX0_statics_17)
set_option maxRecDepth 20000 in
theorem wX0_statics_13 (hZ : zO b e D A X) : rx_OK (zV b e D A X) mX0_statics 1 13 vX0_statics_13 := by
  unfold vX0_statics_13
  refine s_iload_n hZ.1 dX0_statics_13 rfl ?_
  exact s_if_eq dX0_statics_14 (by decide) (wX0_statics_25 hZ) (wX0_statics_17 hZ)
noncomputable def vX0_statics_11 : rx_K := o_const 0 (o_ret1 rx_isZ)
set_option maxRecDepth 20000 in
theorem wX0_statics_11 (hZ : zO b e D A X) : rx_OK (zV b e D A X) mX0_statics 1 11 vX0_statics_11 := by
  unfold vX0_statics_11
  refine s_iconst dX0_statics_11 (by decide +kernel) ?_
  exact s_zret rx_z_ok rfl dX0_statics_12
noncomputable def vX0_statics_0 : rx_K := o_ld rx_isR 1 (o_getf 8 11 (o_st rx_isR 4 (o_ld rx_isR 4 (o_nul vX0_statics_11 vX0_statics_13))))
set_option maxRecDepth 20000 in
theorem wX0_statics_0 (hZ : zO b e D A X) : rx_OK (zV b e D A X) mX0_statics 1 0 vX0_statics_0 := by
  unfold vX0_statics_0
  refine s_aload_n hZ.1 dX0_statics_0 rfl ?_
  refine yg8_11 dX0_statics_1 zw500 ?_
  refine s_astore hZ.1 dX0_statics_4 (Nat.le_of_ble_eq_true rfl) ?_
  refine s_aload hZ.1 dX0_statics_6 ?_
  exact s_ifnonnull dX0_statics_8 (by decide) (wX0_statics_13 hZ) (wX0_statics_11 hZ)
noncomputable def FX0_statics : List Nat → rx_H → Option (Nat × rx_H) := rx_ent 5 vX0_statics_0
theorem Met_X0_statics (hZ : zO b e D A X) : rx_Met (zV b e D A X) 1 yX0_statics mX0_statics (FX0_statics) := rx_entry hZ.1 (wX0_statics_0 hZ) (by decide +kernel) rfl (fun h => by cases h)
abbrev mX10_has : rx_M := (RX10, cX10_has, 5, (some .boolean), false)
theorem vy_X10_has : rx_Y (zV b e D A X) yX10_has mX10_has 2 := ⟨zw1580, zw425, by decide, by decide +kernel, by decide +kernel, by decide +kernel⟩
noncomputable def vX10_has_39 (j : Nat → rx_K) : rx_K := o_const 0 (o_ret1 rx_isZ)
set_option maxRecDepth 20000 in
theorem wX10_has_39 (hZ : zO b e D A X) (j : Nat → rx_K) (hj : ∀ k pc, [3][k]? = some pc → rx_OK (zV b e D A X) mX10_has 0 pc (j k)) : rx_OK (zV b e D A X) mX10_has 0 39 (vX10_has_39 j) := by
  unfold vX10_has_39
  refine s_iconst dX10_has_39 (by decide +kernel) ?_
  exact s_zret rx_z_ok rfl dX10_has_40
noncomputable def vX10_has_33 (j : Nat → rx_K) : rx_K := o_inc 4 (1) ((j 0))
set_option maxRecDepth 20000 in
theorem wX10_has_33 (hZ : zO b e D A X) (j : Nat → rx_K) (hj : ∀ k pc, [3][k]? = some pc → rx_OK (zV b e D A X) mX10_has 0 pc (j k)) : rx_OK (zV b e D A X) mX10_has 0 33 (vX10_has_33 j) := by
  unfold vX10_has_33
  refine s_iinc hZ.1 dX10_has_33 (Nat.le_of_ble_eq_true rfl) ?_
  exact s_goto dX10_has_36 (by decide) (hj 0 3 rfl)
noncomputable def vX10_has_31 (j : Nat → rx_K) : rx_K := o_const 8 (o_ret1 rx_isZ)
set_option maxRecDepth 20000 in
theorem wX10_has_31 (hZ : zO b e D A X) (j : Nat → rx_K) (hj : ∀ k pc, [3][k]? = some pc → rx_OK (zV b e D A X) mX10_has 0 pc (j k)) : rx_OK (zV b e D A X) mX10_has 0 31 (vX10_has_31 j) := by
  unfold vX10_has_31
  refine s_iconst dX10_has_31 (by decide +kernel) ?_
  exact s_zret rx_z_ok rfl dX10_has_32
noncomputable def vX10_has_14 (j : Nat → rx_K) : rx_K := o_ld rx_isR 0 (o_getf 10 10 (o_ld rx_isI 1 (o_const 64 (o_bi (fun x y => x * y) (o_ld rx_isI 4 (o_bi (fun x y => x + y) (o_ald 1 (o_ld rx_isL 2 (o_bc (fun x y => lg_cmp x y) (o_c1 rx_eq (vX10_has_31 j) (vX10_has_33 j)))))))))))
set_option maxRecDepth 20000 in
theorem wX10_has_14 (hZ : zO b e D A X) (j : Nat → rx_K) (hj : ∀ k pc, [3][k]? = some pc → rx_OK (zV b e D A X) mX10_has 0 pc (j k)) : rx_OK (zV b e D A X) mX10_has 0 14 (vX10_has_14 j) := by
  unfold vX10_has_14
  refine s_aload_n hZ.1 dX10_has_14 rfl ?_
  refine yg10_10 dX10_has_15 zw836 ?_
  refine s_iload_n hZ.1 dX10_has_18 rfl ?_
  refine s_bipush dX10_has_19 (by decide +kernel) ?_
  refine s_imul dX10_has_21 ?_
  refine s_iload hZ.1 dX10_has_22 ?_
  refine s_iadd dX10_has_24 ?_
  refine s_lald (tt := 1) rfl dX10_has_25 ?_
  refine s_lload_n hZ.1 dX10_has_26 rfl ?_
  refine s_lcmp dX10_has_27 ?_
  exact s_if_ne dX10_has_28 (by decide) (wX10_has_33 hZ j hj) (wX10_has_31 hZ j hj)
noncomputable def vX10_has_3 (j : Nat → rx_K) : rx_K := o_ld rx_isI 4 (o_ld rx_isR 0 (o_getf 10 11 (o_ld rx_isI 1 (o_ald 0 (o_c2 rx_lt (vX10_has_14 j) (vX10_has_39 j))))))
set_option maxRecDepth 20000 in
theorem wX10_has_3 (hZ : zO b e D A X) (j : Nat → rx_K) (hj : ∀ k pc, [3][k]? = some pc → rx_OK (zV b e D A X) mX10_has 0 pc (j k)) : rx_OK (zV b e D A X) mX10_has 0 3 (vX10_has_3 j) := by
  unfold vX10_has_3
  refine s_iload hZ.1 dX10_has_3 ?_
  refine s_aload_n hZ.1 dX10_has_5 rfl ?_
  refine yg10_11 dX10_has_6 zw838 ?_
  refine s_iload_n hZ.1 dX10_has_9 rfl ?_
  refine s_iald (tt := 0) rfl dX10_has_10 ?_
  exact s_icmp_ge dX10_has_11 (by decide) (wX10_has_39 hZ j hj) (wX10_has_14 hZ j hj)
noncomputable def vX10_has_0 (j : Nat → rx_K) : rx_K := o_const 0 (o_st rx_isI 4 ((vX10_has_3 j)))
set_option maxRecDepth 20000 in
theorem wX10_has_0 (hZ : zO b e D A X) (j : Nat → rx_K) (hj : ∀ k pc, [3][k]? = some pc → rx_OK (zV b e D A X) mX10_has 0 pc (j k)) : rx_OK (zV b e D A X) mX10_has 0 0 (vX10_has_0 j) := by
  unfold vX10_has_0
  refine s_iconst dX10_has_0 (by decide +kernel) ?_
  refine s_istore hZ.1 dX10_has_1 (Nat.le_of_ble_eq_true rfl) ?_
  exact (wX10_has_3 hZ j hj)
noncomputable def vhX10_has (j : Nat → rx_K) : List rx_K := [vX10_has_3 j]
theorem vlX10_has (hZ : zO b e D A X) : ∀ n k pc, [3][k]? = some pc → rx_OK (zV b e D A X) mX10_has 0 pc (rx_J (vhX10_has) n k) := rx_loop fun j hj k pc h => by
  match k, h with
  | 0, h =>
    have e9 := Option.some.inj (show some 3 = some pc from h)
    subst e9
    exact wX10_has_3 hZ j hj
  | _ + 1, h => exact absurd h (by simp)
noncomputable def FX10_has : List Nat → rx_H → Option (Nat × rx_H) := rx_ent 5 (vX10_has_0 (rx_J (vhX10_has) 4000000000))
theorem Met_X10_has (hZ : zO b e D A X) : rx_Met (zV b e D A X) 0 yX10_has mX10_has (FX10_has) := rx_entry hZ.1 (wX10_has_0 hZ _ (vlX10_has hZ 4000000000)) (by decide +kernel) rfl (fun h => by cases h)
abbrev mX0_behind : rx_M := (RX0, cX0_behind, 8, (some .boolean), false)
theorem vy_X0_behind : rx_Y (zV b e D A X) yX0_behind mX0_behind 3 := ⟨zw2161, zw421, by decide, by decide +kernel, by decide +kernel, by decide +kernel⟩
abbrev mX0_chain : rx_M := (RX0, cX0_chain, 4, (some .boolean), false)
theorem vy_X0_chain : rx_Y (zV b e D A X) yX0_chain mX0_chain 1 := ⟨zw2165, zw421, by decide, by decide +kernel, by decide +kernel, by decide +kernel⟩
abbrev mX0_compare : rx_M := (RX0, cX0_compare, 2, (some .boolean), false)
theorem vy_X0_compare : rx_Y (zV b e D A X) yX0_compare mX0_compare 1 := ⟨zw2173, zw421, by decide, by decide +kernel, by decide +kernel, by decide +kernel⟩
abbrev mX0_expr : rx_M := (RX0, cX0_expr, 5, (some .boolean), false)
theorem vy_X0_expr : rx_Y (zV b e D A X) yX0_expr mX0_expr 1 := ⟨zw2091, zw421, by decide, by decide +kernel, by decide +kernel, by decide +kernel⟩
abbrev mX0_exprs : rx_M := (RX0, cX0_exprs, 3, (some .boolean), false)
theorem vy_X0_exprs : rx_Y (zV b e D A X) yX0_exprs mX0_exprs 1 := ⟨zw2116, zw421, by decide, by decide +kernel, by decide +kernel, by decide +kernel⟩
abbrev mX0_made : rx_M := (RX0, cX0_made, 4, (some .boolean), false)
theorem vy_X0_made : rx_Y (zV b e D A X) yX0_made mX0_made 1 := ⟨zw2148, zw421, by decide, by decide +kernel, by decide +kernel, by decide +kernel⟩
abbrev mX0_superCall : rx_M := (RX0, cX0_superCall, 6, (some .boolean), false)
theorem vy_X0_superCall : rx_Y (zV b e D A X) yX0_superCall mX0_superCall 1 := ⟨zw2143, zw421, by decide, by decide +kernel, by decide +kernel, by decide +kernel⟩
abbrev mX0_unit : rx_M := (RX0, cX0_unit, 5, (some .boolean), false)
theorem vy_X0_unit : rx_Y (zV b e D A X) yX0_unit mX0_unit 1 := ⟨zw2157, zw421, by decide, by decide +kernel, by decide +kernel, by decide +kernel⟩
abbrev vl1 : List (MethodName × rx_M) := [(yX0_behind, mX0_behind), (yX0_chain, mX0_chain), (yX0_compare, mX0_compare), (yX0_expr, mX0_expr), (yX0_exprs, mX0_exprs), (yX0_made, mX0_made), (yX0_superCall, mX0_superCall), (yX0_unit, mX0_unit)]
noncomputable def vX0_behind_217 (g : Nat → List Nat → rx_H → Option (Nat × rx_H)) : rx_K := o_ret1 rx_isZ
set_option maxRecDepth 20000 in
theorem wX0_behind_217 {dn : Nat} {g : Nat → List Nat → rx_H → Option (Nat × rx_H)} (hZ : zO b e D A X) (hg : ∀ i y M, vl1[i]? = some (y, M) → rx_Met (zV b e D A X) dn y M (g i)) (hd : 3 ≤ dn) : rx_OK (zV b e D A X) mX0_behind (dn + 1) 217 (vX0_behind_217 g) := by
  unfold vX0_behind_217
  exact s_zret rx_z_ok rfl dX0_behind_217
noncomputable def vX0_behind_216 (g : Nat → List Nat → rx_H → Option (Nat × rx_H)) : rx_K := o_const 0 ((vX0_behind_217 g))
set_option maxRecDepth 20000 in
theorem wX0_behind_216 {dn : Nat} {g : Nat → List Nat → rx_H → Option (Nat × rx_H)} (hZ : zO b e D A X) (hg : ∀ i y M, vl1[i]? = some (y, M) → rx_Met (zV b e D A X) dn y M (g i)) (hd : 3 ≤ dn) : rx_OK (zV b e D A X) mX0_behind (dn + 1) 216 (vX0_behind_216 g) := by
  unfold vX0_behind_216
  refine s_iconst dX0_behind_216 (by decide +kernel) ?_
  exact (wX0_behind_217 hZ hg hd)
noncomputable def vX0_behind_212 (g : Nat → List Nat → rx_H → Option (Nat × rx_H)) : rx_K := o_const 8 ((vX0_behind_217 g))
set_option maxRecDepth 20000 in
theorem wX0_behind_212 {dn : Nat} {g : Nat → List Nat → rx_H → Option (Nat × rx_H)} (hZ : zO b e D A X) (hg : ∀ i y M, vl1[i]? = some (y, M) → rx_Met (zV b e D A X) dn y M (g i)) (hd : 3 ≤ dn) : rx_OK (zV b e D A X) mX0_behind (dn + 1) 212 (vX0_behind_212 g) := by
  unfold vX0_behind_212
  refine s_iconst dX0_behind_212 (by decide +kernel) ?_
  exact s_goto dX0_behind_213 (by decide) (wX0_behind_217 hZ hg hd)
noncomputable def vX0_behind_202 (g : Nat → List Nat → rx_H → Option (Nat × rx_H)) : rx_K := o_ld rx_isR 0 (o_ld rx_isR 2 (o_const 0 (o_const 8 (o_callV 3 0 FX0_statics (o_c1 rx_eq (vX0_behind_216 g) (vX0_behind_212 g))))))
set_option maxRecDepth 20000 in
theorem wX0_behind_202 {dn : Nat} {g : Nat → List Nat → rx_H → Option (Nat × rx_H)} (hZ : zO b e D A X) (hg : ∀ i y M, vl1[i]? = some (y, M) → rx_Met (zV b e D A X) dn y M (g i)) (hd : 3 ≤ dn) : rx_OK (zV b e D A X) mX0_behind (dn + 1) 202 (vX0_behind_202 g) := by
  unfold vX0_behind_202
  refine s_aload_n hZ.1 dX0_behind_202 rfl ?_
  refine s_aload_n hZ.1 dX0_behind_203 rfl ?_
  refine s_iconst dX0_behind_204 (by decide +kernel) ?_
  refine s_iconst dX0_behind_205 (by decide +kernel) ?_
  refine s_callV hZ.1 (Met_X0_statics hZ) (Nat.succ_le_succ (Nat.le_trans (Nat.le_of_ble_eq_true rfl) hd)) vy_X0_statics zcl0 zw2111 zw69 (Or.inl zw2109) dX0_behind_206 ?_
  exact s_if_eq dX0_behind_209 (by decide) (wX0_behind_216 hZ hg hd) (wX0_behind_212 hZ hg hd)
noncomputable def vX0_behind_179 (g : Nat → List Nat → rx_H → Option (Nat × rx_H)) : rx_K := o_ld rx_isR 0 (o_ld rx_isR 2 (o_ld rx_isI 5 (o_ld rx_isR 0 (o_ld rx_isI 5 (o_ld rx_isL 6 (o_ld rx_isR 2 (o_getf 8 5 (o_const 0 (o_callV 4 0 FX0_meant (o_callV 3 0 FX0_calls (o_c1 rx_eq (vX0_behind_216 g) (vX0_behind_202 g))))))))))))
set_option maxRecDepth 20000 in
theorem wX0_behind_179 {dn : Nat} {g : Nat → List Nat → rx_H → Option (Nat × rx_H)} (hZ : zO b e D A X) (hg : ∀ i y M, vl1[i]? = some (y, M) → rx_Met (zV b e D A X) dn y M (g i)) (hd : 3 ≤ dn) : rx_OK (zV b e D A X) mX0_behind (dn + 1) 179 (vX0_behind_179 g) := by
  unfold vX0_behind_179
  refine s_aload_n hZ.1 dX0_behind_179 rfl ?_
  refine s_aload_n hZ.1 dX0_behind_180 rfl ?_
  refine s_iload hZ.1 dX0_behind_181 ?_
  refine s_aload_n hZ.1 dX0_behind_183 rfl ?_
  refine s_iload hZ.1 dX0_behind_184 ?_
  refine s_lload hZ.1 dX0_behind_186 ?_
  refine s_aload_n hZ.1 dX0_behind_188 rfl ?_
  refine yg8_5 dX0_behind_189 zw475 ?_
  refine s_iconst dX0_behind_192 (by decide +kernel) ?_
  refine s_callV hZ.1 (Met_X0_meant hZ) (Nat.succ_le_succ (Nat.le_trans (Nat.le_of_ble_eq_true rfl) hd)) vy_X0_meant zcl0 zw2119 zw71 (Or.inl zw2117) dX0_behind_193 ?_
  refine s_callV hZ.1 (Met_X0_calls hZ) (Nat.succ_le_succ (Nat.le_trans (Nat.le_of_ble_eq_true rfl) hd)) vy_X0_calls zcl0 zw2134 zw74 (Or.inl zw2132) dX0_behind_196 ?_
  exact s_if_eq dX0_behind_199 (by decide) (wX0_behind_216 hZ hg hd) (wX0_behind_202 hZ hg hd)
noncomputable def vX0_behind_178 (g : Nat → List Nat → rx_H → Option (Nat × rx_H)) : rx_K := o_ret1 rx_isZ
set_option maxRecDepth 20000 in
theorem wX0_behind_178 {dn : Nat} {g : Nat → List Nat → rx_H → Option (Nat × rx_H)} (hZ : zO b e D A X) (hg : ∀ i y M, vl1[i]? = some (y, M) → rx_Met (zV b e D A X) dn y M (g i)) (hd : 3 ≤ dn) : rx_OK (zV b e D A X) mX0_behind (dn + 1) 178 (vX0_behind_178 g) := by
  unfold vX0_behind_178
  exact s_zret rx_z_ok rfl dX0_behind_178
noncomputable def vX0_behind_177 (g : Nat → List Nat → rx_H → Option (Nat × rx_H)) : rx_K := o_const 0 ((vX0_behind_178 g))
set_option maxRecDepth 20000 in
theorem wX0_behind_177 {dn : Nat} {g : Nat → List Nat → rx_H → Option (Nat × rx_H)} (hZ : zO b e D A X) (hg : ∀ i y M, vl1[i]? = some (y, M) → rx_Met (zV b e D A X) dn y M (g i)) (hd : 3 ≤ dn) : rx_OK (zV b e D A X) mX0_behind (dn + 1) 177 (vX0_behind_177 g) := by
  unfold vX0_behind_177
  refine s_iconst dX0_behind_177 (by decide +kernel) ?_
  exact (wX0_behind_178 hZ hg hd)
noncomputable def vX0_behind_173 (g : Nat → List Nat → rx_H → Option (Nat × rx_H)) : rx_K := o_const 8 ((vX0_behind_178 g))
set_option maxRecDepth 20000 in
theorem wX0_behind_173 {dn : Nat} {g : Nat → List Nat → rx_H → Option (Nat × rx_H)} (hZ : zO b e D A X) (hg : ∀ i y M, vl1[i]? = some (y, M) → rx_Met (zV b e D A X) dn y M (g i)) (hd : 3 ≤ dn) : rx_OK (zV b e D A X) mX0_behind (dn + 1) 173 (vX0_behind_173 g) := by
  unfold vX0_behind_173
  refine s_iconst dX0_behind_173 (by decide +kernel) ?_
  exact s_goto dX0_behind_174 (by decide) (wX0_behind_178 hZ hg hd)
noncomputable def vX0_behind_163 (g : Nat → List Nat → rx_H → Option (Nat × rx_H)) : rx_K := o_ld rx_isR 0 (o_ld rx_isR 2 (o_const 0 (o_const 8 (o_callV 3 0 FX0_statics (o_c1 rx_eq (vX0_behind_177 g) (vX0_behind_173 g))))))
set_option maxRecDepth 20000 in
theorem wX0_behind_163 {dn : Nat} {g : Nat → List Nat → rx_H → Option (Nat × rx_H)} (hZ : zO b e D A X) (hg : ∀ i y M, vl1[i]? = some (y, M) → rx_Met (zV b e D A X) dn y M (g i)) (hd : 3 ≤ dn) : rx_OK (zV b e D A X) mX0_behind (dn + 1) 163 (vX0_behind_163 g) := by
  unfold vX0_behind_163
  refine s_aload_n hZ.1 dX0_behind_163 rfl ?_
  refine s_aload_n hZ.1 dX0_behind_164 rfl ?_
  refine s_iconst dX0_behind_165 (by decide +kernel) ?_
  refine s_iconst dX0_behind_166 (by decide +kernel) ?_
  refine s_callV hZ.1 (Met_X0_statics hZ) (Nat.succ_le_succ (Nat.le_trans (Nat.le_of_ble_eq_true rfl) hd)) vy_X0_statics zcl0 zw2111 zw69 (Or.inl zw2109) dX0_behind_167 ?_
  exact s_if_eq dX0_behind_170 (by decide) (wX0_behind_177 hZ hg hd) (wX0_behind_173 hZ hg hd)
noncomputable def vX0_behind_151 (g : Nat → List Nat → rx_H → Option (Nat × rx_H)) : rx_K := o_ld rx_isR 0 (o_ld rx_isR 2 (o_ld rx_isI 5 (o_ld rx_isL 6 (o_callV 3 0 FX0_field (o_c1 rx_eq (vX0_behind_177 g) (vX0_behind_163 g))))))
set_option maxRecDepth 20000 in
theorem wX0_behind_151 {dn : Nat} {g : Nat → List Nat → rx_H → Option (Nat × rx_H)} (hZ : zO b e D A X) (hg : ∀ i y M, vl1[i]? = some (y, M) → rx_Met (zV b e D A X) dn y M (g i)) (hd : 3 ≤ dn) : rx_OK (zV b e D A X) mX0_behind (dn + 1) 151 (vX0_behind_151 g) := by
  unfold vX0_behind_151
  refine s_aload_n hZ.1 dX0_behind_151 rfl ?_
  refine s_aload_n hZ.1 dX0_behind_152 rfl ?_
  refine s_iload hZ.1 dX0_behind_153 ?_
  refine s_lload hZ.1 dX0_behind_155 ?_
  refine s_callV hZ.1 (Met_X0_field hZ) (Nat.succ_le_succ (Nat.le_trans (Nat.le_of_ble_eq_true rfl) hd)) vy_X0_field zcl0 zw2107 zw68 (Or.inl zw2105) dX0_behind_157 ?_
  exact s_if_eq dX0_behind_160 (by decide) (wX0_behind_177 hZ hg hd) (wX0_behind_163 hZ hg hd)
noncomputable def vX0_behind_148 (g : Nat → List Nat → rx_H → Option (Nat × rx_H)) : rx_K := (vX0_behind_163 g)
set_option maxRecDepth 20000 in
theorem wX0_behind_148 {dn : Nat} {g : Nat → List Nat → rx_H → Option (Nat × rx_H)} (hZ : zO b e D A X) (hg : ∀ i y M, vl1[i]? = some (y, M) → rx_Met (zV b e D A X) dn y M (g i)) (hd : 3 ≤ dn) : rx_OK (zV b e D A X) mX0_behind (dn + 1) 148 (vX0_behind_148 g) := by
  unfold vX0_behind_148
  exact s_goto dX0_behind_148 (by decide) (wX0_behind_163 hZ hg hd)
noncomputable def vX0_behind_135 (g : Nat → List Nat → rx_H → Option (Nat × rx_H)) : rx_K := o_ld rx_isR 0 (o_const 88 (o_ld rx_isR 2 (o_getf 8 2 (o_callV 2 0 FX0_fail (o_c1 rx_eq (vX0_behind_177 g) (vX0_behind_148 g))))))
set_option maxRecDepth 20000 in
theorem wX0_behind_135 {dn : Nat} {g : Nat → List Nat → rx_H → Option (Nat × rx_H)} (hZ : zO b e D A X) (hg : ∀ i y M, vl1[i]? = some (y, M) → rx_Met (zV b e D A X) dn y M (g i)) (hd : 3 ≤ dn) : rx_OK (zV b e D A X) mX0_behind (dn + 1) 135 (vX0_behind_135 g) := by
  unfold vX0_behind_135
  refine s_aload_n hZ.1 dX0_behind_135 rfl ?_
  refine s_bipush dX0_behind_136 (by decide +kernel) ?_
  refine s_aload_n hZ.1 dX0_behind_138 rfl ?_
  refine yg8_2 dX0_behind_139 zw465 ?_
  refine s_callV hZ.1 (Met_X0_fail hZ) (Nat.succ_le_succ (Nat.le_trans (Nat.le_of_ble_eq_true rfl) hd)) vy_X0_fail zcl0 zw2095 zw65 (Or.inl zw2093) dX0_behind_142 ?_
  exact s_if_eq dX0_behind_145 (by decide) (wX0_behind_177 hZ hg hd) (wX0_behind_148 hZ hg hd)
noncomputable def vX0_behind_130 (g : Nat → List Nat → rx_H → Option (Nat × rx_H)) : rx_K := o_ld rx_isI 5 (o_c1 rx_lt (vX0_behind_135 g) (vX0_behind_151 g))
set_option maxRecDepth 20000 in
theorem wX0_behind_130 {dn : Nat} {g : Nat → List Nat → rx_H → Option (Nat × rx_H)} (hZ : zO b e D A X) (hg : ∀ i y M, vl1[i]? = some (y, M) → rx_Met (zV b e D A X) dn y M (g i)) (hd : 3 ≤ dn) : rx_OK (zV b e D A X) mX0_behind (dn + 1) 130 (vX0_behind_130 g) := by
  unfold vX0_behind_130
  refine s_iload hZ.1 dX0_behind_130 ?_
  exact s_if_ge dX0_behind_132 (by decide) (wX0_behind_151 hZ hg hd) (wX0_behind_135 hZ hg hd)
noncomputable def vX0_behind_97 (g : Nat → List Nat → rx_H → Option (Nat × rx_H)) : rx_K := o_ld rx_isR 0 (o_getf 0 0 (o_ld rx_isL 3 (o_callV 1 11 FX11_find (o_st rx_isI 5 (o_ld rx_isR 0 (o_getf 0 2 (o_getf 9 4 (o_ld rx_isR 2 (o_getf 8 2 (o_ald 1 (o_stL 6 (o_ld rx_isR 2 (o_getf 8 0 (o_const 112 (o_c2 rx_eq (vX0_behind_130 g) (vX0_behind_179 g))))))))))))))))
set_option maxRecDepth 20000 in
theorem wX0_behind_97 {dn : Nat} {g : Nat → List Nat → rx_H → Option (Nat × rx_H)} (hZ : zO b e D A X) (hg : ∀ i y M, vl1[i]? = some (y, M) → rx_Met (zV b e D A X) dn y M (g i)) (hd : 3 ≤ dn) : rx_OK (zV b e D A X) mX0_behind (dn + 1) 97 (vX0_behind_97 g) := by
  unfold vX0_behind_97
  refine s_aload_n hZ.1 dX0_behind_97 rfl ?_
  refine yg0_0 dX0_behind_98 zw661 ?_
  refine s_lload_n hZ.1 dX0_behind_101 rfl ?_
  refine s_callV hZ.1 (Met_X11_find hZ) (Nat.succ_le_succ (Nat.le_trans (Nat.le_of_ble_eq_true rfl) hd)) vy_X11_find zcl11 zw1574 zw1575 (Or.inl zw2048) dX0_behind_102 ?_
  refine s_istore hZ.1 dX0_behind_105 (Nat.le_of_ble_eq_true rfl) ?_
  refine s_aload_n hZ.1 dX0_behind_107 rfl ?_
  refine yg0_2 dX0_behind_108 zw663 ?_
  refine yg9_4 dX0_behind_111 zw587 ?_
  refine s_aload_n hZ.1 dX0_behind_114 rfl ?_
  refine yg8_2 dX0_behind_115 zw465 ?_
  refine s_lald (tt := 1) rfl dX0_behind_118 ?_
  refine s_lstore hZ.1 dX0_behind_119 (Nat.le_of_ble_eq_true rfl) ?_
  refine s_aload_n hZ.1 dX0_behind_121 rfl ?_
  refine yg8_0 dX0_behind_122 zw458 ?_
  refine s_bipush dX0_behind_125 (by decide +kernel) ?_
  exact s_icmp_ne dX0_behind_127 (by decide) (wX0_behind_179 hZ hg hd) (wX0_behind_130 hZ hg hd)
noncomputable def vX0_behind_86 (g : Nat → List Nat → rx_H → Option (Nat × rx_H)) : rx_K := o_ld rx_isR 0 (o_const 104 (o_ld rx_isR 1 (o_getf 8 1 (o_callV 2 0 FX0_fail (o_ret1 rx_isZ)))))
set_option maxRecDepth 20000 in
theorem wX0_behind_86 {dn : Nat} {g : Nat → List Nat → rx_H → Option (Nat × rx_H)} (hZ : zO b e D A X) (hg : ∀ i y M, vl1[i]? = some (y, M) → rx_Met (zV b e D A X) dn y M (g i)) (hd : 3 ≤ dn) : rx_OK (zV b e D A X) mX0_behind (dn + 1) 86 (vX0_behind_86 g) := by
  unfold vX0_behind_86
  refine s_aload_n hZ.1 dX0_behind_86 rfl ?_
  refine s_bipush dX0_behind_87 (by decide +kernel) ?_
  refine s_aload_n hZ.1 dX0_behind_89 rfl ?_
  refine yg8_1 dX0_behind_90 zw462 ?_
  refine s_callV hZ.1 (Met_X0_fail hZ) (Nat.succ_le_succ (Nat.le_trans (Nat.le_of_ble_eq_true rfl) hd)) vy_X0_fail zcl0 zw2095 zw65 (Or.inl zw2093) dX0_behind_93 ?_
  exact s_zret rx_z_ok rfl dX0_behind_96
noncomputable def vX0_behind_78 (g : Nat → List Nat → rx_H → Option (Nat × rx_H)) : rx_K := o_ld rx_isL 3 (o_const 147573952589676412913 (o_bc (fun x y => lg_cmp x y) (o_c1 rx_eq (vX0_behind_86 g) (vX0_behind_97 g))))
set_option maxRecDepth 20000 in
theorem wX0_behind_78 {dn : Nat} {g : Nat → List Nat → rx_H → Option (Nat × rx_H)} (hZ : zO b e D A X) (hg : ∀ i y M, vl1[i]? = some (y, M) → rx_Met (zV b e D A X) dn y M (g i)) (hd : 3 ≤ dn) : rx_OK (zV b e D A X) mX0_behind (dn + 1) 78 (vX0_behind_78 g) := by
  unfold vX0_behind_78
  refine s_lload_n hZ.1 dX0_behind_78 rfl ?_
  refine s_ldc2 dX0_behind_79 zw2092 (by decide +kernel) ?_
  refine s_lcmp dX0_behind_82 ?_
  exact s_if_ne dX0_behind_83 (by decide) (wX0_behind_97 hZ hg hd) (wX0_behind_86 hZ hg hd)
noncomputable def vX0_behind_70 (g : Nat → List Nat → rx_H → Option (Nat × rx_H)) : rx_K := o_ld rx_isL 3 (o_const 147573952589676412905 (o_bc (fun x y => lg_cmp x y) (o_c1 rx_eq (vX0_behind_86 g) (vX0_behind_78 g))))
set_option maxRecDepth 20000 in
theorem wX0_behind_70 {dn : Nat} {g : Nat → List Nat → rx_H → Option (Nat × rx_H)} (hZ : zO b e D A X) (hg : ∀ i y M, vl1[i]? = some (y, M) → rx_Met (zV b e D A X) dn y M (g i)) (hd : 3 ≤ dn) : rx_OK (zV b e D A X) mX0_behind (dn + 1) 70 (vX0_behind_70 g) := by
  unfold vX0_behind_70
  refine s_lload_n hZ.1 dX0_behind_70 rfl ?_
  refine s_ldc2 dX0_behind_71 zw2153 (by decide +kernel) ?_
  refine s_lcmp dX0_behind_74 ?_
  exact s_if_eq dX0_behind_75 (by decide) (wX0_behind_86 hZ hg hd) (wX0_behind_78 hZ hg hd)
noncomputable def vX0_behind_62 (g : Nat → List Nat → rx_H → Option (Nat × rx_H)) : rx_K := o_ld rx_isL 3 (o_const 147573952589676412921 (o_bc (fun x y => lg_cmp x y) (o_c1 rx_eq (vX0_behind_86 g) (vX0_behind_70 g))))
set_option maxRecDepth 20000 in
theorem wX0_behind_62 {dn : Nat} {g : Nat → List Nat → rx_H → Option (Nat × rx_H)} (hZ : zO b e D A X) (hg : ∀ i y M, vl1[i]? = some (y, M) → rx_Met (zV b e D A X) dn y M (g i)) (hd : 3 ≤ dn) : rx_OK (zV b e D A X) mX0_behind (dn + 1) 62 (vX0_behind_62 g) := by
  unfold vX0_behind_62
  refine s_lload_n hZ.1 dX0_behind_62 rfl ?_
  refine s_ldc2 dX0_behind_63 zw2053 (by decide +kernel) ?_
  refine s_lcmp dX0_behind_66 ?_
  exact s_if_eq dX0_behind_67 (by decide) (wX0_behind_86 hZ hg hd) (wX0_behind_70 hZ hg hd)
noncomputable def vX0_behind_60 (g : Nat → List Nat → rx_H → Option (Nat × rx_H)) : rx_K := o_const 0 (o_ret1 rx_isZ)
set_option maxRecDepth 20000 in
theorem wX0_behind_60 {dn : Nat} {g : Nat → List Nat → rx_H → Option (Nat × rx_H)} (hZ : zO b e D A X) (hg : ∀ i y M, vl1[i]? = some (y, M) → rx_Met (zV b e D A X) dn y M (g i)) (hd : 3 ≤ dn) : rx_OK (zV b e D A X) mX0_behind (dn + 1) 60 (vX0_behind_60 g) := by
  unfold vX0_behind_60
  refine s_iconst dX0_behind_60 (by decide +kernel) ?_
  exact s_zret rx_z_ok rfl dX0_behind_61
noncomputable def vX0_behind_49 (g : Nat → List Nat → rx_H → Option (Nat × rx_H)) : rx_K := o_ld rx_isR 0 (o_ld rx_isR 2 (o_getf 8 5 (o_callV 1 0 (g 4) (o_c1 rx_eq (vX0_behind_60 g) (vX0_behind_62 g)))))
set_option maxRecDepth 20000 in
theorem wX0_behind_49 {dn : Nat} {g : Nat → List Nat → rx_H → Option (Nat × rx_H)} (hZ : zO b e D A X) (hg : ∀ i y M, vl1[i]? = some (y, M) → rx_Met (zV b e D A X) dn y M (g i)) (hd : 3 ≤ dn) : rx_OK (zV b e D A X) mX0_behind (dn + 1) 49 (vX0_behind_49 g) := by
  unfold vX0_behind_49
  refine s_aload_n hZ.1 dX0_behind_49 rfl ?_
  refine s_aload_n hZ.1 dX0_behind_50 rfl ?_
  refine yg8_5 dX0_behind_51 zw475 ?_
  refine s_callV hZ.1 (hg 4 _ _ rfl) (Nat.le_refl _) vy_X0_exprs zcl0 zw2115 zw70 (Or.inl zw2113) dX0_behind_54 ?_
  exact s_if_ne dX0_behind_57 (by decide) (wX0_behind_62 hZ hg hd) (wX0_behind_60 hZ hg hd)
noncomputable def vX0_behind_48 (g : Nat → List Nat → rx_H → Option (Nat × rx_H)) : rx_K := o_ret1 rx_isZ
set_option maxRecDepth 20000 in
theorem wX0_behind_48 {dn : Nat} {g : Nat → List Nat → rx_H → Option (Nat × rx_H)} (hZ : zO b e D A X) (hg : ∀ i y M, vl1[i]? = some (y, M) → rx_Met (zV b e D A X) dn y M (g i)) (hd : 3 ≤ dn) : rx_OK (zV b e D A X) mX0_behind (dn + 1) 48 (vX0_behind_48 g) := by
  unfold vX0_behind_48
  exact s_zret rx_z_ok rfl dX0_behind_48
noncomputable def vX0_behind_47 (g : Nat → List Nat → rx_H → Option (Nat × rx_H)) : rx_K := o_const 0 ((vX0_behind_48 g))
set_option maxRecDepth 20000 in
theorem wX0_behind_47 {dn : Nat} {g : Nat → List Nat → rx_H → Option (Nat × rx_H)} (hZ : zO b e D A X) (hg : ∀ i y M, vl1[i]? = some (y, M) → rx_Met (zV b e D A X) dn y M (g i)) (hd : 3 ≤ dn) : rx_OK (zV b e D A X) mX0_behind (dn + 1) 47 (vX0_behind_47 g) := by
  unfold vX0_behind_47
  refine s_iconst dX0_behind_47 (by decide +kernel) ?_
  exact (wX0_behind_48 hZ hg hd)
noncomputable def vX0_behind_43 (g : Nat → List Nat → rx_H → Option (Nat × rx_H)) : rx_K := o_const 8 ((vX0_behind_48 g))
set_option maxRecDepth 20000 in
theorem wX0_behind_43 {dn : Nat} {g : Nat → List Nat → rx_H → Option (Nat × rx_H)} (hZ : zO b e D A X) (hg : ∀ i y M, vl1[i]? = some (y, M) → rx_Met (zV b e D A X) dn y M (g i)) (hd : 3 ≤ dn) : rx_OK (zV b e D A X) mX0_behind (dn + 1) 43 (vX0_behind_43 g) := by
  unfold vX0_behind_43
  refine s_iconst dX0_behind_43 (by decide +kernel) ?_
  exact s_goto dX0_behind_44 (by decide) (wX0_behind_48 hZ hg hd)
noncomputable def vX0_behind_31 (g : Nat → List Nat → rx_H → Option (Nat × rx_H)) : rx_K := o_ld rx_isR 0 (o_ld rx_isL 3 (o_ld rx_isR 1 (o_getf 8 1 (o_callV 2 0 FX0_isObject (o_c1 rx_eq (vX0_behind_47 g) (vX0_behind_43 g))))))
set_option maxRecDepth 20000 in
theorem wX0_behind_31 {dn : Nat} {g : Nat → List Nat → rx_H → Option (Nat × rx_H)} (hZ : zO b e D A X) (hg : ∀ i y M, vl1[i]? = some (y, M) → rx_Met (zV b e D A X) dn y M (g i)) (hd : 3 ≤ dn) : rx_OK (zV b e D A X) mX0_behind (dn + 1) 31 (vX0_behind_31 g) := by
  unfold vX0_behind_31
  refine s_aload_n hZ.1 dX0_behind_31 rfl ?_
  refine s_lload_n hZ.1 dX0_behind_32 rfl ?_
  refine s_aload_n hZ.1 dX0_behind_33 rfl ?_
  refine yg8_1 dX0_behind_34 zw462 ?_
  refine s_callV hZ.1 (Met_X0_isObject hZ) (Nat.succ_le_succ (Nat.le_trans (Nat.le_of_ble_eq_true rfl) hd)) vy_X0_isObject zcl0 zw2151 zw78 (Or.inl zw2149) dX0_behind_37 ?_
  exact s_if_eq dX0_behind_40 (by decide) (wX0_behind_47 hZ hg hd) (wX0_behind_43 hZ hg hd)
noncomputable def vX0_behind_9 (g : Nat → List Nat → rx_H → Option (Nat × rx_H)) : rx_K := o_ld rx_isR 2 (o_const 147573952589676412921 (o_putf rx_isL 8 9 (o_ld rx_isR 0 (o_ld rx_isR 2 (o_getf 8 10 (o_ld rx_isR 2 (o_getf 8 2 (o_callV 2 0 FX0_named (o_c1 rx_lt (vX0_behind_47 g) (vX0_behind_31 g))))))))))
set_option maxRecDepth 20000 in
theorem wX0_behind_9 {dn : Nat} {g : Nat → List Nat → rx_H → Option (Nat × rx_H)} (hZ : zO b e D A X) (hg : ∀ i y M, vl1[i]? = some (y, M) → rx_Met (zV b e D A X) dn y M (g i)) (hd : 3 ≤ dn) : rx_OK (zV b e D A X) mX0_behind (dn + 1) 9 (vX0_behind_9 g) := by
  unfold vX0_behind_9
  refine s_aload_n hZ.1 dX0_behind_9 rfl ?_
  refine s_ldc2 dX0_behind_10 zw2053 (by decide +kernel) ?_
  refine yp8_9 hZ.1 dX0_behind_13 zw492 ?_
  refine s_aload_n hZ.1 dX0_behind_16 rfl ?_
  refine s_aload_n hZ.1 dX0_behind_17 rfl ?_
  refine yg8_10 dX0_behind_18 zw495 ?_
  refine s_aload_n hZ.1 dX0_behind_21 rfl ?_
  refine yg8_2 dX0_behind_22 zw465 ?_
  refine s_callV hZ.1 (Met_X0_named hZ) (Nat.succ_le_succ (Nat.le_trans (Nat.le_of_ble_eq_true rfl) hd)) vy_X0_named zcl0 zw2138 zw75 (Or.inl zw2136) dX0_behind_25 ?_
  exact s_if_lt dX0_behind_28 (by decide) (wX0_behind_47 hZ hg hd) (wX0_behind_31 hZ hg hd)
noncomputable def vX0_behind_0 (g : Nat → List Nat → rx_H → Option (Nat × rx_H)) : rx_K := o_ld rx_isR 2 (o_getf 8 0 (o_const 128 (o_c2 rx_eq (vX0_behind_9 g) (vX0_behind_49 g))))
set_option maxRecDepth 20000 in
theorem wX0_behind_0 {dn : Nat} {g : Nat → List Nat → rx_H → Option (Nat × rx_H)} (hZ : zO b e D A X) (hg : ∀ i y M, vl1[i]? = some (y, M) → rx_Met (zV b e D A X) dn y M (g i)) (hd : 3 ≤ dn) : rx_OK (zV b e D A X) mX0_behind (dn + 1) 0 (vX0_behind_0 g) := by
  unfold vX0_behind_0
  refine s_aload_n hZ.1 dX0_behind_0 rfl ?_
  refine yg8_0 dX0_behind_1 zw458 ?_
  refine s_bipush dX0_behind_4 (by decide +kernel) ?_
  exact s_icmp_ne dX0_behind_6 (by decide) (wX0_behind_49 hZ hg hd) (wX0_behind_9 hZ hg hd)
noncomputable def FX0_behind (g : Nat → List Nat → rx_H → Option (Nat × rx_H)) : List Nat → rx_H → Option (Nat × rx_H) := rx_ent 8 (vX0_behind_0 g)
theorem Met_X0_behind {dn : Nat} {g : Nat → List Nat → rx_H → Option (Nat × rx_H)} (hZ : zO b e D A X) (hg : ∀ i y M, vl1[i]? = some (y, M) → rx_Met (zV b e D A X) dn y M (g i)) (hd : 3 ≤ dn) : rx_Met (zV b e D A X) (dn + 1) yX0_behind mX0_behind (FX0_behind g) := rx_entry hZ.1 (wX0_behind_0 hZ hg hd) (by decide +kernel) rfl (fun h => by cases h)
noncomputable def vX0_chain_94 (g : Nat → List Nat → rx_H → Option (Nat × rx_H)) (j : Nat → rx_K) : rx_K := o_const 8 (o_ret1 rx_isZ)
set_option maxRecDepth 20000 in
theorem wX0_chain_94 {dn : Nat} {g : Nat → List Nat → rx_H → Option (Nat × rx_H)} (hZ : zO b e D A X) (hg : ∀ i y M, vl1[i]? = some (y, M) → rx_Met (zV b e D A X) dn y M (g i)) (hd : 3 ≤ dn) (j : Nat → rx_K) (hj : ∀ k pc, [37][k]? = some pc → rx_OK (zV b e D A X) mX0_chain (dn + 1) pc (j k)) : rx_OK (zV b e D A X) mX0_chain (dn + 1) 94 (vX0_chain_94 g j) := by
  unfold vX0_chain_94
  refine s_iconst dX0_chain_94 (by decide +kernel) ?_
  exact s_zret rx_z_ok rfl dX0_chain_95
noncomputable def vX0_chain_86 (g : Nat → List Nat → rx_H → Option (Nat × rx_H)) (j : Nat → rx_K) : rx_K := o_ld rx_isR 3 (o_getf 8 8 (o_st rx_isR 3 ((j 0))))
set_option maxRecDepth 20000 in
theorem wX0_chain_86 {dn : Nat} {g : Nat → List Nat → rx_H → Option (Nat × rx_H)} (hZ : zO b e D A X) (hg : ∀ i y M, vl1[i]? = some (y, M) → rx_Met (zV b e D A X) dn y M (g i)) (hd : 3 ≤ dn) (j : Nat → rx_K) (hj : ∀ k pc, [37][k]? = some pc → rx_OK (zV b e D A X) mX0_chain (dn + 1) pc (j k)) : rx_OK (zV b e D A X) mX0_chain (dn + 1) 86 (vX0_chain_86 g j) := by
  unfold vX0_chain_86
  refine s_aload_n hZ.1 dX0_chain_86 rfl ?_
  refine yg8_8 dX0_chain_87 zw487 ?_
  refine s_astore_n hZ.1 dX0_chain_90 rfl (Nat.le_of_ble_eq_true rfl) ?_
  exact s_goto dX0_chain_91 (by decide) (hj 0 37 rfl)
noncomputable def vX0_chain_84 (g : Nat → List Nat → rx_H → Option (Nat × rx_H)) (j : Nat → rx_K) : rx_K := o_const 0 (o_ret1 rx_isZ)
set_option maxRecDepth 20000 in
theorem wX0_chain_84 {dn : Nat} {g : Nat → List Nat → rx_H → Option (Nat × rx_H)} (hZ : zO b e D A X) (hg : ∀ i y M, vl1[i]? = some (y, M) → rx_Met (zV b e D A X) dn y M (g i)) (hd : 3 ≤ dn) (j : Nat → rx_K) (hj : ∀ k pc, [37][k]? = some pc → rx_OK (zV b e D A X) mX0_chain (dn + 1) pc (j k)) : rx_OK (zV b e D A X) mX0_chain (dn + 1) 84 (vX0_chain_84 g j) := by
  unfold vX0_chain_84
  refine s_iconst dX0_chain_84 (by decide +kernel) ?_
  exact s_zret rx_z_ok rfl dX0_chain_85
noncomputable def vX0_chain_71 (g : Nat → List Nat → rx_H → Option (Nat × rx_H)) (j : Nat → rx_K) : rx_K := o_const 0 (o_st rx_isI 2 (o_ld rx_isR 0 (o_ld rx_isR 3 (o_const 147573952589676412921 (o_callV 2 0 FX0_wanted (o_c1 rx_eq (vX0_chain_84 g j) (vX0_chain_86 g j)))))))
set_option maxRecDepth 20000 in
theorem wX0_chain_71 {dn : Nat} {g : Nat → List Nat → rx_H → Option (Nat × rx_H)} (hZ : zO b e D A X) (hg : ∀ i y M, vl1[i]? = some (y, M) → rx_Met (zV b e D A X) dn y M (g i)) (hd : 3 ≤ dn) (j : Nat → rx_K) (hj : ∀ k pc, [37][k]? = some pc → rx_OK (zV b e D A X) mX0_chain (dn + 1) pc (j k)) : rx_OK (zV b e D A X) mX0_chain (dn + 1) 71 (vX0_chain_71 g j) := by
  unfold vX0_chain_71
  refine s_iconst dX0_chain_71 (by decide +kernel) ?_
  refine s_istore_n hZ.1 dX0_chain_72 rfl (Nat.le_of_ble_eq_true rfl) ?_
  refine s_aload_n hZ.1 dX0_chain_73 rfl ?_
  refine s_aload_n hZ.1 dX0_chain_74 rfl ?_
  refine s_ldc2 dX0_chain_75 zw2053 (by decide +kernel) ?_
  refine s_callV hZ.1 (Met_X0_wanted hZ) (Nat.succ_le_succ (Nat.le_trans (Nat.le_of_ble_eq_true rfl) hd)) vy_X0_wanted zcl0 zw2168 zw82 (Or.inl zw2166) dX0_chain_78 ?_
  exact s_if_ne dX0_chain_81 (by decide) (wX0_chain_86 hZ hg hd j hj) (wX0_chain_84 hZ hg hd j hj)
noncomputable def vX0_chain_69 (g : Nat → List Nat → rx_H → Option (Nat × rx_H)) (j : Nat → rx_K) : rx_K := o_const 0 (o_ret1 rx_isZ)
set_option maxRecDepth 20000 in
theorem wX0_chain_69 {dn : Nat} {g : Nat → List Nat → rx_H → Option (Nat × rx_H)} (hZ : zO b e D A X) (hg : ∀ i y M, vl1[i]? = some (y, M) → rx_Met (zV b e D A X) dn y M (g i)) (hd : 3 ≤ dn) (j : Nat → rx_K) (hj : ∀ k pc, [37][k]? = some pc → rx_OK (zV b e D A X) mX0_chain (dn + 1) pc (j k)) : rx_OK (zV b e D A X) mX0_chain (dn + 1) 69 (vX0_chain_69 g j) := by
  unfold vX0_chain_69
  refine s_iconst dX0_chain_69 (by decide +kernel) ?_
  exact s_zret rx_z_ok rfl dX0_chain_70
noncomputable def vX0_chain_55 (g : Nat → List Nat → rx_H → Option (Nat × rx_H)) (j : Nat → rx_K) : rx_K := o_ld rx_isR 0 (o_ld rx_isR 1 (o_getf 8 5 (o_const 147573952589676412921 (o_callV 2 0 FX0_wanted (o_c1 rx_eq (vX0_chain_69 g j) (vX0_chain_71 g j))))))
set_option maxRecDepth 20000 in
theorem wX0_chain_55 {dn : Nat} {g : Nat → List Nat → rx_H → Option (Nat × rx_H)} (hZ : zO b e D A X) (hg : ∀ i y M, vl1[i]? = some (y, M) → rx_Met (zV b e D A X) dn y M (g i)) (hd : 3 ≤ dn) (j : Nat → rx_K) (hj : ∀ k pc, [37][k]? = some pc → rx_OK (zV b e D A X) mX0_chain (dn + 1) pc (j k)) : rx_OK (zV b e D A X) mX0_chain (dn + 1) 55 (vX0_chain_55 g j) := by
  unfold vX0_chain_55
  refine s_aload_n hZ.1 dX0_chain_55 rfl ?_
  refine s_aload_n hZ.1 dX0_chain_56 rfl ?_
  refine yg8_5 dX0_chain_57 zw475 ?_
  refine s_ldc2 dX0_chain_60 zw2053 (by decide +kernel) ?_
  refine s_callV hZ.1 (Met_X0_wanted hZ) (Nat.succ_le_succ (Nat.le_trans (Nat.le_of_ble_eq_true rfl) hd)) vy_X0_wanted zcl0 zw2168 zw82 (Or.inl zw2166) dX0_chain_63 ?_
  exact s_if_ne dX0_chain_66 (by decide) (wX0_chain_71 hZ hg hd j hj) (wX0_chain_69 hZ hg hd j hj)
noncomputable def vX0_chain_51 (g : Nat → List Nat → rx_H → Option (Nat × rx_H)) (j : Nat → rx_K) : rx_K := o_ld rx_isI 2 (o_c1 rx_eq (vX0_chain_71 g j) (vX0_chain_55 g j))
set_option maxRecDepth 20000 in
theorem wX0_chain_51 {dn : Nat} {g : Nat → List Nat → rx_H → Option (Nat × rx_H)} (hZ : zO b e D A X) (hg : ∀ i y M, vl1[i]? = some (y, M) → rx_Met (zV b e D A X) dn y M (g i)) (hd : 3 ≤ dn) (j : Nat → rx_K) (hj : ∀ k pc, [37][k]? = some pc → rx_OK (zV b e D A X) mX0_chain (dn + 1) pc (j k)) : rx_OK (zV b e D A X) mX0_chain (dn + 1) 51 (vX0_chain_51 g j) := by
  unfold vX0_chain_51
  refine s_iload_n hZ.1 dX0_chain_51 rfl ?_
  exact s_if_eq dX0_chain_52 (by decide) (wX0_chain_71 hZ hg hd j hj) (wX0_chain_55 hZ hg hd j hj)
noncomputable def vX0_chain_49 (g : Nat → List Nat → rx_H → Option (Nat × rx_H)) (j : Nat → rx_K) : rx_K := o_const 0 (o_ret1 rx_isZ)
set_option maxRecDepth 20000 in
theorem wX0_chain_49 {dn : Nat} {g : Nat → List Nat → rx_H → Option (Nat × rx_H)} (hZ : zO b e D A X) (hg : ∀ i y M, vl1[i]? = some (y, M) → rx_Met (zV b e D A X) dn y M (g i)) (hd : 3 ≤ dn) (j : Nat → rx_K) (hj : ∀ k pc, [37][k]? = some pc → rx_OK (zV b e D A X) mX0_chain (dn + 1) pc (j k)) : rx_OK (zV b e D A X) mX0_chain (dn + 1) 49 (vX0_chain_49 g j) := by
  unfold vX0_chain_49
  refine s_iconst dX0_chain_49 (by decide +kernel) ?_
  exact s_zret rx_z_ok rfl dX0_chain_50
noncomputable def vX0_chain_41 (g : Nat → List Nat → rx_H → Option (Nat × rx_H)) (j : Nat → rx_K) : rx_K := o_ld rx_isR 0 (o_ld rx_isR 3 (o_callV 1 0 (g 3) (o_c1 rx_eq (vX0_chain_49 g j) (vX0_chain_51 g j))))
set_option maxRecDepth 20000 in
theorem wX0_chain_41 {dn : Nat} {g : Nat → List Nat → rx_H → Option (Nat × rx_H)} (hZ : zO b e D A X) (hg : ∀ i y M, vl1[i]? = some (y, M) → rx_Met (zV b e D A X) dn y M (g i)) (hd : 3 ≤ dn) (j : Nat → rx_K) (hj : ∀ k pc, [37][k]? = some pc → rx_OK (zV b e D A X) mX0_chain (dn + 1) pc (j k)) : rx_OK (zV b e D A X) mX0_chain (dn + 1) 41 (vX0_chain_41 g j) := by
  unfold vX0_chain_41
  refine s_aload_n hZ.1 dX0_chain_41 rfl ?_
  refine s_aload_n hZ.1 dX0_chain_42 rfl ?_
  refine s_callV hZ.1 (hg 3 _ _ rfl) (Nat.le_refl _) vy_X0_expr zcl0 zw2090 zw64 (Or.inl zw2088) dX0_chain_43 ?_
  exact s_if_ne dX0_chain_46 (by decide) (wX0_chain_51 hZ hg hd j hj) (wX0_chain_49 hZ hg hd j hj)
noncomputable def vX0_chain_37 (g : Nat → List Nat → rx_H → Option (Nat × rx_H)) (j : Nat → rx_K) : rx_K := o_ld rx_isR 3 (o_nul (vX0_chain_94 g j) (vX0_chain_41 g j))
set_option maxRecDepth 20000 in
theorem wX0_chain_37 {dn : Nat} {g : Nat → List Nat → rx_H → Option (Nat × rx_H)} (hZ : zO b e D A X) (hg : ∀ i y M, vl1[i]? = some (y, M) → rx_Met (zV b e D A X) dn y M (g i)) (hd : 3 ≤ dn) (j : Nat → rx_K) (hj : ∀ k pc, [37][k]? = some pc → rx_OK (zV b e D A X) mX0_chain (dn + 1) pc (j k)) : rx_OK (zV b e D A X) mX0_chain (dn + 1) 37 (vX0_chain_37 g j) := by
  unfold vX0_chain_37
  refine s_aload_n hZ.1 dX0_chain_37 rfl ?_
  exact s_ifnull dX0_chain_38 (by decide) (wX0_chain_94 hZ hg hd j hj) (wX0_chain_41 hZ hg hd j hj)
noncomputable def vX0_chain_27 (g : Nat → List Nat → rx_H → Option (Nat × rx_H)) (j : Nat → rx_K) : rx_K := o_const 8 (o_st rx_isI 2 (o_ld rx_isR 1 (o_getf 8 5 (o_getf 8 8 (o_st rx_isR 3 ((vX0_chain_37 g j)))))))
set_option maxRecDepth 20000 in
theorem wX0_chain_27 {dn : Nat} {g : Nat → List Nat → rx_H → Option (Nat × rx_H)} (hZ : zO b e D A X) (hg : ∀ i y M, vl1[i]? = some (y, M) → rx_Met (zV b e D A X) dn y M (g i)) (hd : 3 ≤ dn) (j : Nat → rx_K) (hj : ∀ k pc, [37][k]? = some pc → rx_OK (zV b e D A X) mX0_chain (dn + 1) pc (j k)) : rx_OK (zV b e D A X) mX0_chain (dn + 1) 27 (vX0_chain_27 g j) := by
  unfold vX0_chain_27
  refine s_iconst dX0_chain_27 (by decide +kernel) ?_
  refine s_istore_n hZ.1 dX0_chain_28 rfl (Nat.le_of_ble_eq_true rfl) ?_
  refine s_aload_n hZ.1 dX0_chain_29 rfl ?_
  refine yg8_5 dX0_chain_30 zw475 ?_
  refine yg8_8 dX0_chain_33 zw487 ?_
  refine s_astore_n hZ.1 dX0_chain_36 rfl (Nat.le_of_ble_eq_true rfl) ?_
  exact (wX0_chain_37 hZ hg hd j hj)
noncomputable def vX0_chain_25 (g : Nat → List Nat → rx_H → Option (Nat × rx_H)) (j : Nat → rx_K) : rx_K := o_const 0 (o_ret1 rx_isZ)
set_option maxRecDepth 20000 in
theorem wX0_chain_25 {dn : Nat} {g : Nat → List Nat → rx_H → Option (Nat × rx_H)} (hZ : zO b e D A X) (hg : ∀ i y M, vl1[i]? = some (y, M) → rx_Met (zV b e D A X) dn y M (g i)) (hd : 3 ≤ dn) (j : Nat → rx_K) (hj : ∀ k pc, [37][k]? = some pc → rx_OK (zV b e D A X) mX0_chain (dn + 1) pc (j k)) : rx_OK (zV b e D A X) mX0_chain (dn + 1) 25 (vX0_chain_25 g j) := by
  unfold vX0_chain_25
  refine s_iconst dX0_chain_25 (by decide +kernel) ?_
  exact s_zret rx_z_ok rfl dX0_chain_26
noncomputable def vX0_chain_14 (g : Nat → List Nat → rx_H → Option (Nat × rx_H)) (j : Nat → rx_K) : rx_K := o_ld rx_isR 0 (o_ld rx_isR 1 (o_getf 8 5 (o_callV 1 0 (g 3) (o_c1 rx_eq (vX0_chain_25 g j) (vX0_chain_27 g j)))))
set_option maxRecDepth 20000 in
theorem wX0_chain_14 {dn : Nat} {g : Nat → List Nat → rx_H → Option (Nat × rx_H)} (hZ : zO b e D A X) (hg : ∀ i y M, vl1[i]? = some (y, M) → rx_Met (zV b e D A X) dn y M (g i)) (hd : 3 ≤ dn) (j : Nat → rx_K) (hj : ∀ k pc, [37][k]? = some pc → rx_OK (zV b e D A X) mX0_chain (dn + 1) pc (j k)) : rx_OK (zV b e D A X) mX0_chain (dn + 1) 14 (vX0_chain_14 g j) := by
  unfold vX0_chain_14
  refine s_aload_n hZ.1 dX0_chain_14 rfl ?_
  refine s_aload_n hZ.1 dX0_chain_15 rfl ?_
  refine yg8_5 dX0_chain_16 zw475 ?_
  refine s_callV hZ.1 (hg 3 _ _ rfl) (Nat.le_refl _) vy_X0_expr zcl0 zw2090 zw64 (Or.inl zw2088) dX0_chain_19 ?_
  exact s_if_ne dX0_chain_22 (by decide) (wX0_chain_27 hZ hg hd j hj) (wX0_chain_25 hZ hg hd j hj)
noncomputable def vX0_chain_0 (g : Nat → List Nat → rx_H → Option (Nat × rx_H)) (j : Nat → rx_K) : rx_K := o_ld rx_isR 1 (o_const 147573952589676412921 (o_putf rx_isL 8 9 (o_ld rx_isR 1 (o_getf 8 5 (o_nul (vX0_chain_25 g j) (vX0_chain_14 g j))))))
set_option maxRecDepth 20000 in
theorem wX0_chain_0 {dn : Nat} {g : Nat → List Nat → rx_H → Option (Nat × rx_H)} (hZ : zO b e D A X) (hg : ∀ i y M, vl1[i]? = some (y, M) → rx_Met (zV b e D A X) dn y M (g i)) (hd : 3 ≤ dn) (j : Nat → rx_K) (hj : ∀ k pc, [37][k]? = some pc → rx_OK (zV b e D A X) mX0_chain (dn + 1) pc (j k)) : rx_OK (zV b e D A X) mX0_chain (dn + 1) 0 (vX0_chain_0 g j) := by
  unfold vX0_chain_0
  refine s_aload_n hZ.1 dX0_chain_0 rfl ?_
  refine s_ldc2 dX0_chain_1 zw2053 (by decide +kernel) ?_
  refine yp8_9 hZ.1 dX0_chain_4 zw492 ?_
  refine s_aload_n hZ.1 dX0_chain_7 rfl ?_
  refine yg8_5 dX0_chain_8 zw475 ?_
  exact s_ifnull dX0_chain_11 (by decide) (wX0_chain_25 hZ hg hd j hj) (wX0_chain_14 hZ hg hd j hj)
noncomputable def vhX0_chain (g : Nat → List Nat → rx_H → Option (Nat × rx_H)) (j : Nat → rx_K) : List rx_K := [vX0_chain_37 g j]
theorem vlX0_chain {dn : Nat} {g : Nat → List Nat → rx_H → Option (Nat × rx_H)} (hZ : zO b e D A X) (hg : ∀ i y M, vl1[i]? = some (y, M) → rx_Met (zV b e D A X) dn y M (g i)) (hd : 3 ≤ dn) : ∀ n k pc, [37][k]? = some pc → rx_OK (zV b e D A X) mX0_chain (dn + 1) pc (rx_J (vhX0_chain g) n k) := rx_loop fun j hj k pc h => by
  match k, h with
  | 0, h =>
    have e9 := Option.some.inj (show some 37 = some pc from h)
    subst e9
    exact wX0_chain_37 hZ hg hd j hj
  | _ + 1, h => exact absurd h (by simp)
noncomputable def FX0_chain (g : Nat → List Nat → rx_H → Option (Nat × rx_H)) : List Nat → rx_H → Option (Nat × rx_H) := rx_ent 4 (vX0_chain_0 g (rx_J (vhX0_chain g) 4000000000))
theorem Met_X0_chain {dn : Nat} {g : Nat → List Nat → rx_H → Option (Nat × rx_H)} (hZ : zO b e D A X) (hg : ∀ i y M, vl1[i]? = some (y, M) → rx_Met (zV b e D A X) dn y M (g i)) (hd : 3 ≤ dn) : rx_Met (zV b e D A X) (dn + 1) yX0_chain mX0_chain (FX0_chain g) := rx_entry hZ.1 (wX0_chain_0 hZ hg hd _ (vlX0_chain hZ hg hd 4000000000)) (by decide +kernel) rfl (fun h => by cases h)
end ZM2

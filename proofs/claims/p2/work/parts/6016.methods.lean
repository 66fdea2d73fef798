section ZM16
variable {b : Nat} {e : Nat → Value} {D : va_G} {A : Nat → ClassId} {X : State → Prop}
abbrev mX4_judge : rx_M := (RX4, cX4_judge, 5, (some .boolean), false)
theorem vy_X4_judge : rx_Y (zV b e D A X) yX4_judge mX4_judge 2 := ⟨zw1891, zw420, by decide, by decide +kernel, by decide +kernel, by decide +kernel⟩
noncomputable def vX4_judge_397 (j : Nat → rx_K) : rx_K := o_ret1 rx_isZ
set_option maxRecDepth 20000 in
theorem wX4_judge_397 (hZ : zO b e D A X) (j : Nat → rx_K) (hj : ∀ k pc, [17, 58, 142, 200, 258, 329][k]? = some pc → rx_OK (zV b e D A X) mX4_judge 6 pc (j k)) : rx_OK (zV b e D A X) mX4_judge 6 397 (vX4_judge_397 j) := by
  unfold vX4_judge_397
  exact s_zret rx_z_ok rfl dX4_judge_397
noncomputable def vX4_judge_396 (j : Nat → rx_K) : rx_K := o_const 0 ((vX4_judge_397 j))
set_option maxRecDepth 20000 in
theorem wX4_judge_396 (hZ : zO b e D A X) (j : Nat → rx_K) (hj : ∀ k pc, [17, 58, 142, 200, 258, 329][k]? = some pc → rx_OK (zV b e D A X) mX4_judge 6 pc (j k)) : rx_OK (zV b e D A X) mX4_judge 6 396 (vX4_judge_396 j) := by
  unfold vX4_judge_396
  refine s_iconst dX4_judge_396 (by decide +kernel) ?_
  exact (wX4_judge_397 hZ j hj)
noncomputable def vX4_judge_392 (j : Nat → rx_K) : rx_K := o_const 8 ((vX4_judge_397 j))
set_option maxRecDepth 20000 in
theorem wX4_judge_392 (hZ : zO b e D A X) (j : Nat → rx_K) (hj : ∀ k pc, [17, 58, 142, 200, 258, 329][k]? = some pc → rx_OK (zV b e D A X) mX4_judge 6 pc (j k)) : rx_OK (zV b e D A X) mX4_judge 6 392 (vX4_judge_392 j) := by
  unfold vX4_judge_392
  refine s_iconst dX4_judge_392 (by decide +kernel) ?_
  exact s_goto dX4_judge_393 (by decide) (wX4_judge_397 hZ j hj)
noncomputable def vX4_judge_385 (j : Nat → rx_K) : rx_K := o_ld rx_isR 0 (o_getf 4 2 (o_c1 rx_eq (vX4_judge_392 j) (vX4_judge_396 j)))
set_option maxRecDepth 20000 in
theorem wX4_judge_385 (hZ : zO b e D A X) (j : Nat → rx_K) (hj : ∀ k pc, [17, 58, 142, 200, 258, 329][k]? = some pc → rx_OK (zV b e D A X) mX4_judge 6 pc (j k)) : rx_OK (zV b e D A X) mX4_judge 6 385 (vX4_judge_385 j) := by
  unfold vX4_judge_385
  refine s_aload_n hZ.1 dX4_judge_385 rfl ?_
  refine yg4_2 dX4_judge_386 zw640 ?_
  exact s_if_ne dX4_judge_389 (by decide) (wX4_judge_396 hZ j hj) (wX4_judge_392 hZ j hj)
noncomputable def vX4_judge_347 (j : Nat → rx_K) : rx_K := o_ld rx_isR 0 (o_ld rx_isR 0 (o_getf 4 1 (o_getf 1 2 (o_ld rx_isI 3 (o_ald 4 (o_ld rx_isR 0 (o_getf 4 0 (o_ld rx_isR 0 (o_getf 4 1 (o_getf 1 2 (o_ld rx_isI 3 (o_ald 4 (o_getf 10 1 (o_callV 1 11 FX11_find (o_callV 2 4 FX4_whole (o_inc 3 (1) ((j 5))))))))))))))))))
set_option maxRecDepth 20000 in
theorem wX4_judge_347 (hZ : zO b e D A X) (j : Nat → rx_K) (hj : ∀ k pc, [17, 58, 142, 200, 258, 329][k]? = some pc → rx_OK (zV b e D A X) mX4_judge 6 pc (j k)) : rx_OK (zV b e D A X) mX4_judge 6 347 (vX4_judge_347 j) := by
  unfold vX4_judge_347
  refine s_aload_n hZ.1 dX4_judge_347 rfl ?_
  refine s_aload_n hZ.1 dX4_judge_348 rfl ?_
  refine yg4_1 dX4_judge_349 zw639 ?_
  refine yg1_2 dX4_judge_352 zw1117 ?_
  refine s_iload_n hZ.1 dX4_judge_355 rfl ?_
  refine s_aald (tt := 4) rfl rfl dX4_judge_356 ?_
  refine s_aload_n hZ.1 dX4_judge_357 rfl ?_
  refine yg4_0 dX4_judge_358 zw638 ?_
  refine s_aload_n hZ.1 dX4_judge_361 rfl ?_
  refine yg4_1 dX4_judge_362 zw639 ?_
  refine yg1_2 dX4_judge_365 zw1117 ?_
  refine s_iload_n hZ.1 dX4_judge_368 rfl ?_
  refine s_aald (tt := 4) rfl rfl dX4_judge_369 ?_
  refine yg10_1 dX4_judge_370 zw772 ?_
  refine s_callV hZ.1 (Met_X11_find hZ) (Nat.le_of_ble_eq_true rfl) vy_X11_find zcl11 zw1574 zw1575 (Or.inl zw1901) dX4_judge_373 ?_
  refine s_callV hZ.1 (Met_X4_whole hZ) (Nat.le_of_ble_eq_true rfl) vy_X4_whole zcl4 zw2023 zw56 (Or.inl zw2021) dX4_judge_376 ?_
  refine s_iinc hZ.1 dX4_judge_379 (Nat.le_of_ble_eq_true rfl) ?_
  exact s_goto dX4_judge_382 (by decide) (hj 5 329 rfl)
noncomputable def vX4_judge_340 (j : Nat → rx_K) : rx_K := o_ld rx_isR 0 (o_getf 4 2 (o_c1 rx_eq (vX4_judge_347 j) (vX4_judge_385 j)))
set_option maxRecDepth 20000 in
theorem wX4_judge_340 (hZ : zO b e D A X) (j : Nat → rx_K) (hj : ∀ k pc, [17, 58, 142, 200, 258, 329][k]? = some pc → rx_OK (zV b e D A X) mX4_judge 6 pc (j k)) : rx_OK (zV b e D A X) mX4_judge 6 340 (vX4_judge_340 j) := by
  unfold vX4_judge_340
  refine s_aload_n hZ.1 dX4_judge_340 rfl ?_
  refine yg4_2 dX4_judge_341 zw640 ?_
  exact s_if_ne dX4_judge_344 (by decide) (wX4_judge_385 hZ j hj) (wX4_judge_347 hZ j hj)
noncomputable def vX4_judge_329 (j : Nat → rx_K) : rx_K := o_ld rx_isI 3 (o_ld rx_isR 0 (o_getf 4 1 (o_getf 1 3 (o_c2 rx_lt (vX4_judge_340 j) (vX4_judge_385 j)))))
set_option maxRecDepth 20000 in
theorem wX4_judge_329 (hZ : zO b e D A X) (j : Nat → rx_K) (hj : ∀ k pc, [17, 58, 142, 200, 258, 329][k]? = some pc → rx_OK (zV b e D A X) mX4_judge 6 pc (j k)) : rx_OK (zV b e D A X) mX4_judge 6 329 (vX4_judge_329 j) := by
  unfold vX4_judge_329
  refine s_iload_n hZ.1 dX4_judge_329 rfl ?_
  refine s_aload_n hZ.1 dX4_judge_330 rfl ?_
  refine yg4_1 dX4_judge_331 zw639 ?_
  refine yg1_3 dX4_judge_334 zw1123 ?_
  exact s_icmp_ge dX4_judge_337 (by decide) (wX4_judge_385 hZ j hj) (wX4_judge_340 hZ j hj)
noncomputable def vX4_judge_327 (j : Nat → rx_K) : rx_K := o_const 0 (o_st rx_isI 3 ((vX4_judge_329 j)))
set_option maxRecDepth 20000 in
theorem wX4_judge_327 (hZ : zO b e D A X) (j : Nat → rx_K) (hj : ∀ k pc, [17, 58, 142, 200, 258, 329][k]? = some pc → rx_OK (zV b e D A X) mX4_judge 6 pc (j k)) : rx_OK (zV b e D A X) mX4_judge 6 327 (vX4_judge_327 j) := by
  unfold vX4_judge_327
  refine s_iconst dX4_judge_327 (by decide +kernel) ?_
  refine s_istore_n hZ.1 dX4_judge_328 rfl (Nat.le_of_ble_eq_true rfl) ?_
  exact (wX4_judge_329 hZ j hj)
noncomputable def vX4_judge_324 (j : Nat → rx_K) : rx_K := (j 4)
set_option maxRecDepth 20000 in
theorem wX4_judge_324 (hZ : zO b e D A X) (j : Nat → rx_K) (hj : ∀ k pc, [17, 58, 142, 200, 258, 329][k]? = some pc → rx_OK (zV b e D A X) mX4_judge 6 pc (j k)) : rx_OK (zV b e D A X) mX4_judge 6 324 (vX4_judge_324 j) := by
  unfold vX4_judge_324
  exact s_goto dX4_judge_324 (by decide) (hj 4 258 rfl)
noncomputable def vX4_judge_276 (j : Nat → rx_K) : rx_K := o_ld rx_isR 0 (o_ld rx_isR 0 (o_getf 4 1 (o_getf 1 2 (o_ld rx_isI 3 (o_ald 4 (o_callV 1 4 FX4_impliedMaker (o_ld rx_isR 0 (o_ld rx_isR 0 (o_getf 4 1 (o_getf 1 2 (o_ld rx_isI 3 (o_ald 4 (o_ld rx_isR 0 (o_getf 4 0 (o_ld rx_isR 0 (o_getf 4 1 (o_getf 1 2 (o_ld rx_isI 3 (o_ald 4 (o_getf 10 1 (o_callV 1 11 FX11_find (o_callV 2 4 FX4_bridges (o_inc 3 (1) ((vX4_judge_324 j)))))))))))))))))))))))))
set_option maxRecDepth 20000 in
theorem wX4_judge_276 (hZ : zO b e D A X) (j : Nat → rx_K) (hj : ∀ k pc, [17, 58, 142, 200, 258, 329][k]? = some pc → rx_OK (zV b e D A X) mX4_judge 6 pc (j k)) : rx_OK (zV b e D A X) mX4_judge 6 276 (vX4_judge_276 j) := by
  unfold vX4_judge_276
  refine s_aload_n hZ.1 dX4_judge_276 rfl ?_
  refine s_aload_n hZ.1 dX4_judge_277 rfl ?_
  refine yg4_1 dX4_judge_278 zw639 ?_
  refine yg1_2 dX4_judge_281 zw1117 ?_
  refine s_iload_n hZ.1 dX4_judge_284 rfl ?_
  refine s_aald (tt := 4) rfl rfl dX4_judge_285 ?_
  refine s_callV hZ.1 (Met_X4_impliedMaker hZ) (Nat.le_of_ble_eq_true rfl) vy_X4_impliedMaker zcl4 zw1990 zw53 (Or.inl zw1988) dX4_judge_286 ?_
  refine s_aload_n hZ.1 dX4_judge_289 rfl ?_
  refine s_aload_n hZ.1 dX4_judge_290 rfl ?_
  refine yg4_1 dX4_judge_291 zw639 ?_
  refine yg1_2 dX4_judge_294 zw1117 ?_
  refine s_iload_n hZ.1 dX4_judge_297 rfl ?_
  refine s_aald (tt := 4) rfl rfl dX4_judge_298 ?_
  refine s_aload_n hZ.1 dX4_judge_299 rfl ?_
  refine yg4_0 dX4_judge_300 zw638 ?_
  refine s_aload_n hZ.1 dX4_judge_303 rfl ?_
  refine yg4_1 dX4_judge_304 zw639 ?_
  refine yg1_2 dX4_judge_307 zw1117 ?_
  refine s_iload_n hZ.1 dX4_judge_310 rfl ?_
  refine s_aald (tt := 4) rfl rfl dX4_judge_311 ?_
  refine yg10_1 dX4_judge_312 zw772 ?_
  refine s_callV hZ.1 (Met_X11_find hZ) (Nat.le_of_ble_eq_true rfl) vy_X11_find zcl11 zw1574 zw1575 (Or.inl zw1901) dX4_judge_315 ?_
  refine s_callV hZ.1 (Met_X4_bridges hZ) (Nat.le_of_ble_eq_true rfl) vy_X4_bridges zcl4 zw2000 zw54 (Or.inl zw1998) dX4_judge_318 ?_
  refine s_iinc hZ.1 dX4_judge_321 (Nat.le_of_ble_eq_true rfl) ?_
  exact (wX4_judge_324 hZ j hj)
noncomputable def vX4_judge_269 (j : Nat → rx_K) : rx_K := o_ld rx_isR 0 (o_getf 4 2 (o_c1 rx_eq (vX4_judge_276 j) (vX4_judge_327 j)))
set_option maxRecDepth 20000 in
theorem wX4_judge_269 (hZ : zO b e D A X) (j : Nat → rx_K) (hj : ∀ k pc, [17, 58, 142, 200, 258, 329][k]? = some pc → rx_OK (zV b e D A X) mX4_judge 6 pc (j k)) : rx_OK (zV b e D A X) mX4_judge 6 269 (vX4_judge_269 j) := by
  unfold vX4_judge_269
  refine s_aload_n hZ.1 dX4_judge_269 rfl ?_
  refine yg4_2 dX4_judge_270 zw640 ?_
  exact s_if_ne dX4_judge_273 (by decide) (wX4_judge_327 hZ j hj) (wX4_judge_276 hZ j hj)
noncomputable def vX4_judge_258 (j : Nat → rx_K) : rx_K := o_ld rx_isI 3 (o_ld rx_isR 0 (o_getf 4 1 (o_getf 1 3 (o_c2 rx_lt (vX4_judge_269 j) (vX4_judge_327 j)))))
set_option maxRecDepth 20000 in
theorem wX4_judge_258 (hZ : zO b e D A X) (j : Nat → rx_K) (hj : ∀ k pc, [17, 58, 142, 200, 258, 329][k]? = some pc → rx_OK (zV b e D A X) mX4_judge 6 pc (j k)) : rx_OK (zV b e D A X) mX4_judge 6 258 (vX4_judge_258 j) := by
  unfold vX4_judge_258
  refine s_iload_n hZ.1 dX4_judge_258 rfl ?_
  refine s_aload_n hZ.1 dX4_judge_259 rfl ?_
  refine yg4_1 dX4_judge_260 zw639 ?_
  refine yg1_3 dX4_judge_263 zw1123 ?_
  exact s_icmp_ge dX4_judge_266 (by decide) (wX4_judge_327 hZ j hj) (wX4_judge_269 hZ j hj)
noncomputable def vX4_judge_256 (j : Nat → rx_K) : rx_K := o_const 0 (o_st rx_isI 3 ((vX4_judge_258 j)))
set_option maxRecDepth 20000 in
theorem wX4_judge_256 (hZ : zO b e D A X) (j : Nat → rx_K) (hj : ∀ k pc, [17, 58, 142, 200, 258, 329][k]? = some pc → rx_OK (zV b e D A X) mX4_judge 6 pc (j k)) : rx_OK (zV b e D A X) mX4_judge 6 256 (vX4_judge_256 j) := by
  unfold vX4_judge_256
  refine s_iconst dX4_judge_256 (by decide +kernel) ?_
  refine s_istore_n hZ.1 dX4_judge_257 rfl (Nat.le_of_ble_eq_true rfl) ?_
  exact (wX4_judge_258 hZ j hj)
noncomputable def vX4_judge_218 (j : Nat → rx_K) : rx_K := o_ld rx_isR 0 (o_ld rx_isR 0 (o_getf 4 1 (o_getf 1 2 (o_ld rx_isI 3 (o_ald 4 (o_ld rx_isR 0 (o_getf 4 0 (o_ld rx_isR 0 (o_getf 4 1 (o_getf 1 2 (o_ld rx_isI 3 (o_ald 4 (o_getf 10 1 (o_callV 1 11 FX11_find (o_callV 2 4 FX4_above (o_inc 3 (1) ((j 3))))))))))))))))))
set_option maxRecDepth 20000 in
theorem wX4_judge_218 (hZ : zO b e D A X) (j : Nat → rx_K) (hj : ∀ k pc, [17, 58, 142, 200, 258, 329][k]? = some pc → rx_OK (zV b e D A X) mX4_judge 6 pc (j k)) : rx_OK (zV b e D A X) mX4_judge 6 218 (vX4_judge_218 j) := by
  unfold vX4_judge_218
  refine s_aload_n hZ.1 dX4_judge_218 rfl ?_
  refine s_aload_n hZ.1 dX4_judge_219 rfl ?_
  refine yg4_1 dX4_judge_220 zw639 ?_
  refine yg1_2 dX4_judge_223 zw1117 ?_
  refine s_iload_n hZ.1 dX4_judge_226 rfl ?_
  refine s_aald (tt := 4) rfl rfl dX4_judge_227 ?_
  refine s_aload_n hZ.1 dX4_judge_228 rfl ?_
  refine yg4_0 dX4_judge_229 zw638 ?_
  refine s_aload_n hZ.1 dX4_judge_232 rfl ?_
  refine yg4_1 dX4_judge_233 zw639 ?_
  refine yg1_2 dX4_judge_236 zw1117 ?_
  refine s_iload_n hZ.1 dX4_judge_239 rfl ?_
  refine s_aald (tt := 4) rfl rfl dX4_judge_240 ?_
  refine yg10_1 dX4_judge_241 zw772 ?_
  refine s_callV hZ.1 (Met_X11_find hZ) (Nat.le_of_ble_eq_true rfl) vy_X11_find zcl11 zw1574 zw1575 (Or.inl zw1901) dX4_judge_244 ?_
  refine s_callV hZ.1 (Met_X4_above hZ) (Nat.le_of_ble_eq_true rfl) vy_X4_above zcl4 zw1958 zw50 (Or.inl zw1956) dX4_judge_247 ?_
  refine s_iinc hZ.1 dX4_judge_250 (Nat.le_of_ble_eq_true rfl) ?_
  exact s_goto dX4_judge_253 (by decide) (hj 3 200 rfl)
noncomputable def vX4_judge_211 (j : Nat → rx_K) : rx_K := o_ld rx_isR 0 (o_getf 4 2 (o_c1 rx_eq (vX4_judge_218 j) (vX4_judge_256 j)))
set_option maxRecDepth 20000 in
theorem wX4_judge_211 (hZ : zO b e D A X) (j : Nat → rx_K) (hj : ∀ k pc, [17, 58, 142, 200, 258, 329][k]? = some pc → rx_OK (zV b e D A X) mX4_judge 6 pc (j k)) : rx_OK (zV b e D A X) mX4_judge 6 211 (vX4_judge_211 j) := by
  unfold vX4_judge_211
  refine s_aload_n hZ.1 dX4_judge_211 rfl ?_
  refine yg4_2 dX4_judge_212 zw640 ?_
  exact s_if_ne dX4_judge_215 (by decide) (wX4_judge_256 hZ j hj) (wX4_judge_218 hZ j hj)
noncomputable def vX4_judge_200 (j : Nat → rx_K) : rx_K := o_ld rx_isI 3 (o_ld rx_isR 0 (o_getf 4 1 (o_getf 1 3 (o_c2 rx_lt (vX4_judge_211 j) (vX4_judge_256 j)))))
set_option maxRecDepth 20000 in
theorem wX4_judge_200 (hZ : zO b e D A X) (j : Nat → rx_K) (hj : ∀ k pc, [17, 58, 142, 200, 258, 329][k]? = some pc → rx_OK (zV b e D A X) mX4_judge 6 pc (j k)) : rx_OK (zV b e D A X) mX4_judge 6 200 (vX4_judge_200 j) := by
  unfold vX4_judge_200
  refine s_iload_n hZ.1 dX4_judge_200 rfl ?_
  refine s_aload_n hZ.1 dX4_judge_201 rfl ?_
  refine yg4_1 dX4_judge_202 zw639 ?_
  refine yg1_3 dX4_judge_205 zw1123 ?_
  exact s_icmp_ge dX4_judge_208 (by decide) (wX4_judge_256 hZ j hj) (wX4_judge_211 hZ j hj)
noncomputable def vX4_judge_198 (j : Nat → rx_K) : rx_K := o_const 0 (o_st rx_isI 3 ((vX4_judge_200 j)))
set_option maxRecDepth 20000 in
theorem wX4_judge_198 (hZ : zO b e D A X) (j : Nat → rx_K) (hj : ∀ k pc, [17, 58, 142, 200, 258, 329][k]? = some pc → rx_OK (zV b e D A X) mX4_judge 6 pc (j k)) : rx_OK (zV b e D A X) mX4_judge 6 198 (vX4_judge_198 j) := by
  unfold vX4_judge_198
  refine s_iconst dX4_judge_198 (by decide +kernel) ?_
  refine s_istore_n hZ.1 dX4_judge_199 rfl (Nat.le_of_ble_eq_true rfl) ?_
  exact (wX4_judge_200 hZ j hj)
noncomputable def vX4_judge_160 (j : Nat → rx_K) : rx_K := o_ld rx_isR 0 (o_ld rx_isR 0 (o_getf 4 1 (o_getf 1 2 (o_ld rx_isI 3 (o_ald 4 (o_ld rx_isR 0 (o_getf 4 0 (o_ld rx_isR 0 (o_getf 4 1 (o_getf 1 2 (o_ld rx_isI 3 (o_ald 4 (o_getf 10 1 (o_callV 1 11 FX11_find (o_callV 2 4 FX4_items (o_inc 3 (1) ((j 2))))))))))))))))))
set_option maxRecDepth 20000 in
theorem wX4_judge_160 (hZ : zO b e D A X) (j : Nat → rx_K) (hj : ∀ k pc, [17, 58, 142, 200, 258, 329][k]? = some pc → rx_OK (zV b e D A X) mX4_judge 6 pc (j k)) : rx_OK (zV b e D A X) mX4_judge 6 160 (vX4_judge_160 j) := by
  unfold vX4_judge_160
  refine s_aload_n hZ.1 dX4_judge_160 rfl ?_
  refine s_aload_n hZ.1 dX4_judge_161 rfl ?_
  refine yg4_1 dX4_judge_162 zw639 ?_
  refine yg1_2 dX4_judge_165 zw1117 ?_
  refine s_iload_n hZ.1 dX4_judge_168 rfl ?_
  refine s_aald (tt := 4) rfl rfl dX4_judge_169 ?_
  refine s_aload_n hZ.1 dX4_judge_170 rfl ?_
  refine yg4_0 dX4_judge_171 zw638 ?_
  refine s_aload_n hZ.1 dX4_judge_174 rfl ?_
  refine yg4_1 dX4_judge_175 zw639 ?_
  refine yg1_2 dX4_judge_178 zw1117 ?_
  refine s_iload_n hZ.1 dX4_judge_181 rfl ?_
  refine s_aald (tt := 4) rfl rfl dX4_judge_182 ?_
  refine yg10_1 dX4_judge_183 zw772 ?_
  refine s_callV hZ.1 (Met_X11_find hZ) (Nat.le_of_ble_eq_true rfl) vy_X11_find zcl11 zw1574 zw1575 (Or.inl zw1901) dX4_judge_186 ?_
  refine s_callV hZ.1 (Met_X4_items hZ) (Nat.le_of_ble_eq_true rfl) vy_X4_items zcl4 zw1923 zw46 (Or.inl zw1921) dX4_judge_189 ?_
  refine s_iinc hZ.1 dX4_judge_192 (Nat.le_of_ble_eq_true rfl) ?_
  exact s_goto dX4_judge_195 (by decide) (hj 2 142 rfl)
noncomputable def vX4_judge_153 (j : Nat → rx_K) : rx_K := o_ld rx_isR 0 (o_getf 4 2 (o_c1 rx_eq (vX4_judge_160 j) (vX4_judge_198 j)))
set_option maxRecDepth 20000 in
theorem wX4_judge_153 (hZ : zO b e D A X) (j : Nat → rx_K) (hj : ∀ k pc, [17, 58, 142, 200, 258, 329][k]? = some pc → rx_OK (zV b e D A X) mX4_judge 6 pc (j k)) : rx_OK (zV b e D A X) mX4_judge 6 153 (vX4_judge_153 j) := by
  unfold vX4_judge_153
  refine s_aload_n hZ.1 dX4_judge_153 rfl ?_
  refine yg4_2 dX4_judge_154 zw640 ?_
  exact s_if_ne dX4_judge_157 (by decide) (wX4_judge_198 hZ j hj) (wX4_judge_160 hZ j hj)
noncomputable def vX4_judge_142 (j : Nat → rx_K) : rx_K := o_ld rx_isI 3 (o_ld rx_isR 0 (o_getf 4 1 (o_getf 1 3 (o_c2 rx_lt (vX4_judge_153 j) (vX4_judge_198 j)))))
set_option maxRecDepth 20000 in
theorem wX4_judge_142 (hZ : zO b e D A X) (j : Nat → rx_K) (hj : ∀ k pc, [17, 58, 142, 200, 258, 329][k]? = some pc → rx_OK (zV b e D A X) mX4_judge 6 pc (j k)) : rx_OK (zV b e D A X) mX4_judge 6 142 (vX4_judge_142 j) := by
  unfold vX4_judge_142
  refine s_iload_n hZ.1 dX4_judge_142 rfl ?_
  refine s_aload_n hZ.1 dX4_judge_143 rfl ?_
  refine yg4_1 dX4_judge_144 zw639 ?_
  refine yg1_3 dX4_judge_147 zw1123 ?_
  exact s_icmp_ge dX4_judge_150 (by decide) (wX4_judge_198 hZ j hj) (wX4_judge_153 hZ j hj)
noncomputable def vX4_judge_140 (j : Nat → rx_K) : rx_K := o_const 0 (o_st rx_isI 3 ((vX4_judge_142 j)))
set_option maxRecDepth 20000 in
theorem wX4_judge_140 (hZ : zO b e D A X) (j : Nat → rx_K) (hj : ∀ k pc, [17, 58, 142, 200, 258, 329][k]? = some pc → rx_OK (zV b e D A X) mX4_judge 6 pc (j k)) : rx_OK (zV b e D A X) mX4_judge 6 140 (vX4_judge_140 j) := by
  unfold vX4_judge_140
  refine s_iconst dX4_judge_140 (by decide +kernel) ?_
  refine s_istore_n hZ.1 dX4_judge_141 rfl (Nat.le_of_ble_eq_true rfl) ?_
  exact (wX4_judge_142 hZ j hj)
noncomputable def vX4_judge_134 (j : Nat → rx_K) : rx_K := o_inc 3 (1) ((j 1))
set_option maxRecDepth 20000 in
theorem wX4_judge_134 (hZ : zO b e D A X) (j : Nat → rx_K) (hj : ∀ k pc, [17, 58, 142, 200, 258, 329][k]? = some pc → rx_OK (zV b e D A X) mX4_judge 6 pc (j k)) : rx_OK (zV b e D A X) mX4_judge 6 134 (vX4_judge_134 j) := by
  unfold vX4_judge_134
  refine s_iinc hZ.1 dX4_judge_134 (Nat.le_of_ble_eq_true rfl) ?_
  exact s_goto dX4_judge_137 (by decide) (hj 1 58 rfl)
noncomputable def vX4_judge_116 (j : Nat → rx_K) : rx_K := o_ld rx_isR 0 (o_const 40 (o_ld rx_isR 0 (o_getf 4 1 (o_getf 1 2 (o_ld rx_isI 3 (o_ald 4 (o_getf 10 2 (o_callV 2 4 FX4_fail (o_pop ((vX4_judge_134 j)))))))))))
set_option maxRecDepth 20000 in
theorem wX4_judge_116 (hZ : zO b e D A X) (j : Nat → rx_K) (hj : ∀ k pc, [17, 58, 142, 200, 258, 329][k]? = some pc → rx_OK (zV b e D A X) mX4_judge 6 pc (j k)) : rx_OK (zV b e D A X) mX4_judge 6 116 (vX4_judge_116 j) := by
  unfold vX4_judge_116
  refine s_aload_n hZ.1 dX4_judge_116 rfl ?_
  refine s_iconst dX4_judge_117 (by decide +kernel) ?_
  refine s_aload_n hZ.1 dX4_judge_118 rfl ?_
  refine yg4_1 dX4_judge_119 zw639 ?_
  refine yg1_2 dX4_judge_122 zw1117 ?_
  refine s_iload_n hZ.1 dX4_judge_125 rfl ?_
  refine s_aald (tt := 4) rfl rfl dX4_judge_126 ?_
  refine yg10_2 dX4_judge_127 zw779 ?_
  refine s_callV hZ.1 (Met_X4_fail hZ) (Nat.le_of_ble_eq_true rfl) vy_X4_fail zcl4 zw1898 zw43 (Or.inl zw1896) dX4_judge_130 ?_
  refine s_pop hZ.1 dX4_judge_133 ?_
  exact (wX4_judge_134 hZ j hj)
noncomputable def vX4_judge_102 (j : Nat → rx_K) : rx_K := o_ld rx_isR 0 (o_getf 4 0 (o_ld rx_isI 4 (o_ld rx_isI 4 (o_callV 2 11 FX11_heir (o_c1 rx_eq (vX4_judge_134 j) (vX4_judge_116 j))))))
set_option maxRecDepth 20000 in
theorem wX4_judge_102 (hZ : zO b e D A X) (j : Nat → rx_K) (hj : ∀ k pc, [17, 58, 142, 200, 258, 329][k]? = some pc → rx_OK (zV b e D A X) mX4_judge 6 pc (j k)) : rx_OK (zV b e D A X) mX4_judge 6 102 (vX4_judge_102 j) := by
  unfold vX4_judge_102
  refine s_aload_n hZ.1 dX4_judge_102 rfl ?_
  refine yg4_0 dX4_judge_103 zw638 ?_
  refine s_iload hZ.1 dX4_judge_106 ?_
  refine s_iload hZ.1 dX4_judge_108 ?_
  refine s_callV hZ.1 (Met_X11_heir hZ) (Nat.le_of_ble_eq_true rfl) vy_X11_heir zcl11 zw1918 zw1919 (Or.inl zw1917) dX4_judge_110 ?_
  exact s_if_eq dX4_judge_113 (by decide) (wX4_judge_134 hZ j hj) (wX4_judge_116 hZ j hj)
noncomputable def vX4_judge_76 (j : Nat → rx_K) : rx_K := o_ld rx_isR 0 (o_getf 4 0 (o_ld rx_isR 0 (o_getf 4 1 (o_getf 1 2 (o_ld rx_isI 3 (o_ald 4 (o_getf 10 1 (o_callV 1 11 FX11_find (o_st rx_isI 4 (o_ld rx_isI 4 (o_c1 rx_lt (vX4_judge_134 j) (vX4_judge_102 j))))))))))))
set_option maxRecDepth 20000 in
theorem wX4_judge_76 (hZ : zO b e D A X) (j : Nat → rx_K) (hj : ∀ k pc, [17, 58, 142, 200, 258, 329][k]? = some pc → rx_OK (zV b e D A X) mX4_judge 6 pc (j k)) : rx_OK (zV b e D A X) mX4_judge 6 76 (vX4_judge_76 j) := by
  unfold vX4_judge_76
  refine s_aload_n hZ.1 dX4_judge_76 rfl ?_
  refine yg4_0 dX4_judge_77 zw638 ?_
  refine s_aload_n hZ.1 dX4_judge_80 rfl ?_
  refine yg4_1 dX4_judge_81 zw639 ?_
  refine yg1_2 dX4_judge_84 zw1117 ?_
  refine s_iload_n hZ.1 dX4_judge_87 rfl ?_
  refine s_aald (tt := 4) rfl rfl dX4_judge_88 ?_
  refine yg10_1 dX4_judge_89 zw772 ?_
  refine s_callV hZ.1 (Met_X11_find hZ) (Nat.le_of_ble_eq_true rfl) vy_X11_find zcl11 zw1574 zw1575 (Or.inl zw1901) dX4_judge_92 ?_
  refine s_istore hZ.1 dX4_judge_95 (Nat.le_of_ble_eq_true rfl) ?_
  refine s_iload hZ.1 dX4_judge_97 ?_
  exact s_if_lt dX4_judge_99 (by decide) (wX4_judge_134 hZ j hj) (wX4_judge_102 hZ j hj)
noncomputable def vX4_judge_69 (j : Nat → rx_K) : rx_K := o_ld rx_isR 0 (o_getf 4 2 (o_c1 rx_eq (vX4_judge_76 j) (vX4_judge_140 j)))
set_option maxRecDepth 20000 in
theorem wX4_judge_69 (hZ : zO b e D A X) (j : Nat → rx_K) (hj : ∀ k pc, [17, 58, 142, 200, 258, 329][k]? = some pc → rx_OK (zV b e D A X) mX4_judge 6 pc (j k)) : rx_OK (zV b e D A X) mX4_judge 6 69 (vX4_judge_69 j) := by
  unfold vX4_judge_69
  refine s_aload_n hZ.1 dX4_judge_69 rfl ?_
  refine yg4_2 dX4_judge_70 zw640 ?_
  exact s_if_ne dX4_judge_73 (by decide) (wX4_judge_140 hZ j hj) (wX4_judge_76 hZ j hj)
noncomputable def vX4_judge_58 (j : Nat → rx_K) : rx_K := o_ld rx_isI 3 (o_ld rx_isR 0 (o_getf 4 1 (o_getf 1 3 (o_c2 rx_lt (vX4_judge_69 j) (vX4_judge_140 j)))))
set_option maxRecDepth 20000 in
theorem wX4_judge_58 (hZ : zO b e D A X) (j : Nat → rx_K) (hj : ∀ k pc, [17, 58, 142, 200, 258, 329][k]? = some pc → rx_OK (zV b e D A X) mX4_judge 6 pc (j k)) : rx_OK (zV b e D A X) mX4_judge 6 58 (vX4_judge_58 j) := by
  unfold vX4_judge_58
  refine s_iload_n hZ.1 dX4_judge_58 rfl ?_
  refine s_aload_n hZ.1 dX4_judge_59 rfl ?_
  refine yg4_1 dX4_judge_60 zw639 ?_
  refine yg1_3 dX4_judge_63 zw1123 ?_
  exact s_icmp_ge dX4_judge_66 (by decide) (wX4_judge_140 hZ j hj) (wX4_judge_69 hZ j hj)
noncomputable def vX4_judge_56 (j : Nat → rx_K) : rx_K := o_const 0 (o_st rx_isI 3 ((vX4_judge_58 j)))
set_option maxRecDepth 20000 in
theorem wX4_judge_56 (hZ : zO b e D A X) (j : Nat → rx_K) (hj : ∀ k pc, [17, 58, 142, 200, 258, 329][k]? = some pc → rx_OK (zV b e D A X) mX4_judge 6 pc (j k)) : rx_OK (zV b e D A X) mX4_judge 6 56 (vX4_judge_56 j) := by
  unfold vX4_judge_56
  refine s_iconst dX4_judge_56 (by decide +kernel) ?_
  refine s_istore_n hZ.1 dX4_judge_57 rfl (Nat.le_of_ble_eq_true rfl) ?_
  exact (wX4_judge_58 hZ j hj)
noncomputable def vX4_judge_35 (j : Nat → rx_K) : rx_K := o_ld rx_isR 0 (o_ld rx_isR 0 (o_getf 4 1 (o_getf 1 2 (o_ld rx_isI 3 (o_ald 4 (o_ld rx_isI 3 (o_callV 2 4 FX4_head (o_pop (o_inc 3 (1) ((j 0)))))))))))
set_option maxRecDepth 20000 in
theorem wX4_judge_35 (hZ : zO b e D A X) (j : Nat → rx_K) (hj : ∀ k pc, [17, 58, 142, 200, 258, 329][k]? = some pc → rx_OK (zV b e D A X) mX4_judge 6 pc (j k)) : rx_OK (zV b e D A X) mX4_judge 6 35 (vX4_judge_35 j) := by
  unfold vX4_judge_35
  refine s_aload_n hZ.1 dX4_judge_35 rfl ?_
  refine s_aload_n hZ.1 dX4_judge_36 rfl ?_
  refine yg4_1 dX4_judge_37 zw639 ?_
  refine yg1_2 dX4_judge_40 zw1117 ?_
  refine s_iload_n hZ.1 dX4_judge_43 rfl ?_
  refine s_aald (tt := 4) rfl rfl dX4_judge_44 ?_
  refine s_iload_n hZ.1 dX4_judge_45 rfl ?_
  refine s_callV hZ.1 (Met_X4_head hZ) (Nat.le_of_ble_eq_true rfl) vy_X4_head zcl4 zw1894 zw42 (Or.inl zw1892) dX4_judge_46 ?_
  refine s_pop hZ.1 dX4_judge_49 ?_
  refine s_iinc hZ.1 dX4_judge_50 (Nat.le_of_ble_eq_true rfl) ?_
  exact s_goto dX4_judge_53 (by decide) (hj 0 17 rfl)
noncomputable def vX4_judge_28 (j : Nat → rx_K) : rx_K := o_ld rx_isR 0 (o_getf 4 2 (o_c1 rx_eq (vX4_judge_35 j) (vX4_judge_56 j)))
set_option maxRecDepth 20000 in
theorem wX4_judge_28 (hZ : zO b e D A X) (j : Nat → rx_K) (hj : ∀ k pc, [17, 58, 142, 200, 258, 329][k]? = some pc → rx_OK (zV b e D A X) mX4_judge 6 pc (j k)) : rx_OK (zV b e D A X) mX4_judge 6 28 (vX4_judge_28 j) := by
  unfold vX4_judge_28
  refine s_aload_n hZ.1 dX4_judge_28 rfl ?_
  refine yg4_2 dX4_judge_29 zw640 ?_
  exact s_if_ne dX4_judge_32 (by decide) (wX4_judge_56 hZ j hj) (wX4_judge_35 hZ j hj)
noncomputable def vX4_judge_17 (j : Nat → rx_K) : rx_K := o_ld rx_isI 3 (o_ld rx_isR 0 (o_getf 4 1 (o_getf 1 3 (o_c2 rx_lt (vX4_judge_28 j) (vX4_judge_56 j)))))
set_option maxRecDepth 20000 in
theorem wX4_judge_17 (hZ : zO b e D A X) (j : Nat → rx_K) (hj : ∀ k pc, [17, 58, 142, 200, 258, 329][k]? = some pc → rx_OK (zV b e D A X) mX4_judge 6 pc (j k)) : rx_OK (zV b e D A X) mX4_judge 6 17 (vX4_judge_17 j) := by
  unfold vX4_judge_17
  refine s_iload_n hZ.1 dX4_judge_17 rfl ?_
  refine s_aload_n hZ.1 dX4_judge_18 rfl ?_
  refine yg4_1 dX4_judge_19 zw639 ?_
  refine yg1_3 dX4_judge_22 zw1123 ?_
  exact s_icmp_ge dX4_judge_25 (by decide) (wX4_judge_56 hZ j hj) (wX4_judge_28 hZ j hj)
noncomputable def vX4_judge_0 (j : Nat → rx_K) : rx_K := o_ld rx_isR 0 (o_ld rx_isR 1 (o_putf rx_isR 4 0 (o_ld rx_isR 0 (o_ld rx_isR 2 (o_putf rx_isR 4 1 (o_ld rx_isR 0 (o_const 0 (o_putf rx_isI 4 2 (o_const 0 (o_st rx_isI 3 ((vX4_judge_17 j))))))))))))
set_option maxRecDepth 20000 in
theorem wX4_judge_0 (hZ : zO b e D A X) (j : Nat → rx_K) (hj : ∀ k pc, [17, 58, 142, 200, 258, 329][k]? = some pc → rx_OK (zV b e D A X) mX4_judge 6 pc (j k)) : rx_OK (zV b e D A X) mX4_judge 6 0 (vX4_judge_0 j) := by
  unfold vX4_judge_0
  refine s_aload_n hZ.1 dX4_judge_0 rfl ?_
  refine s_aload_n hZ.1 dX4_judge_1 rfl ?_
  refine yp4_0 hZ.1 dX4_judge_2 zw638 ?_
  refine s_aload_n hZ.1 dX4_judge_5 rfl ?_
  refine s_aload_n hZ.1 dX4_judge_6 rfl ?_
  refine yp4_1 hZ.1 dX4_judge_7 zw639 ?_
  refine s_aload_n hZ.1 dX4_judge_10 rfl ?_
  refine s_iconst dX4_judge_11 (by decide +kernel) ?_
  refine yp4_2 hZ.1 dX4_judge_12 zw640 ?_
  refine s_iconst dX4_judge_15 (by decide +kernel) ?_
  refine s_istore_n hZ.1 dX4_judge_16 rfl (Nat.le_of_ble_eq_true rfl) ?_
  exact (wX4_judge_17 hZ j hj)
noncomputable def vhX4_judge (j : Nat → rx_K) : List rx_K := [vX4_judge_17 j, vX4_judge_58 j, vX4_judge_142 j, vX4_judge_200 j, vX4_judge_258 j, vX4_judge_329 j]
theorem vlX4_judge (hZ : zO b e D A X) : ∀ n k pc, [17, 58, 142, 200, 258, 329][k]? = some pc → rx_OK (zV b e D A X) mX4_judge 6 pc (rx_J (vhX4_judge) n k) := rx_loop fun j hj k pc h => by
  match k, h with
  | 0, h =>
    have e9 := Option.some.inj (show some 17 = some pc from h)
    subst e9
    exact wX4_judge_17 hZ j hj
  | 1, h =>
    have e9 := Option.some.inj (show some 58 = some pc from h)
    subst e9
    exact wX4_judge_58 hZ j hj
  | 2, h =>
    have e9 := Option.some.inj (show some 142 = some pc from h)
    subst e9
    exact wX4_judge_142 hZ j hj
  | 3, h =>
    have e9 := Option.some.inj (show some 200 = some pc from h)
    subst e9
    exact wX4_judge_200 hZ j hj
  | 4, h =>
    have e9 := Option.some.inj (show some 258 = some pc from h)
    subst e9
    exact wX4_judge_258 hZ j hj
  | 5, h =>
    have e9 := Option.some.inj (show some 329 = some pc from h)
    subst e9
    exact wX4_judge_329 hZ j hj
  | _ + 6, h => exact absurd h (by simp)
noncomputable def FX4_judge : List Nat → rx_H → Option (Nat × rx_H) := rx_ent 5 (vX4_judge_0 (rx_J (vhX4_judge) 4000000000))
theorem Met_X4_judge (hZ : zO b e D A X) : rx_Met (zV b e D A X) 6 yX4_judge mX4_judge (FX4_judge) := rx_entry hZ.1 (wX4_judge_0 hZ _ (vlX4_judge hZ 4000000000)) (by decide +kernel) rfl (fun h => by cases h)
abbrev mX5_init : rx_M := (RX5, cX5_init, 2, none, true)
theorem vy_X5_init : rx_Y (zV b e D A X) yX5_init mX5_init 1 := ⟨zw1347, zw428, by decide, by decide +kernel, by decide +kernel, by decide +kernel⟩
noncomputable def vX5_init_95 : rx_K := o_newa 5 3 (o_putf rx_isR 5 19 (o_ret0))
set_option maxRecDepth 20000 in
theorem wX5_init_95 (hZ : zO b e D A X) : rx_OK (zV b e D A X) mX5_init 1 95 vX5_init_95 := by
  unfold vX5_init_95
  refine s_anewa (tt := 5) rfl zw1349 (zo_W5 hZ) dX5_init_95 ?_
  refine yp5_19 hZ.1 rfl rfl dX5_init_98 zw1381 ?_
  exact s_vret rfl dX5_init_101
noncomputable def vX5_init_48 : rx_K := o_newa 0 0 (o_putf rx_isR 5 8 (o_ld rx_isR 0 (o_const 528 (o_newa 0 0 (o_putf rx_isR 5 9 (o_ld rx_isR 0 (o_const 528 (o_newa 0 0 (o_putf rx_isR 5 10 (o_ld rx_isR 0 (o_const 1040 (o_newa 0 0 (o_putf rx_isR 5 15 (o_ld rx_isR 0 (o_const 520 (o_newa 0 0 (o_putf rx_isR 5 17 (o_ld rx_isR 0 (o_ld rx_isI 1 (o_newa 0 0 (o_putf rx_isR 5 18 (o_ld rx_isR 0 (o_ld rx_isI 1 (vX5_init_95))))))))))))))))))))))))
set_option maxRecDepth 20000 in
theorem wX5_init_48 (hZ : zO b e D A X) : rx_OK (zV b e D A X) mX5_init 1 48 vX5_init_48 := by
  unfold vX5_init_48
  refine s_newa (tt := 0) (ty := .int) rfl rfl rfl rfl rfl (by decide) zw527 dX5_init_48 ?_
  refine yp5_8 hZ.1 rfl rfl dX5_init_50 zw1363 ?_
  refine s_aload_n hZ.1 dX5_init_53 rfl ?_
  refine s_bipush dX5_init_54 (by decide +kernel) ?_
  refine s_newa (tt := 0) (ty := .int) rfl rfl rfl rfl rfl (by decide) zw527 dX5_init_56 ?_
  refine yp5_9 hZ.1 rfl rfl dX5_init_58 zw1364 ?_
  refine s_aload_n hZ.1 dX5_init_61 rfl ?_
  refine s_bipush dX5_init_62 (by decide +kernel) ?_
  refine s_newa (tt := 0) (ty := .int) rfl rfl rfl rfl rfl (by decide) zw527 dX5_init_64 ?_
  refine yp5_10 hZ.1 rfl rfl dX5_init_66 zw1365 ?_
  refine s_aload_n hZ.1 dX5_init_69 rfl ?_
  refine s_sipush dX5_init_70 (by decide +kernel) ?_
  refine s_newa (tt := 0) (ty := .int) rfl rfl rfl rfl rfl (by decide) zw527 dX5_init_73 ?_
  refine yp5_15 hZ.1 rfl rfl dX5_init_75 zw1375 ?_
  refine s_aload_n hZ.1 dX5_init_78 rfl ?_
  refine s_bipush dX5_init_79 (by decide +kernel) ?_
  refine s_newa (tt := 0) (ty := .int) rfl rfl rfl rfl rfl (by decide) zw527 dX5_init_81 ?_
  refine yp5_17 hZ.1 rfl rfl dX5_init_83 zw1379 ?_
  refine s_aload_n hZ.1 dX5_init_86 rfl ?_
  refine s_iload_n hZ.1 dX5_init_87 rfl ?_
  refine s_newa (tt := 0) (ty := .int) rfl rfl rfl rfl rfl (by decide) zw527 dX5_init_88 ?_
  refine yp5_18 hZ.1 rfl rfl dX5_init_90 zw1380 ?_
  refine s_aload_n hZ.1 dX5_init_93 rfl ?_
  refine s_iload_n hZ.1 dX5_init_94 rfl ?_
  exact (wX5_init_95 hZ)
noncomputable def vX5_init_0 : rx_K := o_ld rx_isR 0 (o_obj (o_ld rx_isR 0 (o_const 512 (o_newa 0 0 (o_putf rx_isR 5 1 (o_ld rx_isR 0 (o_const 512 (o_newa 0 0 (o_putf rx_isR 5 2 (o_ld rx_isR 0 (o_const 2560 (o_newa 0 0 (o_putf rx_isR 5 3 (o_ld rx_isR 0 (o_const 512 (o_newa 0 0 (o_putf rx_isR 5 5 (o_ld rx_isR 0 (o_const 528 (o_newa 0 0 (o_putf rx_isR 5 7 (o_ld rx_isR 0 (o_const 528 (vX5_init_48))))))))))))))))))))))))
set_option maxRecDepth 20000 in
theorem wX5_init_0 (hZ : zO b e D A X) : rx_OK (zV b e D A X) mX5_init 1 0 vX5_init_0 := by
  unfold vX5_init_0
  refine s_aload_n hZ.1 dX5_init_0 rfl ?_
  refine s_obj hZ.1 (Nat.le_of_ble_eq_true rfl) zw1348 zw440 zw441 dX5_init_1 ?_
  refine s_aload_n hZ.1 dX5_init_4 rfl ?_
  refine s_bipush dX5_init_5 (by decide +kernel) ?_
  refine s_newa (tt := 0) (ty := .int) rfl rfl rfl rfl rfl (by decide) zw527 dX5_init_7 ?_
  refine yp5_1 hZ.1 rfl rfl dX5_init_9 zw1351 ?_
  refine s_aload_n hZ.1 dX5_init_12 rfl ?_
  refine s_bipush dX5_init_13 (by decide +kernel) ?_
  refine s_newa (tt := 0) (ty := .int) rfl rfl rfl rfl rfl (by decide) zw527 dX5_init_15 ?_
  refine yp5_2 hZ.1 rfl rfl dX5_init_17 zw1354 ?_
  refine s_aload_n hZ.1 dX5_init_20 rfl ?_
  refine s_sipush dX5_init_21 (by decide +kernel) ?_
  refine s_newa (tt := 0) (ty := .int) rfl rfl rfl rfl rfl (by decide) zw527 dX5_init_24 ?_
  refine yp5_3 hZ.1 rfl rfl dX5_init_26 zw1355 ?_
  refine s_aload_n hZ.1 dX5_init_29 rfl ?_
  refine s_bipush dX5_init_30 (by decide +kernel) ?_
  refine s_newa (tt := 0) (ty := .int) rfl rfl rfl rfl rfl (by decide) zw527 dX5_init_32 ?_
  refine yp5_5 hZ.1 rfl rfl dX5_init_34 zw1359 ?_
  refine s_aload_n hZ.1 dX5_init_37 rfl ?_
  refine s_bipush dX5_init_38 (by decide +kernel) ?_
  refine s_newa (tt := 0) (ty := .int) rfl rfl rfl rfl rfl (by decide) zw527 dX5_init_40 ?_
  refine yp5_7 hZ.1 rfl rfl dX5_init_42 zw1362 ?_
  refine s_aload_n hZ.1 dX5_init_45 rfl ?_
  refine s_bipush dX5_init_46 (by decide +kernel) ?_
  exact (wX5_init_48 hZ)
noncomputable def FX5_init : List Nat → rx_H → Option (Nat × rx_H) := rx_ent 2 vX5_init_0
theorem Met_X5_init (hZ : zO b e D A X) : rx_Met (zV b e D A X) 1 yX5_init mX5_init (FX5_init) := rx_entry hZ.1 (wX5_init_0 hZ) (by decide +kernel) rfl (fun _ => rfl)
abbrev mX5_clear : rx_M := (RX5, cX5_clear, 4, none, false)
theorem vy_X5_clear : rx_Y (zV b e D A X) yX5_clear mX5_clear 1 := ⟨zw1600, zw428, by decide, by decide +kernel, by decide +kernel, by decide +kernel⟩
noncomputable def vX5_clear_117 (j : Nat → rx_K) : rx_K := o_ret0
set_option maxRecDepth 20000 in
theorem wX5_clear_117 (hZ : zO b e D A X) (j : Nat → rx_K) (hj : ∀ k pc, [41, 90][k]? = some pc → rx_OK (zV b e D A X) mX5_clear 1 pc (j k)) : rx_OK (zV b e D A X) mX5_clear 1 117 (vX5_clear_117 j) := by
  unfold vX5_clear_117
  exact s_vret rfl dX5_clear_117
noncomputable def vX5_clear_104 (j : Nat → rx_K) : rx_K := o_ld rx_isR 0 (o_getf 5 18 (o_ld rx_isI 3 (o_const 0 (o_ast 0 (fun v => v) rx_isI (o_inc 3 (1) ((j 1)))))))
set_option maxRecDepth 20000 in
theorem wX5_clear_104 (hZ : zO b e D A X) (j : Nat → rx_K) (hj : ∀ k pc, [41, 90][k]? = some pc → rx_OK (zV b e D A X) mX5_clear 1 pc (j k)) : rx_OK (zV b e D A X) mX5_clear 1 104 (vX5_clear_104 j) := by
  unfold vX5_clear_104
  refine s_aload_n hZ.1 dX5_clear_104 rfl ?_
  refine yg5_18 dX5_clear_105 zw1380 ?_
  refine s_iload_n hZ.1 dX5_clear_108 rfl ?_
  refine s_iconst dX5_clear_109 (by decide +kernel) ?_
  refine s_iast hZ.1 (tt := 0) rfl dX5_clear_110 ?_
  refine s_iinc hZ.1 dX5_clear_111 (Nat.le_of_ble_eq_true rfl) ?_
  exact s_goto dX5_clear_114 (by decide) (hj 1 90 rfl)
noncomputable def vX5_clear_95 (j : Nat → rx_K) : rx_K := o_ld rx_isI 3 (o_ld rx_isR 0 (o_getf 5 18 (o_alen 0 (o_c2 rx_lt (vX5_clear_104 j) (vX5_clear_117 j)))))
set_option maxRecDepth 20000 in
theorem wX5_clear_95 (hZ : zO b e D A X) (j : Nat → rx_K) (hj : ∀ k pc, [41, 90][k]? = some pc → rx_OK (zV b e D A X) mX5_clear 1 pc (j k)) : rx_OK (zV b e D A X) mX5_clear 1 95 (vX5_clear_95 j) := by
  unfold vX5_clear_95
  refine s_iload_n hZ.1 dX5_clear_95 rfl ?_
  refine s_aload_n hZ.1 dX5_clear_96 rfl ?_
  refine yg5_18 dX5_clear_97 zw1380 ?_
  refine s_alen (tt := 0) rfl dX5_clear_100 ?_
  exact s_icmp_ge dX5_clear_101 (by decide) (wX5_clear_117 hZ j hj) (wX5_clear_104 hZ j hj)
noncomputable def vX5_clear_90 (j : Nat → rx_K) : rx_K := o_ld rx_isI 3 (o_ld rx_isI 2 (o_c2 rx_lt (vX5_clear_95 j) (vX5_clear_117 j)))
set_option maxRecDepth 20000 in
theorem wX5_clear_90 (hZ : zO b e D A X) (j : Nat → rx_K) (hj : ∀ k pc, [41, 90][k]? = some pc → rx_OK (zV b e D A X) mX5_clear 1 pc (j k)) : rx_OK (zV b e D A X) mX5_clear 1 90 (vX5_clear_90 j) := by
  unfold vX5_clear_90
  refine s_iload_n hZ.1 dX5_clear_90 rfl ?_
  refine s_iload_n hZ.1 dX5_clear_91 rfl ?_
  exact s_icmp_ge dX5_clear_92 (by decide) (wX5_clear_117 hZ j hj) (wX5_clear_95 hZ j hj)
noncomputable def vX5_clear_88 (j : Nat → rx_K) : rx_K := o_const 0 (o_st rx_isI 3 ((vX5_clear_90 j)))
set_option maxRecDepth 20000 in
theorem wX5_clear_88 (hZ : zO b e D A X) (j : Nat → rx_K) (hj : ∀ k pc, [41, 90][k]? = some pc → rx_OK (zV b e D A X) mX5_clear 1 pc (j k)) : rx_OK (zV b e D A X) mX5_clear 1 88 (vX5_clear_88 j) := by
  unfold vX5_clear_88
  refine s_iconst dX5_clear_88 (by decide +kernel) ?_
  refine s_istore_n hZ.1 dX5_clear_89 rfl (Nat.le_of_ble_eq_true rfl) ?_
  exact (wX5_clear_90 hZ j hj)
noncomputable def vX5_clear_60 (j : Nat → rx_K) : rx_K := o_ld rx_isR 0 (o_getf 5 17 (o_ld rx_isI 3 (o_ld rx_isI 2 (o_ast 0 (fun v => v) rx_isI (o_ld rx_isI 2 (o_ld rx_isR 0 (o_getf 5 0 (o_getf 11 1 (o_ld rx_isI 3 (o_ald 4 (o_getf 10 17 (o_bi (fun x y => x + y) (o_st rx_isI 2 (o_inc 3 (1) ((j 0))))))))))))))))
set_option maxRecDepth 20000 in
theorem wX5_clear_60 (hZ : zO b e D A X) (j : Nat → rx_K) (hj : ∀ k pc, [41, 90][k]? = some pc → rx_OK (zV b e D A X) mX5_clear 1 pc (j k)) : rx_OK (zV b e D A X) mX5_clear 1 60 (vX5_clear_60 j) := by
  unfold vX5_clear_60
  refine s_aload_n hZ.1 dX5_clear_60 rfl ?_
  refine yg5_17 dX5_clear_61 zw1379 ?_
  refine s_iload_n hZ.1 dX5_clear_64 rfl ?_
  refine s_iload_n hZ.1 dX5_clear_65 rfl ?_
  refine s_iast hZ.1 (tt := 0) rfl dX5_clear_66 ?_
  refine s_iload_n hZ.1 dX5_clear_67 rfl ?_
  refine s_aload_n hZ.1 dX5_clear_68 rfl ?_
  refine yg5_0 dX5_clear_69 zw1350 ?_
  refine yg11_1 dX5_clear_72 zw1253 ?_
  refine s_iload_n hZ.1 dX5_clear_75 rfl ?_
  refine s_aald (tt := 4) rfl rfl dX5_clear_76 ?_
  refine yg10_17 dX5_clear_77 zw879 ?_
  refine s_iadd dX5_clear_80 ?_
  refine s_istore_n hZ.1 dX5_clear_81 rfl (Nat.le_of_ble_eq_true rfl) ?_
  refine s_iinc hZ.1 dX5_clear_82 (Nat.le_of_ble_eq_true rfl) ?_
  exact s_goto dX5_clear_85 (by decide) (hj 0 41 rfl)
noncomputable def vX5_clear_52 (j : Nat → rx_K) : rx_K := o_ld rx_isR 0 (o_getf 5 18 (o_alen 0 (o_c1 (fun h x y => rx_lt h y x) (vX5_clear_60 j) (vX5_clear_88 j))))
set_option maxRecDepth 20000 in
theorem wX5_clear_52 (hZ : zO b e D A X) (j : Nat → rx_K) (hj : ∀ k pc, [41, 90][k]? = some pc → rx_OK (zV b e D A X) mX5_clear 1 pc (j k)) : rx_OK (zV b e D A X) mX5_clear 1 52 (vX5_clear_52 j) := by
  unfold vX5_clear_52
  refine s_aload_n hZ.1 dX5_clear_52 rfl ?_
  refine yg5_18 dX5_clear_53 zw1380 ?_
  refine s_alen (tt := 0) rfl dX5_clear_56 ?_
  exact s_if_le dX5_clear_57 (by decide) (wX5_clear_88 hZ j hj) (wX5_clear_60 hZ j hj)
noncomputable def vX5_clear_41 (j : Nat → rx_K) : rx_K := o_ld rx_isI 3 (o_ld rx_isR 0 (o_getf 5 0 (o_getf 11 2 (o_c2 rx_lt (vX5_clear_52 j) (vX5_clear_88 j)))))
set_option maxRecDepth 20000 in
theorem wX5_clear_41 (hZ : zO b e D A X) (j : Nat → rx_K) (hj : ∀ k pc, [41, 90][k]? = some pc → rx_OK (zV b e D A X) mX5_clear 1 pc (j k)) : rx_OK (zV b e D A X) mX5_clear 1 41 (vX5_clear_41 j) := by
  unfold vX5_clear_41
  refine s_iload_n hZ.1 dX5_clear_41 rfl ?_
  refine s_aload_n hZ.1 dX5_clear_42 rfl ?_
  refine yg5_0 dX5_clear_43 zw1350 ?_
  refine yg11_2 dX5_clear_46 zw1259 ?_
  exact s_icmp_ge dX5_clear_49 (by decide) (wX5_clear_88 hZ j hj) (wX5_clear_52 hZ j hj)
noncomputable def vX5_clear_38 (j : Nat → rx_K) : rx_K := o_st rx_isI 2 (o_const 0 (o_st rx_isI 3 ((vX5_clear_41 j))))
set_option maxRecDepth 20000 in
theorem wX5_clear_38 (hZ : zO b e D A X) (j : Nat → rx_K) (hj : ∀ k pc, [41, 90][k]? = some pc → rx_OK (zV b e D A X) mX5_clear 1 pc (j k)) : rx_OK (zV b e D A X) mX5_clear 1 38 (vX5_clear_38 j) := by
  unfold vX5_clear_38
  refine s_istore_n hZ.1 dX5_clear_38 rfl (Nat.le_of_ble_eq_true rfl) ?_
  refine s_iconst dX5_clear_39 (by decide +kernel) ?_
  refine s_istore_n hZ.1 dX5_clear_40 rfl (Nat.le_of_ble_eq_true rfl) ?_
  exact (wX5_clear_41 hZ j hj)
noncomputable def vX5_clear_0 (j : Nat → rx_K) : rx_K := o_ld rx_isR 0 (o_ld rx_isR 1 (o_putf rx_isR 5 0 (o_ld rx_isR 0 (o_getf 5 1 (o_const 0 (o_callS 2 FJ7_fill_53178 (o_ld rx_isR 0 (o_getf 5 1 (o_const 0 (o_const 32 (o_ast 0 (fun v => v) rx_isI (o_ld rx_isR 0 (o_getf 5 1 (o_const 8 (o_const 32 (o_ast 0 (fun v => v) rx_isI (o_ld rx_isR 0 (o_const 0 (o_putf rx_isI 5 4 (o_ld rx_isR 0 (o_const 0 (o_putf rx_isI 5 6 (o_const 0 ((vX5_clear_38 j)))))))))))))))))))))))))
set_option maxRecDepth 20000 in
theorem wX5_clear_0 (hZ : zO b e D A X) (j : Nat → rx_K) (hj : ∀ k pc, [41, 90][k]? = some pc → rx_OK (zV b e D A X) mX5_clear 1 pc (j k)) : rx_OK (zV b e D A X) mX5_clear 1 0 (vX5_clear_0 j) := by
  unfold vX5_clear_0
  refine s_aload_n hZ.1 dX5_clear_0 rfl ?_
  refine s_aload_n hZ.1 dX5_clear_1 rfl ?_
  refine yp5_0 hZ.1 dX5_clear_2 zw1350 ?_
  refine s_aload_n hZ.1 dX5_clear_5 rfl ?_
  refine yg5_1 dX5_clear_6 zw1351 ?_
  refine s_iconst dX5_clear_9 (by decide +kernel) ?_
  refine s_callS hZ.1 (Met_J7_fill_53178 hZ) (Nat.le_of_ble_eq_true rfl) vy_J7_fill_53178 zw1223 (Or.inl zw1601) dX5_clear_10 ?_
  refine s_aload_n hZ.1 dX5_clear_13 rfl ?_
  refine yg5_1 dX5_clear_14 zw1351 ?_
  refine s_iconst dX5_clear_17 (by decide +kernel) ?_
  refine s_iconst dX5_clear_18 (by decide +kernel) ?_
  refine s_iast hZ.1 (tt := 0) rfl dX5_clear_19 ?_
  refine s_aload_n hZ.1 dX5_clear_20 rfl ?_
  refine yg5_1 dX5_clear_21 zw1351 ?_
  refine s_iconst dX5_clear_24 (by decide +kernel) ?_
  refine s_iconst dX5_clear_25 (by decide +kernel) ?_
  refine s_iast hZ.1 (tt := 0) rfl dX5_clear_26 ?_
  refine s_aload_n hZ.1 dX5_clear_27 rfl ?_
  refine s_iconst dX5_clear_28 (by decide +kernel) ?_
  refine yp5_4 hZ.1 dX5_clear_29 zw1357 ?_
  refine s_aload_n hZ.1 dX5_clear_32 rfl ?_
  refine s_iconst dX5_clear_33 (by decide +kernel) ?_
  refine yp5_6 hZ.1 dX5_clear_34 zw1360 ?_
  refine s_iconst dX5_clear_37 (by decide +kernel) ?_
  exact (wX5_clear_38 hZ j hj)
noncomputable def vhX5_clear (j : Nat → rx_K) : List rx_K := [vX5_clear_41 j, vX5_clear_90 j]
theorem vlX5_clear (hZ : zO b e D A X) : ∀ n k pc, [41, 90][k]? = some pc → rx_OK (zV b e D A X) mX5_clear 1 pc (rx_J (vhX5_clear) n k) := rx_loop fun j hj k pc h => by
  match k, h with
  | 0, h =>
    have e9 := Option.some.inj (show some 41 = some pc from h)
    subst e9
    exact wX5_clear_41 hZ j hj
  | 1, h =>
    have e9 := Option.some.inj (show some 90 = some pc from h)
    subst e9
    exact wX5_clear_90 hZ j hj
  | _ + 2, h => exact absurd h (by simp)
noncomputable def FX5_clear : List Nat → rx_H → Option (Nat × rx_H) := rx_ent 4 (vX5_clear_0 (rx_J (vhX5_clear) 4000000000))
theorem Met_X5_clear (hZ : zO b e D A X) : rx_Met (zV b e D A X) 1 yX5_clear mX5_clear (FX5_clear) := rx_entry hZ.1 (wX5_clear_0 hZ _ (vlX5_clear hZ 4000000000)) (by decide +kernel) rfl (fun h => by cases h)
abbrev mX5_recalls : rx_M := (RX5, cX5_recalls, 4, (some .boolean), false)
theorem vy_X5_recalls : rx_Y (zV b e D A X) yX5_recalls mX5_recalls 2 := ⟨zw2835, zw428, by decide, by decide +kernel, by decide +kernel, by decide +kernel⟩
noncomputable def vX5_recalls_69 : rx_K := o_bi (fun x y => x - y) (o_putf rx_isI 5 14 (o_const 8 (o_ret1 rx_isZ)))
set_option maxRecDepth 20000 in
theorem wX5_recalls_69 (hZ : zO b e D A X) : rx_OK (zV b e D A X) mX5_recalls 0 69 vX5_recalls_69 := by
  unfold vX5_recalls_69
  refine s_isub dX5_recalls_69 ?_
  refine yp5_14 hZ.1 dX5_recalls_70 zw1373 ?_
  refine s_iconst dX5_recalls_73 (by decide +kernel) ?_
  exact s_zret rx_z_ok rfl dX5_recalls_74
noncomputable def vX5_recalls_33 : rx_K := o_ld rx_isR 0 (o_ld rx_isR 0 (o_getf 5 19 (o_ld rx_isI 3 (o_ald 5 (o_putf rx_isR 5 11 (o_ld rx_isR 0 (o_ld rx_isR 0 (o_getf 5 18 (o_ld rx_isI 3 (o_ald 0 (o_const 800 (o_bin (fun x y => x - x / y * y) (o_const 24 (o_bi (fun x y => x - y) (o_putf rx_isI 5 12 (o_ld rx_isR 0 (o_ld rx_isR 0 (o_getf 5 18 (o_ld rx_isI 3 (o_ald 0 (o_const 800 (o_bin (fun x y => x / y) (o_const 24 (vX5_recalls_69))))))))))))))))))))))))
set_option maxRecDepth 20000 in
theorem wX5_recalls_33 (hZ : zO b e D A X) : rx_OK (zV b e D A X) mX5_recalls 0 33 vX5_recalls_33 := by
  unfold vX5_recalls_33
  refine s_aload_n hZ.1 dX5_recalls_33 rfl ?_
  refine s_aload_n hZ.1 dX5_recalls_34 rfl ?_
  refine yg5_19 dX5_recalls_35 zw1381 ?_
  refine s_iload_n hZ.1 dX5_recalls_38 rfl ?_
  refine s_aald (tt := 5) rfl rfl dX5_recalls_39 ?_
  refine yp5_11 hZ.1 dX5_recalls_40 zw1366 ?_
  refine s_aload_n hZ.1 dX5_recalls_43 rfl ?_
  refine s_aload_n hZ.1 dX5_recalls_44 rfl ?_
  refine yg5_18 dX5_recalls_45 zw1380 ?_
  refine s_iload_n hZ.1 dX5_recalls_48 rfl ?_
  refine s_iald (tt := 0) rfl dX5_recalls_49 ?_
  refine s_bipush dX5_recalls_50 (by decide +kernel) ?_
  refine s_irem dX5_recalls_52 ?_
  refine s_iconst dX5_recalls_53 (by decide +kernel) ?_
  refine s_isub dX5_recalls_54 ?_
  refine yp5_12 hZ.1 dX5_recalls_55 zw1369 ?_
  refine s_aload_n hZ.1 dX5_recalls_58 rfl ?_
  refine s_aload_n hZ.1 dX5_recalls_59 rfl ?_
  refine yg5_18 dX5_recalls_60 zw1380 ?_
  refine s_iload_n hZ.1 dX5_recalls_63 rfl ?_
  refine s_iald (tt := 0) rfl dX5_recalls_64 ?_
  refine s_bipush dX5_recalls_65 (by decide +kernel) ?_
  refine s_idiv dX5_recalls_67 ?_
  refine s_iconst dX5_recalls_68 (by decide +kernel) ?_
  exact (wX5_recalls_69 hZ)
noncomputable def vX5_recalls_31 : rx_K := o_const 0 (o_ret1 rx_isZ)
set_option maxRecDepth 20000 in
theorem wX5_recalls_31 (hZ : zO b e D A X) : rx_OK (zV b e D A X) mX5_recalls 0 31 vX5_recalls_31 := by
  unfold vX5_recalls_31
  refine s_iconst dX5_recalls_31 (by decide +kernel) ?_
  exact s_zret rx_z_ok rfl dX5_recalls_32
noncomputable def vX5_recalls_22 : rx_K := o_ld rx_isR 0 (o_getf 5 18 (o_ld rx_isI 3 (o_ald 0 (o_c1 rx_eq vX5_recalls_31 vX5_recalls_33))))
set_option maxRecDepth 20000 in
theorem wX5_recalls_22 (hZ : zO b e D A X) : rx_OK (zV b e D A X) mX5_recalls 0 22 vX5_recalls_22 := by
  unfold vX5_recalls_22
  refine s_aload_n hZ.1 dX5_recalls_22 rfl ?_
  refine yg5_18 dX5_recalls_23 zw1380 ?_
  refine s_iload_n hZ.1 dX5_recalls_26 rfl ?_
  refine s_iald (tt := 0) rfl dX5_recalls_27 ?_
  exact s_if_ne dX5_recalls_28 (by decide) (wX5_recalls_33 hZ) (wX5_recalls_31 hZ)
noncomputable def vX5_recalls_13 : rx_K := o_ld rx_isI 3 (o_ld rx_isR 0 (o_getf 5 18 (o_alen 0 (o_c2 rx_lt vX5_recalls_22 vX5_recalls_31))))
set_option maxRecDepth 20000 in
theorem wX5_recalls_13 (hZ : zO b e D A X) : rx_OK (zV b e D A X) mX5_recalls 0 13 vX5_recalls_13 := by
  unfold vX5_recalls_13
  refine s_iload_n hZ.1 dX5_recalls_13 rfl ?_
  refine s_aload_n hZ.1 dX5_recalls_14 rfl ?_
  refine yg5_18 dX5_recalls_15 zw1380 ?_
  refine s_alen (tt := 0) rfl dX5_recalls_18 ?_
  exact s_icmp_ge dX5_recalls_19 (by decide) (wX5_recalls_31 hZ) (wX5_recalls_22 hZ)
noncomputable def vX5_recalls_0 : rx_K := o_ld rx_isR 0 (o_getf 5 17 (o_ld rx_isI 1 (o_ald 0 (o_ld rx_isI 2 (o_bi (fun x y => x + y) (o_st rx_isI 3 (o_ld rx_isI 3 (o_c1 rx_lt vX5_recalls_31 vX5_recalls_13))))))))
set_option maxRecDepth 20000 in
theorem wX5_recalls_0 (hZ : zO b e D A X) : rx_OK (zV b e D A X) mX5_recalls 0 0 vX5_recalls_0 := by
  unfold vX5_recalls_0
  refine s_aload_n hZ.1 dX5_recalls_0 rfl ?_
  refine yg5_17 dX5_recalls_1 zw1379 ?_
  refine s_iload_n hZ.1 dX5_recalls_4 rfl ?_
  refine s_iald (tt := 0) rfl dX5_recalls_5 ?_
  refine s_iload_n hZ.1 dX5_recalls_6 rfl ?_
  refine s_iadd dX5_recalls_7 ?_
  refine s_istore_n hZ.1 dX5_recalls_8 rfl (Nat.le_of_ble_eq_true rfl) ?_
  refine s_iload_n hZ.1 dX5_recalls_9 rfl ?_
  exact s_if_lt dX5_recalls_10 (by decide) (wX5_recalls_31 hZ) (wX5_recalls_13 hZ)
noncomputable def FX5_recalls : List Nat → rx_H → Option (Nat × rx_H) := rx_ent 4 vX5_recalls_0
theorem Met_X5_recalls (hZ : zO b e D A X) : rx_Met (zV b e D A X) 0 yX5_recalls mX5_recalls (FX5_recalls) := rx_entry hZ.1 (wX5_recalls_0 hZ) (by decide +kernel) rfl (fun h => by cases h)
abbrev mX5_keep : rx_M := (RX5, cX5_keep, 4, none, false)
theorem vy_X5_keep : rx_Y (zV b e D A X) yX5_keep mX5_keep 2 := ⟨zw2840, zw428, by decide, by decide +kernel, by decide +kernel, by decide +kernel⟩
noncomputable def vX5_keep_54 : rx_K := o_ret0
set_option maxRecDepth 20000 in
theorem wX5_keep_54 (hZ : zO b e D A X) : rx_OK (zV b e D A X) mX5_keep 0 54 vX5_keep_54 := by
  unfold vX5_keep_54
  exact s_vret rfl dX5_keep_54
noncomputable def vX5_keep_22 : rx_K := o_ld rx_isR 0 (o_getf 5 18 (o_ld rx_isI 3 (o_ld rx_isR 0 (o_getf 5 14 (o_const 24 (o_bi (fun x y => x + y) (o_const 800 (o_bi (fun x y => x * y) (o_ld rx_isR 0 (o_getf 5 12 (o_bi (fun x y => x + y) (o_const 24 (o_bi (fun x y => x + y) (o_ast 0 (fun v => v) rx_isI (o_ld rx_isR 0 (o_getf 5 19 (o_ld rx_isI 3 (o_ld rx_isR 0 (o_getf 5 11 (o_aast 5 [7] (vX5_keep_54)))))))))))))))))))))
set_option maxRecDepth 20000 in
theorem wX5_keep_22 (hZ : zO b e D A X) : rx_OK (zV b e D A X) mX5_keep 0 22 vX5_keep_22 := by
  unfold vX5_keep_22
  refine s_aload_n hZ.1 dX5_keep_22 rfl ?_
  refine yg5_18 dX5_keep_23 zw1380 ?_
  refine s_iload_n hZ.1 dX5_keep_26 rfl ?_
  refine s_aload_n hZ.1 dX5_keep_27 rfl ?_
  refine yg5_14 dX5_keep_28 zw1373 ?_
  refine s_iconst dX5_keep_31 (by decide +kernel) ?_
  refine s_iadd dX5_keep_32 ?_
  refine s_bipush dX5_keep_33 (by decide +kernel) ?_
  refine s_imul dX5_keep_35 ?_
  refine s_aload_n hZ.1 dX5_keep_36 rfl ?_
  refine yg5_12 dX5_keep_37 zw1369 ?_
  refine s_iadd dX5_keep_40 ?_
  refine s_iconst dX5_keep_41 (by decide +kernel) ?_
  refine s_iadd dX5_keep_42 ?_
  refine s_iast hZ.1 (tt := 0) rfl dX5_keep_43 ?_
  refine s_aload_n hZ.1 dX5_keep_44 rfl ?_
  refine yg5_19 dX5_keep_45 zw1381 ?_
  refine s_iload_n hZ.1 dX5_keep_48 rfl ?_
  refine s_aload_n hZ.1 dX5_keep_49 rfl ?_
  refine yg5_11 dX5_keep_50 zw1366 ?_
  refine s_aast (tt := 5) rfl zaa7 dX5_keep_53 ?_
  exact (wX5_keep_54 hZ)
noncomputable def vX5_keep_13 : rx_K := o_ld rx_isI 3 (o_ld rx_isR 0 (o_getf 5 18 (o_alen 0 (o_c2 rx_lt vX5_keep_22 vX5_keep_54))))
set_option maxRecDepth 20000 in
theorem wX5_keep_13 (hZ : zO b e D A X) : rx_OK (zV b e D A X) mX5_keep 0 13 vX5_keep_13 := by
  unfold vX5_keep_13
  refine s_iload_n hZ.1 dX5_keep_13 rfl ?_
  refine s_aload_n hZ.1 dX5_keep_14 rfl ?_
  refine yg5_18 dX5_keep_15 zw1380 ?_
  refine s_alen (tt := 0) rfl dX5_keep_18 ?_
  exact s_icmp_ge dX5_keep_19 (by decide) (wX5_keep_54 hZ) (wX5_keep_22 hZ)
noncomputable def vX5_keep_0 : rx_K := o_ld rx_isR 0 (o_getf 5 17 (o_ld rx_isI 1 (o_ald 0 (o_ld rx_isI 2 (o_bi (fun x y => x + y) (o_st rx_isI 3 (o_ld rx_isI 3 (o_c1 rx_lt vX5_keep_54 vX5_keep_13))))))))
set_option maxRecDepth 20000 in
theorem wX5_keep_0 (hZ : zO b e D A X) : rx_OK (zV b e D A X) mX5_keep 0 0 vX5_keep_0 := by
  unfold vX5_keep_0
  refine s_aload_n hZ.1 dX5_keep_0 rfl ?_
  refine yg5_17 dX5_keep_1 zw1379 ?_
  refine s_iload_n hZ.1 dX5_keep_4 rfl ?_
  refine s_iald (tt := 0) rfl dX5_keep_5 ?_
  refine s_iload_n hZ.1 dX5_keep_6 rfl ?_
  refine s_iadd dX5_keep_7 ?_
  refine s_istore_n hZ.1 dX5_keep_8 rfl (Nat.le_of_ble_eq_true rfl) ?_
  refine s_iload_n hZ.1 dX5_keep_9 rfl ?_
  exact s_if_lt dX5_keep_10 (by decide) (wX5_keep_54 hZ) (wX5_keep_13 hZ)
noncomputable def FX5_keep : List Nat → rx_H → Option (Nat × rx_H) := rx_ent 4 vX5_keep_0
theorem Met_X5_keep (hZ : zO b e D A X) : rx_Met (zV b e D A X) 0 yX5_keep mX5_keep (FX5_keep) := rx_entry hZ.1 (wX5_keep_0 hZ) (by decide +kernel) rfl (fun h => by cases h)
abbrev mX5_tellEvent : rx_M := (RX5, cX5_tellEvent, 3, none, false)
theorem vy_X5_tellEvent : rx_Y (zV b e D A X) yX5_tellEvent mX5_tellEvent 2 := ⟨zw2504, zw428, by decide, by decide +kernel, by decide +kernel, by decide +kernel⟩
noncomputable def vX5_tellEvent_37 : rx_K := o_ret0
set_option maxRecDepth 20000 in
theorem wX5_tellEvent_37 (hZ : zO b e D A X) : rx_OK (zV b e D A X) mX5_tellEvent 0 37 vX5_tellEvent_37 := by
  unfold vX5_tellEvent_37
  exact s_vret rfl dX5_tellEvent_37
noncomputable def vX5_tellEvent_12 : rx_K := o_ld rx_isR 0 (o_getf 5 3 (o_ld rx_isR 0 (o_getf 5 4 (o_const 800 (o_ld rx_isI 1 (o_bi (fun x y => x * y) (o_ld rx_isI 2 (o_bi (fun x y => x + y) (o_ast 0 (fun v => v) rx_isI (o_ld rx_isR 0 (o_dup (o_getf 5 4 (o_const 8 (o_bi (fun x y => x + y) (o_putf rx_isI 5 4 (vX5_tellEvent_37))))))))))))))))
set_option maxRecDepth 20000 in
theorem wX5_tellEvent_12 (hZ : zO b e D A X) : rx_OK (zV b e D A X) mX5_tellEvent 0 12 vX5_tellEvent_12 := by
  unfold vX5_tellEvent_12
  refine s_aload_n hZ.1 dX5_tellEvent_12 rfl ?_
  refine yg5_3 dX5_tellEvent_13 zw1355 ?_
  refine s_aload_n hZ.1 dX5_tellEvent_16 rfl ?_
  refine yg5_4 dX5_tellEvent_17 zw1357 ?_
  refine s_bipush dX5_tellEvent_20 (by decide +kernel) ?_
  refine s_iload_n hZ.1 dX5_tellEvent_22 rfl ?_
  refine s_imul dX5_tellEvent_23 ?_
  refine s_iload_n hZ.1 dX5_tellEvent_24 rfl ?_
  refine s_iadd dX5_tellEvent_25 ?_
  refine s_iast hZ.1 (tt := 0) rfl dX5_tellEvent_26 ?_
  refine s_aload_n hZ.1 dX5_tellEvent_27 rfl ?_
  refine s_dup hZ.1 dX5_tellEvent_28 ?_
  refine yg5_4 dX5_tellEvent_29 zw1357 ?_
  refine s_iconst dX5_tellEvent_32 (by decide +kernel) ?_
  refine s_iadd dX5_tellEvent_33 ?_
  refine yp5_4 hZ.1 dX5_tellEvent_34 zw1357 ?_
  exact (wX5_tellEvent_37 hZ)
noncomputable def vX5_tellEvent_0 : rx_K := o_ld rx_isR 0 (o_getf 5 4 (o_ld rx_isR 0 (o_getf 5 3 (o_alen 0 (o_c2 rx_lt vX5_tellEvent_12 vX5_tellEvent_37)))))
set_option maxRecDepth 20000 in
theorem wX5_tellEvent_0 (hZ : zO b e D A X) : rx_OK (zV b e D A X) mX5_tellEvent 0 0 vX5_tellEvent_0 := by
  unfold vX5_tellEvent_0
  refine s_aload_n hZ.1 dX5_tellEvent_0 rfl ?_
  refine yg5_4 dX5_tellEvent_1 zw1357 ?_
  refine s_aload_n hZ.1 dX5_tellEvent_4 rfl ?_
  refine yg5_3 dX5_tellEvent_5 zw1355 ?_
  refine s_alen (tt := 0) rfl dX5_tellEvent_8 ?_
  exact s_icmp_ge dX5_tellEvent_9 (by decide) (wX5_tellEvent_37 hZ) (wX5_tellEvent_12 hZ)
noncomputable def FX5_tellEvent : List Nat → rx_H → Option (Nat × rx_H) := rx_ent 3 vX5_tellEvent_0
theorem Met_X5_tellEvent (hZ : zO b e D A X) : rx_Met (zV b e D A X) 0 yX5_tellEvent mX5_tellEvent (FX5_tellEvent) := rx_entry hZ.1 (wX5_tellEvent_0 hZ) (by decide +kernel) rfl (fun h => by cases h)
abbrev mX5_undo : rx_M := (RX5, cX5_undo, 2, none, false)
theorem vy_X5_undo : rx_Y (zV b e D A X) yX5_undo mX5_undo 1 := ⟨zw2568, zw428, by decide, by decide +kernel, by decide +kernel, by decide +kernel⟩
noncomputable def vX5_undo_36 (j : Nat → rx_K) : rx_K := o_ld rx_isR 0 (o_const 0 (o_putf rx_isI 5 4 (o_ret0)))
set_option maxRecDepth 20000 in
theorem wX5_undo_36 (hZ : zO b e D A X) (j : Nat → rx_K) (hj : ∀ k pc, [0][k]? = some pc → rx_OK (zV b e D A X) mX5_undo 0 pc (j k)) : rx_OK (zV b e D A X) mX5_undo 0 36 (vX5_undo_36 j) := by
  unfold vX5_undo_36
  refine s_aload_n hZ.1 dX5_undo_36 rfl ?_
  refine s_iconst dX5_undo_37 (by decide +kernel) ?_
  refine yp5_4 hZ.1 dX5_undo_38 zw1357 ?_
  exact s_vret rfl dX5_undo_41
noncomputable def vX5_undo_8 (j : Nat → rx_K) : rx_K := o_ld rx_isR 0 (o_dup (o_getf 5 6 (o_const 8 (o_bi (fun x y => x - y) (o_putf rx_isI 5 6 (o_ld rx_isR 0 (o_getf 5 1 (o_ld rx_isR 0 (o_getf 5 5 (o_ld rx_isR 0 (o_getf 5 6 (o_ald 0 (o_const 0 (o_ast 0 (fun v => v) rx_isI ((j 0))))))))))))))))
set_option maxRecDepth 20000 in
theorem wX5_undo_8 (hZ : zO b e D A X) (j : Nat → rx_K) (hj : ∀ k pc, [0][k]? = some pc → rx_OK (zV b e D A X) mX5_undo 0 pc (j k)) : rx_OK (zV b e D A X) mX5_undo 0 8 (vX5_undo_8 j) := by
  unfold vX5_undo_8
  refine s_aload_n hZ.1 dX5_undo_8 rfl ?_
  refine s_dup hZ.1 dX5_undo_9 ?_
  refine yg5_6 dX5_undo_10 zw1360 ?_
  refine s_iconst dX5_undo_13 (by decide +kernel) ?_
  refine s_isub dX5_undo_14 ?_
  refine yp5_6 hZ.1 dX5_undo_15 zw1360 ?_
  refine s_aload_n hZ.1 dX5_undo_18 rfl ?_
  refine yg5_1 dX5_undo_19 zw1351 ?_
  refine s_aload_n hZ.1 dX5_undo_22 rfl ?_
  refine yg5_5 dX5_undo_23 zw1359 ?_
  refine s_aload_n hZ.1 dX5_undo_26 rfl ?_
  refine yg5_6 dX5_undo_27 zw1360 ?_
  refine s_iald (tt := 0) rfl dX5_undo_30 ?_
  refine s_iconst dX5_undo_31 (by decide +kernel) ?_
  refine s_iast hZ.1 (tt := 0) rfl dX5_undo_32 ?_
  exact s_goto dX5_undo_33 (by decide) (hj 0 0 rfl)
noncomputable def vX5_undo_0 (j : Nat → rx_K) : rx_K := o_ld rx_isR 0 (o_getf 5 6 (o_ld rx_isI 1 (o_c2 (fun h x y => rx_lt h y x) (vX5_undo_8 j) (vX5_undo_36 j))))
set_option maxRecDepth 20000 in
theorem wX5_undo_0 (hZ : zO b e D A X) (j : Nat → rx_K) (hj : ∀ k pc, [0][k]? = some pc → rx_OK (zV b e D A X) mX5_undo 0 pc (j k)) : rx_OK (zV b e D A X) mX5_undo 0 0 (vX5_undo_0 j) := by
  unfold vX5_undo_0
  refine s_aload_n hZ.1 dX5_undo_0 rfl ?_
  refine yg5_6 dX5_undo_1 zw1360 ?_
  refine s_iload_n hZ.1 dX5_undo_4 rfl ?_
  exact s_icmp_le dX5_undo_5 (by decide) (wX5_undo_36 hZ j hj) (wX5_undo_8 hZ j hj)
noncomputable def vhX5_undo (j : Nat → rx_K) : List rx_K := [vX5_undo_0 j]
theorem vlX5_undo (hZ : zO b e D A X) : ∀ n k pc, [0][k]? = some pc → rx_OK (zV b e D A X) mX5_undo 0 pc (rx_J (vhX5_undo) n k) := rx_loop fun j hj k pc h => by
  match k, h with
  | 0, h =>
    have e9 := Option.some.inj (show some 0 = some pc from h)
    subst e9
    exact wX5_undo_0 hZ j hj
  | _ + 1, h => exact absurd h (by simp)
noncomputable def FX5_undo : List Nat → rx_H → Option (Nat × rx_H) := rx_ent 2 (vX5_undo_0 (rx_J (vhX5_undo) 4000000000))
theorem Met_X5_undo (hZ : zO b e D A X) : rx_Met (zV b e D A X) 0 yX5_undo mX5_undo (FX5_undo) := rx_entry hZ.1 (wX5_undo_0 hZ _ (vlX5_undo hZ 4000000000)) (by decide +kernel) rfl (fun h => by cases h)
abbrev mX5_isLoaded : rx_M := (RX5, cX5_isLoaded, 2, (some .boolean), false)
theorem vy_X5_isLoaded : rx_Y (zV b e D A X) yX5_isLoaded mX5_isLoaded 1 := ⟨zw2724, zw428, by decide, by decide +kernel, by decide +kernel, by decide +kernel⟩
noncomputable def vX5_isLoaded_24 : rx_K := o_ret1 rx_isZ
set_option maxRecDepth 20000 in
theorem wX5_isLoaded_24 (hZ : zO b e D A X) : rx_OK (zV b e D A X) mX5_isLoaded 0 24 vX5_isLoaded_24 := by
  unfold vX5_isLoaded_24
  exact s_zret rx_z_ok rfl dX5_isLoaded_24
noncomputable def vX5_isLoaded_23 : rx_K := o_const 0 (vX5_isLoaded_24)
set_option maxRecDepth 20000 in
theorem wX5_isLoaded_23 (hZ : zO b e D A X) : rx_OK (zV b e D A X) mX5_isLoaded 0 23 vX5_isLoaded_23 := by
  unfold vX5_isLoaded_23
  refine s_iconst dX5_isLoaded_23 (by decide +kernel) ?_
  exact (wX5_isLoaded_24 hZ)
noncomputable def vX5_isLoaded_19 : rx_K := o_const 8 (vX5_isLoaded_24)
set_option maxRecDepth 20000 in
theorem wX5_isLoaded_19 (hZ : zO b e D A X) : rx_OK (zV b e D A X) mX5_isLoaded 0 19 vX5_isLoaded_19 := by
  unfold vX5_isLoaded_19
  refine s_iconst dX5_isLoaded_19 (by decide +kernel) ?_
  exact s_goto dX5_isLoaded_20 (by decide) (wX5_isLoaded_24 hZ)
noncomputable def vX5_isLoaded_9 : rx_K := o_ld rx_isR 0 (o_getf 5 1 (o_ld rx_isI 1 (o_ald 0 (o_const 40 (o_c2 rx_eq vX5_isLoaded_23 vX5_isLoaded_19)))))
set_option maxRecDepth 20000 in
theorem wX5_isLoaded_9 (hZ : zO b e D A X) : rx_OK (zV b e D A X) mX5_isLoaded 0 9 vX5_isLoaded_9 := by
  unfold vX5_isLoaded_9
  refine s_aload_n hZ.1 dX5_isLoaded_9 rfl ?_
  refine yg5_1 dX5_isLoaded_10 zw1351 ?_
  refine s_iload_n hZ.1 dX5_isLoaded_13 rfl ?_
  refine s_iald (tt := 0) rfl dX5_isLoaded_14 ?_
  refine s_iconst dX5_isLoaded_15 (by decide +kernel) ?_
  exact s_icmp_eq dX5_isLoaded_16 (by decide) (wX5_isLoaded_23 hZ) (wX5_isLoaded_19 hZ)
noncomputable def vX5_isLoaded_0 : rx_K := o_ld rx_isR 0 (o_getf 5 1 (o_ld rx_isI 1 (o_ald 0 (o_c1 (fun h x y => rx_lt h y x) vX5_isLoaded_9 vX5_isLoaded_23))))
set_option maxRecDepth 20000 in
theorem wX5_isLoaded_0 (hZ : zO b e D A X) : rx_OK (zV b e D A X) mX5_isLoaded 0 0 vX5_isLoaded_0 := by
  unfold vX5_isLoaded_0
  refine s_aload_n hZ.1 dX5_isLoaded_0 rfl ?_
  refine yg5_1 dX5_isLoaded_1 zw1351 ?_
  refine s_iload_n hZ.1 dX5_isLoaded_4 rfl ?_
  refine s_iald (tt := 0) rfl dX5_isLoaded_5 ?_
  exact s_if_le dX5_isLoaded_6 (by decide) (wX5_isLoaded_23 hZ) (wX5_isLoaded_9 hZ)
noncomputable def FX5_isLoaded : List Nat → rx_H → Option (Nat × rx_H) := rx_ent 2 vX5_isLoaded_0
theorem Met_X5_isLoaded (hZ : zO b e D A X) : rx_Met (zV b e D A X) 0 yX5_isLoaded mX5_isLoaded (FX5_isLoaded) := rx_entry hZ.1 (wX5_isLoaded_0 hZ) (by decide +kernel) rfl (fun h => by cases h)
abbrev mX5_openLoad : rx_M := (RX5, cX5_openLoad, 3, (some .int), false)
theorem vy_X5_openLoad : rx_Y (zV b e D A X) yX5_openLoad mX5_openLoad 2 := ⟨zw2499, zw428, by decide, by decide +kernel, by decide +kernel, by decide +kernel⟩
noncomputable def vX5_openLoad_39 : rx_K := o_ld rx_isR 0 (o_getf 5 7 (o_ld rx_isI 2 (o_ld rx_isI 1 (o_ast 0 (fun v => v) rx_isI (o_ld rx_isR 0 (o_getf 5 8 (o_ld rx_isI 2 (o_const 0 (o_ast 0 (fun v => v) rx_isI (o_ld rx_isI 2 (o_const 8 (o_bi (fun x y => x + y) (o_ret1 rx_isI)))))))))))))
set_option maxRecDepth 20000 in
theorem wX5_openLoad_39 (hZ : zO b e D A X) : rx_OK (zV b e D A X) mX5_openLoad 0 39 vX5_openLoad_39 := by
  unfold vX5_openLoad_39
  refine s_aload_n hZ.1 dX5_openLoad_39 rfl ?_
  refine yg5_7 dX5_openLoad_40 zw1362 ?_
  refine s_iload_n hZ.1 dX5_openLoad_43 rfl ?_
  refine s_iload_n hZ.1 dX5_openLoad_44 rfl ?_
  refine s_iast hZ.1 (tt := 0) rfl dX5_openLoad_45 ?_
  refine s_aload_n hZ.1 dX5_openLoad_46 rfl ?_
  refine yg5_8 dX5_openLoad_47 zw1363 ?_
  refine s_iload_n hZ.1 dX5_openLoad_50 rfl ?_
  refine s_iconst dX5_openLoad_51 (by decide +kernel) ?_
  refine s_iast hZ.1 (tt := 0) rfl dX5_openLoad_52 ?_
  refine s_iload_n hZ.1 dX5_openLoad_53 rfl ?_
  refine s_iconst dX5_openLoad_54 (by decide +kernel) ?_
  refine s_iadd dX5_openLoad_55 ?_
  exact s_iret hZ.1 rfl dX5_openLoad_56
noncomputable def vX5_openLoad_19 : rx_K := o_ld rx_isR 0 (o_getf 5 5 (o_ld rx_isR 0 (o_getf 5 6 (o_ld rx_isI 1 (o_ast 0 (fun v => v) rx_isI (o_ld rx_isR 0 (o_dup (o_getf 5 6 (o_const 8 (o_bi (fun x y => x + y) (o_putf rx_isI 5 6 (vX5_openLoad_39))))))))))))
set_option maxRecDepth 20000 in
theorem wX5_openLoad_19 (hZ : zO b e D A X) : rx_OK (zV b e D A X) mX5_openLoad 0 19 vX5_openLoad_19 := by
  unfold vX5_openLoad_19
  refine s_aload_n hZ.1 dX5_openLoad_19 rfl ?_
  refine yg5_5 dX5_openLoad_20 zw1359 ?_
  refine s_aload_n hZ.1 dX5_openLoad_23 rfl ?_
  refine yg5_6 dX5_openLoad_24 zw1360 ?_
  refine s_iload_n hZ.1 dX5_openLoad_27 rfl ?_
  refine s_iast hZ.1 (tt := 0) rfl dX5_openLoad_28 ?_
  refine s_aload_n hZ.1 dX5_openLoad_29 rfl ?_
  refine s_dup hZ.1 dX5_openLoad_30 ?_
  refine yg5_6 dX5_openLoad_31 zw1360 ?_
  refine s_iconst dX5_openLoad_34 (by decide +kernel) ?_
  refine s_iadd dX5_openLoad_35 ?_
  refine yp5_6 hZ.1 dX5_openLoad_36 zw1360 ?_
  exact (wX5_openLoad_39 hZ)
noncomputable def vX5_openLoad_0 : rx_K := o_ld rx_isR 0 (o_getf 5 1 (o_ld rx_isI 1 (o_const 34359738360 (o_ast 0 (fun v => v) rx_isI (o_ld rx_isR 0 (o_getf 5 6 (o_ld rx_isR 0 (o_getf 5 5 (o_alen 0 (o_c2 rx_lt vX5_openLoad_19 vX5_openLoad_39))))))))))
set_option maxRecDepth 20000 in
theorem wX5_openLoad_0 (hZ : zO b e D A X) : rx_OK (zV b e D A X) mX5_openLoad 0 0 vX5_openLoad_0 := by
  unfold vX5_openLoad_0
  refine s_aload_n hZ.1 dX5_openLoad_0 rfl ?_
  refine yg5_1 dX5_openLoad_1 zw1351 ?_
  refine s_iload_n hZ.1 dX5_openLoad_4 rfl ?_
  refine s_iconst dX5_openLoad_5 (by decide +kernel) ?_
  refine s_iast hZ.1 (tt := 0) rfl dX5_openLoad_6 ?_
  refine s_aload_n hZ.1 dX5_openLoad_7 rfl ?_
  refine yg5_6 dX5_openLoad_8 zw1360 ?_
  refine s_aload_n hZ.1 dX5_openLoad_11 rfl ?_
  refine yg5_5 dX5_openLoad_12 zw1359 ?_
  refine s_alen (tt := 0) rfl dX5_openLoad_15 ?_
  exact s_icmp_ge dX5_openLoad_16 (by decide) (wX5_openLoad_39 hZ) (wX5_openLoad_19 hZ)
noncomputable def FX5_openLoad : List Nat → rx_H → Option (Nat × rx_H) := rx_ent 3 vX5_openLoad_0
theorem Met_X5_openLoad (hZ : zO b e D A X) : rx_Met (zV b e D A X) 0 yX5_openLoad mX5_openLoad (FX5_openLoad) := rx_entry hZ.1 (wX5_openLoad_0 hZ) (by decide +kernel) rfl (fun h => by cases h)
abbrev mX5_load : rx_M := (RX5, cX5_load, 10, (some .int), false)
theorem vy_X5_load : rx_Y (zV b e D A X) yX5_load mX5_load 1 := ⟨zw2495, zw428, by decide, by decide +kernel, by decide +kernel, by decide +kernel⟩
noncomputable def vX5_load_357 (j : Nat → rx_K) : rx_K := o_ret1 rx_isI
set_option maxRecDepth 20000 in
theorem wX5_load_357 (hZ : zO b e D A X) (j : Nat → rx_K) (hj : ∀ k pc, [20][k]? = some pc → rx_OK (zV b e D A X) mX5_load 1 pc (j k)) : rx_OK (zV b e D A X) mX5_load 1 357 (vX5_load_357 j) := by
  unfold vX5_load_357
  exact s_iret hZ.1 rfl dX5_load_357
noncomputable def vX5_load_356 (j : Nat → rx_K) : rx_K := o_const 0 ((vX5_load_357 j))
set_option maxRecDepth 20000 in
theorem wX5_load_356 (hZ : zO b e D A X) (j : Nat → rx_K) (hj : ∀ k pc, [20][k]? = some pc → rx_OK (zV b e D A X) mX5_load 1 pc (j k)) : rx_OK (zV b e D A X) mX5_load 1 356 (vX5_load_356 j) := by
  unfold vX5_load_356
  refine s_iconst dX5_load_356 (by decide +kernel) ?_
  exact (wX5_load_357 hZ j hj)
noncomputable def vX5_load_347 (j : Nat → rx_K) : rx_K := o_ld rx_isR 0 (o_getf 5 2 (o_ld rx_isI 1 (o_ald 0 ((vX5_load_357 j)))))
set_option maxRecDepth 20000 in
theorem wX5_load_347 (hZ : zO b e D A X) (j : Nat → rx_K) (hj : ∀ k pc, [20][k]? = some pc → rx_OK (zV b e D A X) mX5_load 1 pc (j k)) : rx_OK (zV b e D A X) mX5_load 1 347 (vX5_load_347 j) := by
  unfold vX5_load_347
  refine s_aload_n hZ.1 dX5_load_347 rfl ?_
  refine yg5_2 dX5_load_348 zw1354 ?_
  refine s_iload_n hZ.1 dX5_load_351 rfl ?_
  refine s_iald (tt := 0) rfl dX5_load_352 ?_
  exact s_goto dX5_load_353 (by decide) (wX5_load_357 hZ j hj)
noncomputable def vX5_load_337 (j : Nat → rx_K) : rx_K := o_ld rx_isR 0 (o_getf 5 1 (o_ld rx_isI 1 (o_ald 0 (o_const 40 (o_c2 rx_eq (vX5_load_347 j) (vX5_load_356 j))))))
set_option maxRecDepth 20000 in
theorem wX5_load_337 (hZ : zO b e D A X) (j : Nat → rx_K) (hj : ∀ k pc, [20][k]? = some pc → rx_OK (zV b e D A X) mX5_load 1 pc (j k)) : rx_OK (zV b e D A X) mX5_load 1 337 (vX5_load_337 j) := by
  unfold vX5_load_337
  refine s_aload_n hZ.1 dX5_load_337 rfl ?_
  refine yg5_1 dX5_load_338 zw1351 ?_
  refine s_iload_n hZ.1 dX5_load_341 rfl ?_
  refine s_iald (tt := 0) rfl dX5_load_342 ?_
  refine s_iconst dX5_load_343 (by decide +kernel) ?_
  exact s_icmp_ne dX5_load_344 (by decide) (wX5_load_356 hZ j hj) (wX5_load_347 hZ j hj)
noncomputable def vX5_load_332 (j : Nat → rx_K) : rx_K := o_const 80 ((vX5_load_357 j))
set_option maxRecDepth 20000 in
theorem wX5_load_332 (hZ : zO b e D A X) (j : Nat → rx_K) (hj : ∀ k pc, [20][k]? = some pc → rx_OK (zV b e D A X) mX5_load 1 pc (j k)) : rx_OK (zV b e D A X) mX5_load 1 332 (vX5_load_332 j) := by
  unfold vX5_load_332
  refine s_bipush dX5_load_332 (by decide +kernel) ?_
  exact s_goto dX5_load_334 (by decide) (wX5_load_357 hZ j hj)
noncomputable def vX5_load_322 (j : Nat → rx_K) : rx_K := o_ld rx_isR 0 (o_getf 5 1 (o_ld rx_isI 1 (o_ald 0 (o_const 34359738360 (o_c2 rx_eq (vX5_load_332 j) (vX5_load_337 j))))))
set_option maxRecDepth 20000 in
theorem wX5_load_322 (hZ : zO b e D A X) (j : Nat → rx_K) (hj : ∀ k pc, [20][k]? = some pc → rx_OK (zV b e D A X) mX5_load 1 pc (j k)) : rx_OK (zV b e D A X) mX5_load 1 322 (vX5_load_322 j) := by
  unfold vX5_load_322
  refine s_aload_n hZ.1 dX5_load_322 rfl ?_
  refine yg5_1 dX5_load_323 zw1351 ?_
  refine s_iload_n hZ.1 dX5_load_326 rfl ?_
  refine s_iald (tt := 0) rfl dX5_load_327 ?_
  refine s_iconst dX5_load_328 (by decide +kernel) ?_
  exact s_icmp_ne dX5_load_329 (by decide) (wX5_load_337 hZ j hj) (wX5_load_332 hZ j hj)
noncomputable def vX5_load_316 (j : Nat → rx_K) : rx_K := o_inc 3 (1) ((j 0))
set_option maxRecDepth 20000 in
theorem wX5_load_316 (hZ : zO b e D A X) (j : Nat → rx_K) (hj : ∀ k pc, [20][k]? = some pc → rx_OK (zV b e D A X) mX5_load 1 pc (j k)) : rx_OK (zV b e D A X) mX5_load 1 316 (vX5_load_316 j) := by
  unfold vX5_load_316
  refine s_iinc hZ.1 dX5_load_316 (Nat.le_of_ble_eq_true rfl) ?_
  exact s_goto dX5_load_319 (by decide) (hj 0 20 rfl)
noncomputable def vX5_load_289 (j : Nat → rx_K) : rx_K := o_ld rx_isR 0 (o_getf 5 1 (o_ld rx_isI 4 (o_const 40 (o_ast 0 (fun v => v) rx_isI (o_ld rx_isR 0 (o_getf 5 2 (o_ld rx_isI 4 (o_ld rx_isI 9 (o_ast 0 (fun v => v) rx_isI (o_ld rx_isR 0 (o_ld rx_isI 4 (o_const 40 (o_callV 2 5 FX5_tellEvent (o_inc 2 (-1) ((vX5_load_316 j))))))))))))))))
set_option maxRecDepth 20000 in
theorem wX5_load_289 (hZ : zO b e D A X) (j : Nat → rx_K) (hj : ∀ k pc, [20][k]? = some pc → rx_OK (zV b e D A X) mX5_load 1 pc (j k)) : rx_OK (zV b e D A X) mX5_load 1 289 (vX5_load_289 j) := by
  unfold vX5_load_289
  refine s_aload_n hZ.1 dX5_load_289 rfl ?_
  refine yg5_1 dX5_load_290 zw1351 ?_
  refine s_iload hZ.1 dX5_load_293 ?_
  refine s_iconst dX5_load_295 (by decide +kernel) ?_
  refine s_iast hZ.1 (tt := 0) rfl dX5_load_296 ?_
  refine s_aload_n hZ.1 dX5_load_297 rfl ?_
  refine yg5_2 dX5_load_298 zw1354 ?_
  refine s_iload hZ.1 dX5_load_301 ?_
  refine s_iload hZ.1 dX5_load_303 ?_
  refine s_iast hZ.1 (tt := 0) rfl dX5_load_305 ?_
  refine s_aload_n hZ.1 dX5_load_306 rfl ?_
  refine s_iload hZ.1 dX5_load_307 ?_
  refine s_iconst dX5_load_309 (by decide +kernel) ?_
  refine s_callV hZ.1 (Met_X5_tellEvent hZ) (Nat.le_of_ble_eq_true rfl) vy_X5_tellEvent zcl5 zw2502 zw2503 (Or.inl zw2501) dX5_load_310 ?_
  refine s_iinc hZ.1 dX5_load_313 (Nat.le_of_ble_eq_true rfl) ?_
  exact (wX5_load_316 hZ j hj)
noncomputable def vX5_load_270 (j : Nat → rx_K) : rx_K := o_st rx_isI 9 (o_ld rx_isR 0 (o_getf 5 8 (o_ld rx_isI 2 (o_const 8 (o_bi (fun x y => x - y) (o_dup2 (o_ald 0 (o_const 8 (o_bi (fun x y => x + y) (o_ast 0 (fun v => v) rx_isI (o_ld rx_isI 9 (o_c1 rx_eq (vX5_load_316 j) (vX5_load_289 j)))))))))))))
set_option maxRecDepth 20000 in
theorem wX5_load_270 (hZ : zO b e D A X) (j : Nat → rx_K) (hj : ∀ k pc, [20][k]? = some pc → rx_OK (zV b e D A X) mX5_load 1 pc (j k)) : rx_OK (zV b e D A X) mX5_load 1 270 (vX5_load_270 j) := by
  unfold vX5_load_270
  refine s_istore hZ.1 dX5_load_270 (Nat.le_of_ble_eq_true rfl) ?_
  refine s_aload_n hZ.1 dX5_load_272 rfl ?_
  refine yg5_8 dX5_load_273 zw1363 ?_
  refine s_iload_n hZ.1 dX5_load_276 rfl ?_
  refine s_iconst dX5_load_277 (by decide +kernel) ?_
  refine s_isub dX5_load_278 ?_
  refine s_dup2 hZ.1 dX5_load_279 ?_
  refine s_iald (tt := 0) rfl dX5_load_280 ?_
  refine s_iconst dX5_load_281 (by decide +kernel) ?_
  refine s_iadd dX5_load_282 ?_
  refine s_iast hZ.1 (tt := 0) rfl dX5_load_283 ?_
  refine s_iload hZ.1 dX5_load_284 ?_
  exact s_if_eq dX5_load_286 (by decide) (wX5_load_316 hZ j hj) (wX5_load_289 hZ j hj)
noncomputable def vX5_load_255 (j : Nat → rx_K) : rx_K := o_ld rx_isR 0 (o_getf 5 0 (o_getf 11 6 (o_ld rx_isI 4 (o_const 40 (o_bi (fun x y => x * y) (o_ld rx_isI 5 (o_bi (fun x y => x + y) (o_ald 0 ((vX5_load_270 j))))))))))
set_option maxRecDepth 20000 in
theorem wX5_load_255 (hZ : zO b e D A X) (j : Nat → rx_K) (hj : ∀ k pc, [20][k]? = some pc → rx_OK (zV b e D A X) mX5_load 1 pc (j k)) : rx_OK (zV b e D A X) mX5_load 1 255 (vX5_load_255 j) := by
  unfold vX5_load_255
  refine s_aload_n hZ.1 dX5_load_255 rfl ?_
  refine yg5_0 dX5_load_256 zw1350 ?_
  refine yg11_6 dX5_load_259 zw1276 ?_
  refine s_iload hZ.1 dX5_load_262 ?_
  refine s_iconst dX5_load_264 (by decide +kernel) ?_
  refine s_imul dX5_load_265 ?_
  refine s_iload hZ.1 dX5_load_266 ?_
  refine s_iadd dX5_load_268 ?_
  refine s_iald (tt := 0) rfl dX5_load_269 ?_
  exact (wX5_load_270 hZ j hj)
noncomputable def vX5_load_245 (j : Nat → rx_K) : rx_K := o_ld rx_isR 0 (o_getf 5 2 (o_ld rx_isI 8 (o_ald 0 ((vX5_load_270 j)))))
set_option maxRecDepth 20000 in
theorem wX5_load_245 (hZ : zO b e D A X) (j : Nat → rx_K) (hj : ∀ k pc, [20][k]? = some pc → rx_OK (zV b e D A X) mX5_load 1 pc (j k)) : rx_OK (zV b e D A X) mX5_load 1 245 (vX5_load_245 j) := by
  unfold vX5_load_245
  refine s_aload_n hZ.1 dX5_load_245 rfl ?_
  refine yg5_2 dX5_load_246 zw1354 ?_
  refine s_iload hZ.1 dX5_load_249 ?_
  refine s_iald (tt := 0) rfl dX5_load_251 ?_
  exact s_goto dX5_load_252 (by decide) (wX5_load_270 hZ j hj)
noncomputable def vX5_load_234 (j : Nat → rx_K) : rx_K := o_ld rx_isR 0 (o_getf 5 1 (o_ld rx_isI 8 (o_ald 0 (o_const 40 (o_c2 rx_eq (vX5_load_245 j) (vX5_load_255 j))))))
set_option maxRecDepth 20000 in
theorem wX5_load_234 (hZ : zO b e D A X) (j : Nat → rx_K) (hj : ∀ k pc, [20][k]? = some pc → rx_OK (zV b e D A X) mX5_load 1 pc (j k)) : rx_OK (zV b e D A X) mX5_load 1 234 (vX5_load_234 j) := by
  unfold vX5_load_234
  refine s_aload_n hZ.1 dX5_load_234 rfl ?_
  refine yg5_1 dX5_load_235 zw1351 ?_
  refine s_iload hZ.1 dX5_load_238 ?_
  refine s_iald (tt := 0) rfl dX5_load_240 ?_
  refine s_iconst dX5_load_241 (by decide +kernel) ?_
  exact s_icmp_ne dX5_load_242 (by decide) (wX5_load_255 hZ j hj) (wX5_load_245 hZ j hj)
noncomputable def vX5_load_229 (j : Nat → rx_K) : rx_K := o_const 80 ((vX5_load_270 j))
set_option maxRecDepth 20000 in
theorem wX5_load_229 (hZ : zO b e D A X) (j : Nat → rx_K) (hj : ∀ k pc, [20][k]? = some pc → rx_OK (zV b e D A X) mX5_load 1 pc (j k)) : rx_OK (zV b e D A X) mX5_load 1 229 (vX5_load_229 j) := by
  unfold vX5_load_229
  refine s_bipush dX5_load_229 (by decide +kernel) ?_
  exact s_goto dX5_load_231 (by decide) (wX5_load_270 hZ j hj)
noncomputable def vX5_load_218 (j : Nat → rx_K) : rx_K := o_ld rx_isR 0 (o_getf 5 1 (o_ld rx_isI 8 (o_ald 0 (o_const 34359738360 (o_c2 rx_eq (vX5_load_229 j) (vX5_load_234 j))))))
set_option maxRecDepth 20000 in
theorem wX5_load_218 (hZ : zO b e D A X) (j : Nat → rx_K) (hj : ∀ k pc, [20][k]? = some pc → rx_OK (zV b e D A X) mX5_load 1 pc (j k)) : rx_OK (zV b e D A X) mX5_load 1 218 (vX5_load_218 j) := by
  unfold vX5_load_218
  refine s_aload_n hZ.1 dX5_load_218 rfl ?_
  refine yg5_1 dX5_load_219 zw1351 ?_
  refine s_iload hZ.1 dX5_load_222 ?_
  refine s_iald (tt := 0) rfl dX5_load_224 ?_
  refine s_iconst dX5_load_225 (by decide +kernel) ?_
  exact s_icmp_ne dX5_load_226 (by decide) (wX5_load_234 hZ j hj) (wX5_load_229 hZ j hj)
noncomputable def vX5_load_214 (j : Nat → rx_K) : rx_K := o_const 8 ((vX5_load_270 j))
set_option maxRecDepth 20000 in
theorem wX5_load_214 (hZ : zO b e D A X) (j : Nat → rx_K) (hj : ∀ k pc, [20][k]? = some pc → rx_OK (zV b e D A X) mX5_load 1 pc (j k)) : rx_OK (zV b e D A X) mX5_load 1 214 (vX5_load_214 j) := by
  unfold vX5_load_214
  refine s_iconst dX5_load_214 (by decide +kernel) ?_
  exact s_goto dX5_load_215 (by decide) (wX5_load_270 hZ j hj)
noncomputable def vX5_load_209 (j : Nat → rx_K) : rx_K := o_ld rx_isI 8 (o_c1 rx_lt (vX5_load_214 j) (vX5_load_218 j))
set_option maxRecDepth 20000 in
theorem wX5_load_209 (hZ : zO b e D A X) (j : Nat → rx_K) (hj : ∀ k pc, [20][k]? = some pc → rx_OK (zV b e D A X) mX5_load 1 pc (j k)) : rx_OK (zV b e D A X) mX5_load 1 209 (vX5_load_209 j) := by
  unfold vX5_load_209
  refine s_iload hZ.1 dX5_load_209 ?_
  exact s_if_ge dX5_load_211 (by decide) (wX5_load_218 hZ j hj) (wX5_load_214 hZ j hj)
noncomputable def vX5_load_198 (j : Nat → rx_K) : rx_K := o_ld rx_isR 0 (o_ld rx_isI 8 (o_ld rx_isI 2 (o_callV 2 5 FX5_openLoad (o_st rx_isI 2 ((vX5_load_316 j))))))
set_option maxRecDepth 20000 in
theorem wX5_load_198 (hZ : zO b e D A X) (j : Nat → rx_K) (hj : ∀ k pc, [20][k]? = some pc → rx_OK (zV b e D A X) mX5_load 1 pc (j k)) : rx_OK (zV b e D A X) mX5_load 1 198 (vX5_load_198 j) := by
  unfold vX5_load_198
  refine s_aload_n hZ.1 dX5_load_198 rfl ?_
  refine s_iload hZ.1 dX5_load_199 ?_
  refine s_iload_n hZ.1 dX5_load_201 rfl ?_
  refine s_callV hZ.1 (Met_X5_openLoad hZ) (Nat.le_of_ble_eq_true rfl) vy_X5_openLoad zcl5 zw2498 zw127 (Or.inl zw2496) dX5_load_202 ?_
  refine s_istore_n hZ.1 dX5_load_205 rfl (Nat.le_of_ble_eq_true rfl) ?_
  exact s_goto dX5_load_206 (by decide) (wX5_load_316 hZ j hj)
noncomputable def vX5_load_188 (j : Nat → rx_K) : rx_K := o_ld rx_isR 0 (o_getf 5 1 (o_ld rx_isI 8 (o_ald 0 (o_c1 rx_eq (vX5_load_198 j) (vX5_load_209 j)))))
set_option maxRecDepth 20000 in
theorem wX5_load_188 (hZ : zO b e D A X) (j : Nat → rx_K) (hj : ∀ k pc, [20][k]? = some pc → rx_OK (zV b e D A X) mX5_load 1 pc (j k)) : rx_OK (zV b e D A X) mX5_load 1 188 (vX5_load_188 j) := by
  unfold vX5_load_188
  refine s_aload_n hZ.1 dX5_load_188 rfl ?_
  refine yg5_1 dX5_load_189 zw1351 ?_
  refine s_iload hZ.1 dX5_load_192 ?_
  refine s_iald (tt := 0) rfl dX5_load_194 ?_
  exact s_if_ne dX5_load_195 (by decide) (wX5_load_209 hZ j hj) (wX5_load_198 hZ j hj)
noncomputable def vX5_load_183 (j : Nat → rx_K) : rx_K := o_ld rx_isI 8 (o_c1 rx_lt (vX5_load_209 j) (vX5_load_188 j))
set_option maxRecDepth 20000 in
theorem wX5_load_183 (hZ : zO b e D A X) (j : Nat → rx_K) (hj : ∀ k pc, [20][k]? = some pc → rx_OK (zV b e D A X) mX5_load 1 pc (j k)) : rx_OK (zV b e D A X) mX5_load 1 183 (vX5_load_183 j) := by
  unfold vX5_load_183
  refine s_iload hZ.1 dX5_load_183 ?_
  exact s_if_lt dX5_load_185 (by decide) (wX5_load_209 hZ j hj) (wX5_load_188 hZ j hj)
noncomputable def vX5_load_162 (j : Nat → rx_K) : rx_K := o_ld rx_isR 0 (o_getf 5 1 (o_ld rx_isI 4 (o_const 8 (o_ast 0 (fun v => v) rx_isI (o_ld rx_isR 0 (o_ld rx_isI 4 (o_const 8 (o_callV 2 5 FX5_tellEvent (o_inc 2 (-1) ((vX5_load_316 j)))))))))))
set_option maxRecDepth 20000 in
theorem wX5_load_162 (hZ : zO b e D A X) (j : Nat → rx_K) (hj : ∀ k pc, [20][k]? = some pc → rx_OK (zV b e D A X) mX5_load 1 pc (j k)) : rx_OK (zV b e D A X) mX5_load 1 162 (vX5_load_162 j) := by
  unfold vX5_load_162
  refine s_aload_n hZ.1 dX5_load_162 rfl ?_
  refine yg5_1 dX5_load_163 zw1351 ?_
  refine s_iload hZ.1 dX5_load_166 ?_
  refine s_iconst dX5_load_168 (by decide +kernel) ?_
  refine s_iast hZ.1 (tt := 0) rfl dX5_load_169 ?_
  refine s_aload_n hZ.1 dX5_load_170 rfl ?_
  refine s_iload hZ.1 dX5_load_171 ?_
  refine s_iconst dX5_load_173 (by decide +kernel) ?_
  refine s_callV hZ.1 (Met_X5_tellEvent hZ) (Nat.le_of_ble_eq_true rfl) vy_X5_tellEvent zcl5 zw2502 zw2503 (Or.inl zw2501) dX5_load_174 ?_
  refine s_iinc hZ.1 dX5_load_177 (Nat.le_of_ble_eq_true rfl) ?_
  exact s_goto dX5_load_180 (by decide) (wX5_load_316 hZ j hj)
noncomputable def vX5_load_150 (j : Nat → rx_K) : rx_K := o_ld rx_isI 5 (o_ld rx_isR 6 (o_getf 10 11 (o_const 0 (o_ald 0 (o_c2 (fun h x y => rx_lt h y x) (vX5_load_162 j) (vX5_load_183 j))))))
set_option maxRecDepth 20000 in
theorem wX5_load_150 (hZ : zO b e D A X) (j : Nat → rx_K) (hj : ∀ k pc, [20][k]? = some pc → rx_OK (zV b e D A X) mX5_load 1 pc (j k)) : rx_OK (zV b e D A X) mX5_load 1 150 (vX5_load_150 j) := by
  unfold vX5_load_150
  refine s_iload hZ.1 dX5_load_150 ?_
  refine s_aload hZ.1 dX5_load_152 ?_
  refine yg10_11 dX5_load_154 zw843 ?_
  refine s_iconst dX5_load_157 (by decide +kernel) ?_
  refine s_iald (tt := 0) rfl dX5_load_158 ?_
  exact s_icmp_le dX5_load_159 (by decide) (wX5_load_183 hZ j hj) (wX5_load_162 hZ j hj)
noncomputable def vX5_load_135 (j : Nat → rx_K) : rx_K := o_ld rx_isR 0 (o_getf 5 8 (o_ld rx_isI 2 (o_const 8 (o_bi (fun x y => x - y) (o_dup2 (o_ald 0 (o_const 8 (o_bi (fun x y => x + y) (o_ast 0 (fun v => v) rx_isI ((vX5_load_316 j)))))))))))
set_option maxRecDepth 20000 in
theorem wX5_load_135 (hZ : zO b e D A X) (j : Nat → rx_K) (hj : ∀ k pc, [20][k]? = some pc → rx_OK (zV b e D A X) mX5_load 1 pc (j k)) : rx_OK (zV b e D A X) mX5_load 1 135 (vX5_load_135 j) := by
  unfold vX5_load_135
  refine s_aload_n hZ.1 dX5_load_135 rfl ?_
  refine yg5_8 dX5_load_136 zw1363 ?_
  refine s_iload_n hZ.1 dX5_load_139 rfl ?_
  refine s_iconst dX5_load_140 (by decide +kernel) ?_
  refine s_isub dX5_load_141 ?_
  refine s_dup2 hZ.1 dX5_load_142 ?_
  refine s_iald (tt := 0) rfl dX5_load_143 ?_
  refine s_iconst dX5_load_144 (by decide +kernel) ?_
  refine s_iadd dX5_load_145 ?_
  refine s_iast hZ.1 (tt := 0) rfl dX5_load_146 ?_
  exact s_goto dX5_load_147 (by decide) (wX5_load_316 hZ j hj)
noncomputable def vX5_load_127 (j : Nat → rx_K) : rx_K := o_ld rx_isR 6 (o_getf 10 4 (o_c1 rx_eq (vX5_load_150 j) (vX5_load_135 j)))
set_option maxRecDepth 20000 in
theorem wX5_load_127 (hZ : zO b e D A X) (j : Nat → rx_K) (hj : ∀ k pc, [20][k]? = some pc → rx_OK (zV b e D A X) mX5_load 1 pc (j k)) : rx_OK (zV b e D A X) mX5_load 1 127 (vX5_load_127 j) := by
  unfold vX5_load_127
  refine s_aload hZ.1 dX5_load_127 ?_
  refine yg10_4 dX5_load_129 zw794 ?_
  exact s_if_eq dX5_load_132 (by decide) (wX5_load_150 hZ j hj) (wX5_load_135 hZ j hj)
noncomputable def vX5_load_120 (j : Nat → rx_K) : rx_K := o_st rx_isI 8 (o_ld rx_isI 7 (o_c1 rx_eq (vX5_load_150 j) (vX5_load_127 j)))
set_option maxRecDepth 20000 in
theorem wX5_load_120 (hZ : zO b e D A X) (j : Nat → rx_K) (hj : ∀ k pc, [20][k]? = some pc → rx_OK (zV b e D A X) mX5_load 1 pc (j k)) : rx_OK (zV b e D A X) mX5_load 1 120 (vX5_load_120 j) := by
  unfold vX5_load_120
  refine s_istore hZ.1 dX5_load_120 (Nat.le_of_ble_eq_true rfl) ?_
  refine s_iload hZ.1 dX5_load_122 ?_
  exact s_if_eq dX5_load_124 (by decide) (wX5_load_150 hZ j hj) (wX5_load_127 hZ j hj)
noncomputable def vX5_load_118 (j : Nat → rx_K) : rx_K := o_const 34359738352 ((vX5_load_120 j))
set_option maxRecDepth 20000 in
theorem wX5_load_118 (hZ : zO b e D A X) (j : Nat → rx_K) (hj : ∀ k pc, [20][k]? = some pc → rx_OK (zV b e D A X) mX5_load 1 pc (j k)) : rx_OK (zV b e D A X) mX5_load 1 118 (vX5_load_118 j) := by
  unfold vX5_load_118
  refine s_bipush dX5_load_118 (by decide +kernel) ?_
  exact (wX5_load_120 hZ j hj)
noncomputable def vX5_load_98 (j : Nat → rx_K) : rx_K := o_ld rx_isR 0 (o_getf 5 0 (o_getf 11 5 (o_ld rx_isI 4 (o_const 32 (o_bi (fun x y => x * y) (o_ld rx_isI 5 (o_bi (fun x y => x + y) (o_const 8 (o_bi (fun x y => x - y) (o_ald 0 ((vX5_load_120 j))))))))))))
set_option maxRecDepth 20000 in
theorem wX5_load_98 (hZ : zO b e D A X) (j : Nat → rx_K) (hj : ∀ k pc, [20][k]? = some pc → rx_OK (zV b e D A X) mX5_load 1 pc (j k)) : rx_OK (zV b e D A X) mX5_load 1 98 (vX5_load_98 j) := by
  unfold vX5_load_98
  refine s_aload_n hZ.1 dX5_load_98 rfl ?_
  refine yg5_0 dX5_load_99 zw1350 ?_
  refine yg11_5 dX5_load_102 zw1273 ?_
  refine s_iload hZ.1 dX5_load_105 ?_
  refine s_iconst dX5_load_107 (by decide +kernel) ?_
  refine s_imul dX5_load_108 ?_
  refine s_iload hZ.1 dX5_load_109 ?_
  refine s_iadd dX5_load_111 ?_
  refine s_iconst dX5_load_112 (by decide +kernel) ?_
  refine s_isub dX5_load_113 ?_
  refine s_iald (tt := 0) rfl dX5_load_114 ?_
  exact s_goto dX5_load_115 (by decide) (wX5_load_120 hZ j hj)
noncomputable def vX5_load_92 (j : Nat → rx_K) : rx_K := o_ld rx_isI 5 (o_const 32 (o_c2 (fun h x y => rx_lt h y x) (vX5_load_118 j) (vX5_load_98 j)))
set_option maxRecDepth 20000 in
theorem wX5_load_92 (hZ : zO b e D A X) (j : Nat → rx_K) (hj : ∀ k pc, [20][k]? = some pc → rx_OK (zV b e D A X) mX5_load 1 pc (j k)) : rx_OK (zV b e D A X) mX5_load 1 92 (vX5_load_92 j) := by
  unfold vX5_load_92
  refine s_iload hZ.1 dX5_load_92 ?_
  refine s_iconst dX5_load_94 (by decide +kernel) ?_
  exact s_icmp_gt dX5_load_95 (by decide) (wX5_load_118 hZ j hj) (wX5_load_98 hZ j hj)
noncomputable def vX5_load_79 (j : Nat → rx_K) : rx_K := o_ld rx_isR 0 (o_getf 5 0 (o_getf 11 3 (o_ld rx_isI 4 (o_ald 0 ((vX5_load_120 j))))))
set_option maxRecDepth 20000 in
theorem wX5_load_79 (hZ : zO b e D A X) (j : Nat → rx_K) (hj : ∀ k pc, [20][k]? = some pc → rx_OK (zV b e D A X) mX5_load 1 pc (j k)) : rx_OK (zV b e D A X) mX5_load 1 79 (vX5_load_79 j) := by
  unfold vX5_load_79
  refine s_aload_n hZ.1 dX5_load_79 rfl ?_
  refine yg5_0 dX5_load_80 zw1350 ?_
  refine yg11_3 dX5_load_83 zw1264 ?_
  refine s_iload hZ.1 dX5_load_86 ?_
  refine s_iald (tt := 0) rfl dX5_load_88 ?_
  exact s_goto dX5_load_89 (by decide) (wX5_load_120 hZ j hj)
noncomputable def vX5_load_72 (j : Nat → rx_K) : rx_K := o_st rx_isI 7 (o_ld rx_isI 7 (o_c1 rx_eq (vX5_load_92 j) (vX5_load_79 j)))
set_option maxRecDepth 20000 in
theorem wX5_load_72 (hZ : zO b e D A X) (j : Nat → rx_K) (hj : ∀ k pc, [20][k]? = some pc → rx_OK (zV b e D A X) mX5_load 1 pc (j k)) : rx_OK (zV b e D A X) mX5_load 1 72 (vX5_load_72 j) := by
  unfold vX5_load_72
  refine s_istore hZ.1 dX5_load_72 (Nat.le_of_ble_eq_true rfl) ?_
  refine s_iload hZ.1 dX5_load_74 ?_
  exact s_if_eq dX5_load_76 (by decide) (wX5_load_92 hZ j hj) (wX5_load_79 hZ j hj)
noncomputable def vX5_load_71 (j : Nat → rx_K) : rx_K := o_const 0 ((vX5_load_72 j))
set_option maxRecDepth 20000 in
theorem wX5_load_71 (hZ : zO b e D A X) (j : Nat → rx_K) (hj : ∀ k pc, [20][k]? = some pc → rx_OK (zV b e D A X) mX5_load 1 pc (j k)) : rx_OK (zV b e D A X) mX5_load 1 71 (vX5_load_71 j) := by
  unfold vX5_load_71
  refine s_iconst dX5_load_71 (by decide +kernel) ?_
  exact (wX5_load_72 hZ j hj)
noncomputable def vX5_load_67 (j : Nat → rx_K) : rx_K := o_const 8 ((vX5_load_72 j))
set_option maxRecDepth 20000 in
theorem wX5_load_67 (hZ : zO b e D A X) (j : Nat → rx_K) (hj : ∀ k pc, [20][k]? = some pc → rx_OK (zV b e D A X) mX5_load 1 pc (j k)) : rx_OK (zV b e D A X) mX5_load 1 67 (vX5_load_67 j) := by
  unfold vX5_load_67
  refine s_iconst dX5_load_67 (by decide +kernel) ?_
  exact s_goto dX5_load_68 (by decide) (wX5_load_72 hZ j hj)
noncomputable def vX5_load_30 (j : Nat → rx_K) : rx_K := o_ld rx_isR 0 (o_getf 5 7 (o_ld rx_isI 2 (o_const 8 (o_bi (fun x y => x - y) (o_ald 0 (o_st rx_isI 4 (o_ld rx_isR 0 (o_getf 5 8 (o_ld rx_isI 2 (o_const 8 (o_bi (fun x y => x - y) (o_ald 0 (o_st rx_isI 5 (o_ld rx_isR 0 (o_getf 5 0 (o_getf 11 1 (o_ld rx_isI 4 (o_ald 4 (o_st rx_isR 6 (o_ld rx_isI 5 (o_c1 rx_eq (vX5_load_67 j) (vX5_load_71 j))))))))))))))))))))))
set_option maxRecDepth 20000 in
theorem wX5_load_30 (hZ : zO b e D A X) (j : Nat → rx_K) (hj : ∀ k pc, [20][k]? = some pc → rx_OK (zV b e D A X) mX5_load 1 pc (j k)) : rx_OK (zV b e D A X) mX5_load 1 30 (vX5_load_30 j) := by
  unfold vX5_load_30
  refine s_aload_n hZ.1 dX5_load_30 rfl ?_
  refine yg5_7 dX5_load_31 zw1362 ?_
  refine s_iload_n hZ.1 dX5_load_34 rfl ?_
  refine s_iconst dX5_load_35 (by decide +kernel) ?_
  refine s_isub dX5_load_36 ?_
  refine s_iald (tt := 0) rfl dX5_load_37 ?_
  refine s_istore hZ.1 dX5_load_38 (Nat.le_of_ble_eq_true rfl) ?_
  refine s_aload_n hZ.1 dX5_load_40 rfl ?_
  refine yg5_8 dX5_load_41 zw1363 ?_
  refine s_iload_n hZ.1 dX5_load_44 rfl ?_
  refine s_iconst dX5_load_45 (by decide +kernel) ?_
  refine s_isub dX5_load_46 ?_
  refine s_iald (tt := 0) rfl dX5_load_47 ?_
  refine s_istore hZ.1 dX5_load_48 (Nat.le_of_ble_eq_true rfl) ?_
  refine s_aload_n hZ.1 dX5_load_50 rfl ?_
  refine yg5_0 dX5_load_51 zw1350 ?_
  refine yg11_1 dX5_load_54 zw1253 ?_
  refine s_iload hZ.1 dX5_load_57 ?_
  refine s_aald (tt := 4) rfl rfl dX5_load_59 ?_
  refine s_astore hZ.1 dX5_load_60 (Nat.le_of_ble_eq_true rfl) ?_
  refine s_iload hZ.1 dX5_load_62 ?_
  exact s_if_ne dX5_load_64 (by decide) (wX5_load_71 hZ j hj) (wX5_load_67 hZ j hj)
noncomputable def vX5_load_26 (j : Nat → rx_K) : rx_K := o_ld rx_isI 2 (o_c1 (fun h x y => rx_lt h y x) (vX5_load_30 j) (vX5_load_322 j))
set_option maxRecDepth 20000 in
theorem wX5_load_26 (hZ : zO b e D A X) (j : Nat → rx_K) (hj : ∀ k pc, [20][k]? = some pc → rx_OK (zV b e D A X) mX5_load 1 pc (j k)) : rx_OK (zV b e D A X) mX5_load 1 26 (vX5_load_26 j) := by
  unfold vX5_load_26
  refine s_iload_n hZ.1 dX5_load_26 rfl ?_
  exact s_if_le dX5_load_27 (by decide) (wX5_load_322 hZ j hj) (wX5_load_30 hZ j hj)
noncomputable def vX5_load_20 (j : Nat → rx_K) : rx_K := o_ld rx_isI 3 (o_const 800000000 (o_c2 rx_lt (vX5_load_26 j) (vX5_load_322 j)))
set_option maxRecDepth 20000 in
theorem wX5_load_20 (hZ : zO b e D A X) (j : Nat → rx_K) (hj : ∀ k pc, [20][k]? = some pc → rx_OK (zV b e D A X) mX5_load 1 pc (j k)) : rx_OK (zV b e D A X) mX5_load 1 20 (vX5_load_20 j) := by
  unfold vX5_load_20
  refine s_iload_n hZ.1 dX5_load_20 rfl ?_
  refine s_ldc dX5_load_21 zw2500 (by decide +kernel) ?_
  exact s_icmp_ge dX5_load_23 (by decide) (wX5_load_322 hZ j hj) (wX5_load_26 hZ j hj)
noncomputable def vX5_load_18 (j : Nat → rx_K) : rx_K := o_const 0 (o_st rx_isI 3 ((vX5_load_20 j)))
set_option maxRecDepth 20000 in
theorem wX5_load_18 (hZ : zO b e D A X) (j : Nat → rx_K) (hj : ∀ k pc, [20][k]? = some pc → rx_OK (zV b e D A X) mX5_load 1 pc (j k)) : rx_OK (zV b e D A X) mX5_load 1 18 (vX5_load_18 j) := by
  unfold vX5_load_18
  refine s_iconst dX5_load_18 (by decide +kernel) ?_
  refine s_istore_n hZ.1 dX5_load_19 rfl (Nat.le_of_ble_eq_true rfl) ?_
  exact (wX5_load_20 hZ j hj)
noncomputable def vX5_load_11 (j : Nat → rx_K) : rx_K := o_ld rx_isR 0 (o_ld rx_isI 1 (o_const 0 (o_callV 2 5 FX5_openLoad (o_st rx_isI 2 ((vX5_load_18 j))))))
set_option maxRecDepth 20000 in
theorem wX5_load_11 (hZ : zO b e D A X) (j : Nat → rx_K) (hj : ∀ k pc, [20][k]? = some pc → rx_OK (zV b e D A X) mX5_load 1 pc (j k)) : rx_OK (zV b e D A X) mX5_load 1 11 (vX5_load_11 j) := by
  unfold vX5_load_11
  refine s_aload_n hZ.1 dX5_load_11 rfl ?_
  refine s_iload_n hZ.1 dX5_load_12 rfl ?_
  refine s_iconst dX5_load_13 (by decide +kernel) ?_
  refine s_callV hZ.1 (Met_X5_openLoad hZ) (Nat.le_of_ble_eq_true rfl) vy_X5_openLoad zcl5 zw2498 zw127 (Or.inl zw2496) dX5_load_14 ?_
  refine s_istore_n hZ.1 dX5_load_17 rfl (Nat.le_of_ble_eq_true rfl) ?_
  exact (wX5_load_18 hZ j hj)
noncomputable def vX5_load_0 (j : Nat → rx_K) : rx_K := o_const 0 (o_st rx_isI 2 (o_ld rx_isR 0 (o_getf 5 1 (o_ld rx_isI 1 (o_ald 0 (o_c1 rx_eq (vX5_load_11 j) (vX5_load_18 j)))))))
set_option maxRecDepth 20000 in
theorem wX5_load_0 (hZ : zO b e D A X) (j : Nat → rx_K) (hj : ∀ k pc, [20][k]? = some pc → rx_OK (zV b e D A X) mX5_load 1 pc (j k)) : rx_OK (zV b e D A X) mX5_load 1 0 (vX5_load_0 j) := by
  unfold vX5_load_0
  refine s_iconst dX5_load_0 (by decide +kernel) ?_
  refine s_istore_n hZ.1 dX5_load_1 rfl (Nat.le_of_ble_eq_true rfl) ?_
  refine s_aload_n hZ.1 dX5_load_2 rfl ?_
  refine yg5_1 dX5_load_3 zw1351 ?_
  refine s_iload_n hZ.1 dX5_load_6 rfl ?_
  refine s_iald (tt := 0) rfl dX5_load_7 ?_
  exact s_if_ne dX5_load_8 (by decide) (wX5_load_18 hZ j hj) (wX5_load_11 hZ j hj)
noncomputable def vhX5_load (j : Nat → rx_K) : List rx_K := [vX5_load_20 j]
theorem vlX5_load (hZ : zO b e D A X) : ∀ n k pc, [20][k]? = some pc → rx_OK (zV b e D A X) mX5_load 1 pc (rx_J (vhX5_load) n k) := rx_loop fun j hj k pc h => by
  match k, h with
  | 0, h =>
    have e9 := Option.some.inj (show some 20 = some pc from h)
    subst e9
    exact wX5_load_20 hZ j hj
  | _ + 1, h => exact absurd h (by simp)
noncomputable def FX5_load : List Nat → rx_H → Option (Nat × rx_H) := rx_ent 10 (vX5_load_0 (rx_J (vhX5_load) 4000000000))
theorem Met_X5_load (hZ : zO b e D A X) : rx_Met (zV b e D A X) 1 yX5_load mX5_load (FX5_load) := rx_entry hZ.1 (wX5_load_0 hZ _ (vlX5_load hZ 4000000000)) (by decide +kernel) rfl (fun h => by cases h)
end ZM16

section ZM48
variable {b : Nat} {e : Nat → Value} {D : va_G} {A : Nat → ClassId} {X : State → Prop}
abbrev mX13_head : rx_M := (RX13, cX13_head, 4, none, false)
theorem vy_X13_head : rx_Y (zV b e D A X) yX13_head mX13_head 1 := ⟨zw3171, zw431, by decide, by decide +kernel, by decide +kernel, by decide +kernel⟩
noncomputable def vX13_head_424 (j : Nat → rx_K) : rx_K := o_ret0
set_option maxRecDepth 20000 in
theorem wX13_head_424 (hZ : zO b e D A X) (j : Nat → rx_K) (hj : ∀ k pc, [119, 292, 368][k]? = some pc → rx_OK (zV b e D A X) mX13_head 5 pc (j k)) : rx_OK (zV b e D A X) mX13_head 5 424 (vX13_head_424 j) := by
  unfold vX13_head_424
  exact s_vret rfl dX13_head_424
noncomputable def vX13_head_418 (j : Nat → rx_K) : rx_K := o_inc 2 (1) ((j 2))
set_option maxRecDepth 20000 in
theorem wX13_head_418 (hZ : zO b e D A X) (j : Nat → rx_K) (hj : ∀ k pc, [119, 292, 368][k]? = some pc → rx_OK (zV b e D A X) mX13_head 5 pc (j k)) : rx_OK (zV b e D A X) mX13_head 5 418 (vX13_head_418 j) := by
  unfold vX13_head_418
  refine s_iinc hZ.1 dX13_head_418 (Nat.le_of_ble_eq_true rfl) ?_
  exact s_goto dX13_head_421 (by decide) (hj 2 368 rfl)
noncomputable def vX13_head_402 (j : Nat → rx_K) : rx_K := o_ld rx_isR 0 (o_const 40 (o_ld rx_isR 0 (o_getf 13 39 (o_const 64 (o_ld rx_isI 1 (o_bi (fun x y => x * y) (o_ld rx_isI 2 (o_bi (fun x y => x + y) (o_ald 0 (o_callV 2 13 FX13_fault ((vX13_head_418 j))))))))))))
set_option maxRecDepth 20000 in
theorem wX13_head_402 (hZ : zO b e D A X) (j : Nat → rx_K) (hj : ∀ k pc, [119, 292, 368][k]? = some pc → rx_OK (zV b e D A X) mX13_head 5 pc (j k)) : rx_OK (zV b e D A X) mX13_head 5 402 (vX13_head_402 j) := by
  unfold vX13_head_402
  refine s_aload_n hZ.1 dX13_head_402 rfl ?_
  refine s_iconst dX13_head_403 (by decide +kernel) ?_
  refine s_aload_n hZ.1 dX13_head_404 rfl ?_
  refine yg13_39 dX13_head_405 zw4160 ?_
  refine s_bipush dX13_head_408 (by decide +kernel) ?_
  refine s_iload_n hZ.1 dX13_head_410 rfl ?_
  refine s_imul dX13_head_411 ?_
  refine s_iload_n hZ.1 dX13_head_412 rfl ?_
  refine s_iadd dX13_head_413 ?_
  refine s_iald (tt := 0) rfl dX13_head_414 ?_
  refine s_callV hZ.1 (Met_X13_fault hZ) (Nat.le_of_ble_eq_true rfl) vy_X13_fault zcl13 zw3004 zw190 (Or.inl zw3002) dX13_head_415 ?_
  exact (wX13_head_418 hZ j hj)
noncomputable def vX13_head_378 (j : Nat → rx_K) : rx_K := o_ld rx_isR 0 (o_ld rx_isR 0 (o_getf 13 19 (o_ld rx_isR 0 (o_getf 13 38 (o_const 64 (o_ld rx_isI 1 (o_bi (fun x y => x * y) (o_ld rx_isI 2 (o_bi (fun x y => x + y) (o_ald 1 (o_callV 2 13 FX13_inSlot (o_const 34359738352 (o_c2 rx_eq (vX13_head_402 j) (vX13_head_418 j))))))))))))))
set_option maxRecDepth 20000 in
theorem wX13_head_378 (hZ : zO b e D A X) (j : Nat → rx_K) (hj : ∀ k pc, [119, 292, 368][k]? = some pc → rx_OK (zV b e D A X) mX13_head 5 pc (j k)) : rx_OK (zV b e D A X) mX13_head 5 378 (vX13_head_378 j) := by
  unfold vX13_head_378
  refine s_aload_n hZ.1 dX13_head_378 rfl ?_
  refine s_aload_n hZ.1 dX13_head_379 rfl ?_
  refine yg13_19 dX13_head_380 zw4140 ?_
  refine s_aload_n hZ.1 dX13_head_383 rfl ?_
  refine yg13_38 dX13_head_384 zw4159 ?_
  refine s_bipush dX13_head_387 (by decide +kernel) ?_
  refine s_iload_n hZ.1 dX13_head_389 rfl ?_
  refine s_imul dX13_head_390 ?_
  refine s_iload_n hZ.1 dX13_head_391 rfl ?_
  refine s_iadd dX13_head_392 ?_
  refine s_lald (tt := 1) rfl dX13_head_393 ?_
  refine s_callV hZ.1 (Met_X13_inSlot hZ) (Nat.le_of_ble_eq_true rfl) vy_X13_inSlot zcl13 zw3174 zw225 (Or.inl zw3172) dX13_head_394 ?_
  refine s_bipush dX13_head_397 (by decide +kernel) ?_
  exact s_icmp_ne dX13_head_399 (by decide) (wX13_head_418 hZ j hj) (wX13_head_402 hZ j hj)
noncomputable def vX13_head_368 (j : Nat → rx_K) : rx_K := o_ld rx_isI 2 (o_ld rx_isR 0 (o_getf 13 40 (o_ld rx_isI 1 (o_ald 0 (o_c2 rx_lt (vX13_head_378 j) (vX13_head_424 j))))))
set_option maxRecDepth 20000 in
theorem wX13_head_368 (hZ : zO b e D A X) (j : Nat → rx_K) (hj : ∀ k pc, [119, 292, 368][k]? = some pc → rx_OK (zV b e D A X) mX13_head 5 pc (j k)) : rx_OK (zV b e D A X) mX13_head 5 368 (vX13_head_368 j) := by
  unfold vX13_head_368
  refine s_iload_n hZ.1 dX13_head_368 rfl ?_
  refine s_aload_n hZ.1 dX13_head_369 rfl ?_
  refine yg13_40 dX13_head_370 zw4161 ?_
  refine s_iload_n hZ.1 dX13_head_373 rfl ?_
  refine s_iald (tt := 0) rfl dX13_head_374 ?_
  exact s_icmp_ge dX13_head_375 (by decide) (wX13_head_424 hZ j hj) (wX13_head_378 hZ j hj)
noncomputable def vX13_head_366 (j : Nat → rx_K) : rx_K := o_const 0 (o_st rx_isI 2 ((vX13_head_368 j)))
set_option maxRecDepth 20000 in
theorem wX13_head_366 (hZ : zO b e D A X) (j : Nat → rx_K) (hj : ∀ k pc, [119, 292, 368][k]? = some pc → rx_OK (zV b e D A X) mX13_head 5 pc (j k)) : rx_OK (zV b e D A X) mX13_head 5 366 (vX13_head_366 j) := by
  unfold vX13_head_366
  refine s_iconst dX13_head_366 (by decide +kernel) ?_
  refine s_istore_n hZ.1 dX13_head_367 rfl (Nat.le_of_ble_eq_true rfl) ?_
  exact (wX13_head_368 hZ j hj)
noncomputable def vX13_head_360 (j : Nat → rx_K) : rx_K := o_inc 2 (1) ((j 1))
set_option maxRecDepth 20000 in
theorem wX13_head_360 (hZ : zO b e D A X) (j : Nat → rx_K) (hj : ∀ k pc, [119, 292, 368][k]? = some pc → rx_OK (zV b e D A X) mX13_head 5 pc (j k)) : rx_OK (zV b e D A X) mX13_head 5 360 (vX13_head_360 j) := by
  unfold vX13_head_360
  refine s_iinc hZ.1 dX13_head_360 (Nat.le_of_ble_eq_true rfl) ?_
  exact s_goto dX13_head_363 (by decide) (hj 1 292 rfl)
noncomputable def vX13_head_344 (j : Nat → rx_K) : rx_K := o_ld rx_isR 0 (o_const 40 (o_ld rx_isR 0 (o_getf 13 36 (o_const 64 (o_ld rx_isI 1 (o_bi (fun x y => x * y) (o_ld rx_isI 2 (o_bi (fun x y => x + y) (o_ald 0 (o_callV 2 13 FX13_fault ((vX13_head_360 j))))))))))))
set_option maxRecDepth 20000 in
theorem wX13_head_344 (hZ : zO b e D A X) (j : Nat → rx_K) (hj : ∀ k pc, [119, 292, 368][k]? = some pc → rx_OK (zV b e D A X) mX13_head 5 pc (j k)) : rx_OK (zV b e D A X) mX13_head 5 344 (vX13_head_344 j) := by
  unfold vX13_head_344
  refine s_aload_n hZ.1 dX13_head_344 rfl ?_
  refine s_iconst dX13_head_345 (by decide +kernel) ?_
  refine s_aload_n hZ.1 dX13_head_346 rfl ?_
  refine yg13_36 dX13_head_347 zw4157 ?_
  refine s_bipush dX13_head_350 (by decide +kernel) ?_
  refine s_iload_n hZ.1 dX13_head_352 rfl ?_
  refine s_imul dX13_head_353 ?_
  refine s_iload_n hZ.1 dX13_head_354 rfl ?_
  refine s_iadd dX13_head_355 ?_
  refine s_iald (tt := 0) rfl dX13_head_356 ?_
  refine s_callV hZ.1 (Met_X13_fault hZ) (Nat.le_of_ble_eq_true rfl) vy_X13_fault zcl13 zw3004 zw190 (Or.inl zw3002) dX13_head_357 ?_
  exact (wX13_head_360 hZ j hj)
noncomputable def vX13_head_328 (j : Nat → rx_K) : rx_K := o_ld rx_isR 0 (o_getf 13 33 (o_ld rx_isI 3 (o_ald 1 (o_ld rx_isR 0 (o_getf 13 24 (o_ld rx_isI 1 (o_ald 1 (o_bc (fun x y => lg_cmp x y) (o_c1 rx_eq (vX13_head_360 j) (vX13_head_344 j))))))))))
set_option maxRecDepth 20000 in
theorem wX13_head_328 (hZ : zO b e D A X) (j : Nat → rx_K) (hj : ∀ k pc, [119, 292, 368][k]? = some pc → rx_OK (zV b e D A X) mX13_head 5 pc (j k)) : rx_OK (zV b e D A X) mX13_head 5 328 (vX13_head_328 j) := by
  unfold vX13_head_328
  refine s_aload_n hZ.1 dX13_head_328 rfl ?_
  refine yg13_33 dX13_head_329 zw4154 ?_
  refine s_iload_n hZ.1 dX13_head_332 rfl ?_
  refine s_lald (tt := 1) rfl dX13_head_333 ?_
  refine s_aload_n hZ.1 dX13_head_334 rfl ?_
  refine yg13_24 dX13_head_335 zw4145 ?_
  refine s_iload_n hZ.1 dX13_head_338 rfl ?_
  refine s_lald (tt := 1) rfl dX13_head_339 ?_
  refine s_lcmp dX13_head_340 ?_
  exact s_if_eq dX13_head_341 (by decide) (wX13_head_360 hZ j hj) (wX13_head_344 hZ j hj)
noncomputable def vX13_head_302 (j : Nat → rx_K) : rx_K := o_ld rx_isR 0 (o_ld rx_isR 0 (o_getf 13 19 (o_ld rx_isR 0 (o_getf 13 35 (o_const 64 (o_ld rx_isI 1 (o_bi (fun x y => x * y) (o_ld rx_isI 2 (o_bi (fun x y => x + y) (o_ald 1 (o_callV 2 13 FX13_inSlot (o_st rx_isI 3 (o_ld rx_isI 3 (o_const 34359738352 (o_c2 rx_eq (vX13_head_344 j) (vX13_head_328 j))))))))))))))))
set_option maxRecDepth 20000 in
theorem wX13_head_302 (hZ : zO b e D A X) (j : Nat → rx_K) (hj : ∀ k pc, [119, 292, 368][k]? = some pc → rx_OK (zV b e D A X) mX13_head 5 pc (j k)) : rx_OK (zV b e D A X) mX13_head 5 302 (vX13_head_302 j) := by
  unfold vX13_head_302
  refine s_aload_n hZ.1 dX13_head_302 rfl ?_
  refine s_aload_n hZ.1 dX13_head_303 rfl ?_
  refine yg13_19 dX13_head_304 zw4140 ?_
  refine s_aload_n hZ.1 dX13_head_307 rfl ?_
  refine yg13_35 dX13_head_308 zw4156 ?_
  refine s_bipush dX13_head_311 (by decide +kernel) ?_
  refine s_iload_n hZ.1 dX13_head_313 rfl ?_
  refine s_imul dX13_head_314 ?_
  refine s_iload_n hZ.1 dX13_head_315 rfl ?_
  refine s_iadd dX13_head_316 ?_
  refine s_lald (tt := 1) rfl dX13_head_317 ?_
  refine s_callV hZ.1 (Met_X13_inSlot hZ) (Nat.le_of_ble_eq_true rfl) vy_X13_inSlot zcl13 zw3174 zw225 (Or.inl zw3172) dX13_head_318 ?_
  refine s_istore_n hZ.1 dX13_head_321 rfl (Nat.le_of_ble_eq_true rfl) ?_
  refine s_iload_n hZ.1 dX13_head_322 rfl ?_
  refine s_bipush dX13_head_323 (by decide +kernel) ?_
  exact s_icmp_eq dX13_head_325 (by decide) (wX13_head_344 hZ j hj) (wX13_head_328 hZ j hj)
noncomputable def vX13_head_292 (j : Nat → rx_K) : rx_K := o_ld rx_isI 2 (o_ld rx_isR 0 (o_getf 13 37 (o_ld rx_isI 1 (o_ald 0 (o_c2 rx_lt (vX13_head_302 j) (vX13_head_366 j))))))
set_option maxRecDepth 20000 in
theorem wX13_head_292 (hZ : zO b e D A X) (j : Nat → rx_K) (hj : ∀ k pc, [119, 292, 368][k]? = some pc → rx_OK (zV b e D A X) mX13_head 5 pc (j k)) : rx_OK (zV b e D A X) mX13_head 5 292 (vX13_head_292 j) := by
  unfold vX13_head_292
  refine s_iload_n hZ.1 dX13_head_292 rfl ?_
  refine s_aload_n hZ.1 dX13_head_293 rfl ?_
  refine yg13_37 dX13_head_294 zw4158 ?_
  refine s_iload_n hZ.1 dX13_head_297 rfl ?_
  refine s_iald (tt := 0) rfl dX13_head_298 ?_
  exact s_icmp_ge dX13_head_299 (by decide) (wX13_head_366 hZ j hj) (wX13_head_302 hZ j hj)
noncomputable def vX13_head_290 (j : Nat → rx_K) : rx_K := o_const 0 (o_st rx_isI 2 ((vX13_head_292 j)))
set_option maxRecDepth 20000 in
theorem wX13_head_290 (hZ : zO b e D A X) (j : Nat → rx_K) (hj : ∀ k pc, [119, 292, 368][k]? = some pc → rx_OK (zV b e D A X) mX13_head 5 pc (j k)) : rx_OK (zV b e D A X) mX13_head 5 290 (vX13_head_290 j) := by
  unfold vX13_head_290
  refine s_iconst dX13_head_290 (by decide +kernel) ?_
  refine s_istore_n hZ.1 dX13_head_291 rfl (Nat.le_of_ble_eq_true rfl) ?_
  exact (wX13_head_292 hZ j hj)
noncomputable def vX13_head_279 (j : Nat → rx_K) : rx_K := o_ld rx_isR 0 (o_const 40 (o_ld rx_isR 0 (o_getf 13 34 (o_ld rx_isI 1 (o_ald 0 (o_callV 2 13 FX13_fault ((vX13_head_290 j))))))))
set_option maxRecDepth 20000 in
theorem wX13_head_279 (hZ : zO b e D A X) (j : Nat → rx_K) (hj : ∀ k pc, [119, 292, 368][k]? = some pc → rx_OK (zV b e D A X) mX13_head 5 pc (j k)) : rx_OK (zV b e D A X) mX13_head 5 279 (vX13_head_279 j) := by
  unfold vX13_head_279
  refine s_aload_n hZ.1 dX13_head_279 rfl ?_
  refine s_iconst dX13_head_280 (by decide +kernel) ?_
  refine s_aload_n hZ.1 dX13_head_281 rfl ?_
  refine yg13_34 dX13_head_282 zw4155 ?_
  refine s_iload_n hZ.1 dX13_head_285 rfl ?_
  refine s_iald (tt := 0) rfl dX13_head_286 ?_
  refine s_callV hZ.1 (Met_X13_fault hZ) (Nat.le_of_ble_eq_true rfl) vy_X13_fault zcl13 zw3004 zw190 (Or.inl zw3002) dX13_head_287 ?_
  exact (wX13_head_290 hZ j hj)
noncomputable def vX13_head_253 (j : Nat → rx_K) : rx_K := o_ld rx_isR 0 (o_getf 13 35 (o_const 64 (o_ld rx_isI 2 (o_bi (fun x y => x * y) (o_ld rx_isR 0 (o_getf 13 37 (o_ld rx_isI 2 (o_ald 0 (o_ld rx_isR 0 (o_getf 13 24 (o_ld rx_isI 1 (o_ald 1 (o_callS 4 FX13_stands (o_c1 rx_eq (vX13_head_279 j) (vX13_head_290 j)))))))))))))))
set_option maxRecDepth 20000 in
theorem wX13_head_253 (hZ : zO b e D A X) (j : Nat → rx_K) (hj : ∀ k pc, [119, 292, 368][k]? = some pc → rx_OK (zV b e D A X) mX13_head 5 pc (j k)) : rx_OK (zV b e D A X) mX13_head 5 253 (vX13_head_253 j) := by
  unfold vX13_head_253
  refine s_aload_n hZ.1 dX13_head_253 rfl ?_
  refine yg13_35 dX13_head_254 zw4156 ?_
  refine s_bipush dX13_head_257 (by decide +kernel) ?_
  refine s_iload_n hZ.1 dX13_head_259 rfl ?_
  refine s_imul dX13_head_260 ?_
  refine s_aload_n hZ.1 dX13_head_261 rfl ?_
  refine yg13_37 dX13_head_262 zw4158 ?_
  refine s_iload_n hZ.1 dX13_head_265 rfl ?_
  refine s_iald (tt := 0) rfl dX13_head_266 ?_
  refine s_aload_n hZ.1 dX13_head_267 rfl ?_
  refine yg13_24 dX13_head_268 zw4145 ?_
  refine s_iload_n hZ.1 dX13_head_271 rfl ?_
  refine s_lald (tt := 1) rfl dX13_head_272 ?_
  refine s_callS hZ.1 (Met_X13_stands hZ) (Nat.le_of_ble_eq_true rfl) vy_X13_stands zw3207 (Or.inl zw3206) dX13_head_273 ?_
  exact s_if_ne dX13_head_276 (by decide) (wX13_head_290 hZ j hj) (wX13_head_279 hZ j hj)
noncomputable def vX13_head_244 (j : Nat → rx_K) : rx_K := o_ld rx_isR 0 (o_ld rx_isI 2 (o_ld rx_isI 1 (o_callV 2 13 FX13_onePackage (o_c1 rx_eq (vX13_head_279 j) (vX13_head_253 j)))))
set_option maxRecDepth 20000 in
theorem wX13_head_244 (hZ : zO b e D A X) (j : Nat → rx_K) (hj : ∀ k pc, [119, 292, 368][k]? = some pc → rx_OK (zV b e D A X) mX13_head 5 pc (j k)) : rx_OK (zV b e D A X) mX13_head 5 244 (vX13_head_244 j) := by
  unfold vX13_head_244
  refine s_aload_n hZ.1 dX13_head_244 rfl ?_
  refine s_iload_n hZ.1 dX13_head_245 rfl ?_
  refine s_iload_n hZ.1 dX13_head_246 rfl ?_
  refine s_callV hZ.1 (Met_X13_onePackage hZ) (Nat.le_of_ble_eq_true rfl) vy_X13_onePackage zcl13 zw3204 zw230 (Or.inl zw3202) dX13_head_247 ?_
  exact s_if_eq dX13_head_250 (by decide) (wX13_head_279 hZ j hj) (wX13_head_253 hZ j hj)
noncomputable def vX13_head_223 (j : Nat → rx_K) : rx_K := o_ld rx_isR 0 (o_ld rx_isR 0 (o_getf 13 19 (o_ld rx_isR 0 (o_getf 13 33 (o_ld rx_isI 1 (o_ald 1 (o_callV 2 13 FX13_inSlot (o_st rx_isI 2 (o_ld rx_isI 2 (o_const 34359738352 (o_c2 rx_eq (vX13_head_279 j) (vX13_head_244 j))))))))))))
set_option maxRecDepth 20000 in
theorem wX13_head_223 (hZ : zO b e D A X) (j : Nat → rx_K) (hj : ∀ k pc, [119, 292, 368][k]? = some pc → rx_OK (zV b e D A X) mX13_head 5 pc (j k)) : rx_OK (zV b e D A X) mX13_head 5 223 (vX13_head_223 j) := by
  unfold vX13_head_223
  refine s_aload_n hZ.1 dX13_head_223 rfl ?_
  refine s_aload_n hZ.1 dX13_head_224 rfl ?_
  refine yg13_19 dX13_head_225 zw4140 ?_
  refine s_aload_n hZ.1 dX13_head_228 rfl ?_
  refine yg13_33 dX13_head_229 zw4154 ?_
  refine s_iload_n hZ.1 dX13_head_232 rfl ?_
  refine s_lald (tt := 1) rfl dX13_head_233 ?_
  refine s_callV hZ.1 (Met_X13_inSlot hZ) (Nat.le_of_ble_eq_true rfl) vy_X13_inSlot zcl13 zw3174 zw225 (Or.inl zw3172) dX13_head_234 ?_
  refine s_istore_n hZ.1 dX13_head_237 rfl (Nat.le_of_ble_eq_true rfl) ?_
  refine s_iload_n hZ.1 dX13_head_238 rfl ?_
  refine s_bipush dX13_head_239 (by decide +kernel) ?_
  exact s_icmp_eq dX13_head_241 (by decide) (wX13_head_279 hZ j hj) (wX13_head_244 hZ j hj)
noncomputable def vX13_head_212 (j : Nat → rx_K) : rx_K := o_ld rx_isR 0 (o_getf 13 33 (o_ld rx_isI 1 (o_ald 1 (o_const 1 (o_bc (fun x y => lg_cmp x y) (o_c1 rx_eq (vX13_head_290 j) (vX13_head_223 j)))))))
set_option maxRecDepth 20000 in
theorem wX13_head_212 (hZ : zO b e D A X) (j : Nat → rx_K) (hj : ∀ k pc, [119, 292, 368][k]? = some pc → rx_OK (zV b e D A X) mX13_head 5 pc (j k)) : rx_OK (zV b e D A X) mX13_head 5 212 (vX13_head_212 j) := by
  unfold vX13_head_212
  refine s_aload_n hZ.1 dX13_head_212 rfl ?_
  refine yg13_33 dX13_head_213 zw4154 ?_
  refine s_iload_n hZ.1 dX13_head_216 rfl ?_
  refine s_lald (tt := 1) rfl dX13_head_217 ?_
  refine s_lconst dX13_head_218 (by decide +kernel) ?_
  refine s_lcmp dX13_head_219 ?_
  exact s_if_eq dX13_head_220 (by decide) (wX13_head_290 hZ j hj) (wX13_head_223 hZ j hj)
noncomputable def vX13_head_206 (j : Nat → rx_K) : rx_K := o_inc 2 (1) ((j 0))
set_option maxRecDepth 20000 in
theorem wX13_head_206 (hZ : zO b e D A X) (j : Nat → rx_K) (hj : ∀ k pc, [119, 292, 368][k]? = some pc → rx_OK (zV b e D A X) mX13_head 5 pc (j k)) : rx_OK (zV b e D A X) mX13_head 5 206 (vX13_head_206 j) := by
  unfold vX13_head_206
  refine s_iinc hZ.1 dX13_head_206 (Nat.le_of_ble_eq_true rfl) ?_
  exact s_goto dX13_head_209 (by decide) (hj 0 119 rfl)
noncomputable def vX13_head_191 (j : Nat → rx_K) : rx_K := o_ld rx_isR 0 (o_const 40 (o_ld rx_isR 0 (o_getf 13 31 (o_const 32 (o_ld rx_isI 1 (o_bi (fun x y => x * y) (o_ld rx_isI 2 (o_bi (fun x y => x + y) (o_ald 0 (o_callV 2 13 FX13_fault ((vX13_head_206 j))))))))))))
set_option maxRecDepth 20000 in
theorem wX13_head_191 (hZ : zO b e D A X) (j : Nat → rx_K) (hj : ∀ k pc, [119, 292, 368][k]? = some pc → rx_OK (zV b e D A X) mX13_head 5 pc (j k)) : rx_OK (zV b e D A X) mX13_head 5 191 (vX13_head_191 j) := by
  unfold vX13_head_191
  refine s_aload_n hZ.1 dX13_head_191 rfl ?_
  refine s_iconst dX13_head_192 (by decide +kernel) ?_
  refine s_aload_n hZ.1 dX13_head_193 rfl ?_
  refine yg13_31 dX13_head_194 zw4152 ?_
  refine s_iconst dX13_head_197 (by decide +kernel) ?_
  refine s_iload_n hZ.1 dX13_head_198 rfl ?_
  refine s_imul dX13_head_199 ?_
  refine s_iload_n hZ.1 dX13_head_200 rfl ?_
  refine s_iadd dX13_head_201 ?_
  refine s_iald (tt := 0) rfl dX13_head_202 ?_
  refine s_callV hZ.1 (Met_X13_fault hZ) (Nat.le_of_ble_eq_true rfl) vy_X13_fault zcl13 zw3004 zw190 (Or.inl zw3002) dX13_head_203 ?_
  exact (wX13_head_206 hZ j hj)
noncomputable def vX13_head_167 (j : Nat → rx_K) : rx_K := o_ld rx_isR 0 (o_getf 13 30 (o_const 32 (o_ld rx_isI 1 (o_bi (fun x y => x * y) (o_ld rx_isI 2 (o_ld rx_isR 0 (o_getf 13 30 (o_const 32 (o_ld rx_isI 1 (o_bi (fun x y => x * y) (o_ld rx_isI 2 (o_bi (fun x y => x + y) (o_ald 1 (o_callS 4 FX13_stands (o_c1 rx_eq (vX13_head_206 j) (vX13_head_191 j))))))))))))))))
set_option maxRecDepth 20000 in
theorem wX13_head_167 (hZ : zO b e D A X) (j : Nat → rx_K) (hj : ∀ k pc, [119, 292, 368][k]? = some pc → rx_OK (zV b e D A X) mX13_head 5 pc (j k)) : rx_OK (zV b e D A X) mX13_head 5 167 (vX13_head_167 j) := by
  unfold vX13_head_167
  refine s_aload_n hZ.1 dX13_head_167 rfl ?_
  refine yg13_30 dX13_head_168 zw4151 ?_
  refine s_iconst dX13_head_171 (by decide +kernel) ?_
  refine s_iload_n hZ.1 dX13_head_172 rfl ?_
  refine s_imul dX13_head_173 ?_
  refine s_iload_n hZ.1 dX13_head_174 rfl ?_
  refine s_aload_n hZ.1 dX13_head_175 rfl ?_
  refine yg13_30 dX13_head_176 zw4151 ?_
  refine s_iconst dX13_head_179 (by decide +kernel) ?_
  refine s_iload_n hZ.1 dX13_head_180 rfl ?_
  refine s_imul dX13_head_181 ?_
  refine s_iload_n hZ.1 dX13_head_182 rfl ?_
  refine s_iadd dX13_head_183 ?_
  refine s_lald (tt := 1) rfl dX13_head_184 ?_
  refine s_callS hZ.1 (Met_X13_stands hZ) (Nat.le_of_ble_eq_true rfl) vy_X13_stands zw3207 (Or.inl zw3206) dX13_head_185 ?_
  exact s_if_eq dX13_head_188 (by decide) (wX13_head_206 hZ j hj) (wX13_head_191 hZ j hj)
noncomputable def vX13_head_158 (j : Nat → rx_K) : rx_K := o_ld rx_isR 0 (o_ld rx_isI 3 (o_ld rx_isI 1 (o_callV 2 13 FX13_letsBelow (o_c1 rx_eq (vX13_head_191 j) (vX13_head_167 j)))))
set_option maxRecDepth 20000 in
theorem wX13_head_158 (hZ : zO b e D A X) (j : Nat → rx_K) (hj : ∀ k pc, [119, 292, 368][k]? = some pc → rx_OK (zV b e D A X) mX13_head 5 pc (j k)) : rx_OK (zV b e D A X) mX13_head 5 158 (vX13_head_158 j) := by
  unfold vX13_head_158
  refine s_aload_n hZ.1 dX13_head_158 rfl ?_
  refine s_iload_n hZ.1 dX13_head_159 rfl ?_
  refine s_iload_n hZ.1 dX13_head_160 rfl ?_
  refine s_callV hZ.1 (Met_X13_letsBelow hZ) (Nat.le_of_ble_eq_true rfl) vy_X13_letsBelow zcl13 zw3196 zw228 (Or.inl zw3194) dX13_head_161 ?_
  exact s_if_eq dX13_head_164 (by decide) (wX13_head_191 hZ j hj) (wX13_head_167 hZ j hj)
noncomputable def vX13_head_150 (j : Nat → rx_K) : rx_K := o_ld rx_isR 0 (o_ld rx_isI 3 (o_callV 1 13 FX13_isFace (o_c1 rx_eq (vX13_head_191 j) (vX13_head_158 j))))
set_option maxRecDepth 20000 in
theorem wX13_head_150 (hZ : zO b e D A X) (j : Nat → rx_K) (hj : ∀ k pc, [119, 292, 368][k]? = some pc → rx_OK (zV b e D A X) mX13_head 5 pc (j k)) : rx_OK (zV b e D A X) mX13_head 5 150 (vX13_head_150 j) := by
  unfold vX13_head_150
  refine s_aload_n hZ.1 dX13_head_150 rfl ?_
  refine s_iload_n hZ.1 dX13_head_151 rfl ?_
  refine s_callV hZ.1 (Met_X13_isFace hZ) (Nat.le_of_ble_eq_true rfl) vy_X13_isFace zcl13 zw3192 zw227 (Or.inl zw3190) dX13_head_152 ?_
  exact s_if_eq dX13_head_155 (by decide) (wX13_head_191 hZ j hj) (wX13_head_158 hZ j hj)
noncomputable def vX13_head_129 (j : Nat → rx_K) : rx_K := o_ld rx_isR 0 (o_ld rx_isR 0 (o_getf 13 30 (o_const 32 (o_ld rx_isI 1 (o_bi (fun x y => x * y) (o_ld rx_isI 2 (o_bi (fun x y => x + y) (o_ald 1 (o_callV 1 13 FX13_find (o_st rx_isI 3 (o_ld rx_isI 3 (o_const 34359738352 (o_c2 rx_eq (vX13_head_191 j) (vX13_head_150 j))))))))))))))
set_option maxRecDepth 20000 in
theorem wX13_head_129 (hZ : zO b e D A X) (j : Nat → rx_K) (hj : ∀ k pc, [119, 292, 368][k]? = some pc → rx_OK (zV b e D A X) mX13_head 5 pc (j k)) : rx_OK (zV b e D A X) mX13_head 5 129 (vX13_head_129 j) := by
  unfold vX13_head_129
  refine s_aload_n hZ.1 dX13_head_129 rfl ?_
  refine s_aload_n hZ.1 dX13_head_130 rfl ?_
  refine yg13_30 dX13_head_131 zw4151 ?_
  refine s_iconst dX13_head_134 (by decide +kernel) ?_
  refine s_iload_n hZ.1 dX13_head_135 rfl ?_
  refine s_imul dX13_head_136 ?_
  refine s_iload_n hZ.1 dX13_head_137 rfl ?_
  refine s_iadd dX13_head_138 ?_
  refine s_lald (tt := 1) rfl dX13_head_139 ?_
  refine s_callV hZ.1 (Met_X13_find hZ) (Nat.le_of_ble_eq_true rfl) vy_X13_find zcl13 zw3186 zw226 (Or.inl zw3184) dX13_head_140 ?_
  refine s_istore_n hZ.1 dX13_head_143 rfl (Nat.le_of_ble_eq_true rfl) ?_
  refine s_iload_n hZ.1 dX13_head_144 rfl ?_
  refine s_bipush dX13_head_145 (by decide +kernel) ?_
  exact s_icmp_eq dX13_head_147 (by decide) (wX13_head_191 hZ j hj) (wX13_head_150 hZ j hj)
noncomputable def vX13_head_119 (j : Nat → rx_K) : rx_K := o_ld rx_isI 2 (o_ld rx_isR 0 (o_getf 13 32 (o_ld rx_isI 1 (o_ald 0 (o_c2 rx_lt (vX13_head_129 j) (vX13_head_212 j))))))
set_option maxRecDepth 20000 in
theorem wX13_head_119 (hZ : zO b e D A X) (j : Nat → rx_K) (hj : ∀ k pc, [119, 292, 368][k]? = some pc → rx_OK (zV b e D A X) mX13_head 5 pc (j k)) : rx_OK (zV b e D A X) mX13_head 5 119 (vX13_head_119 j) := by
  unfold vX13_head_119
  refine s_iload_n hZ.1 dX13_head_119 rfl ?_
  refine s_aload_n hZ.1 dX13_head_120 rfl ?_
  refine yg13_32 dX13_head_121 zw4153 ?_
  refine s_iload_n hZ.1 dX13_head_124 rfl ?_
  refine s_iald (tt := 0) rfl dX13_head_125 ?_
  exact s_icmp_ge dX13_head_126 (by decide) (wX13_head_212 hZ j hj) (wX13_head_129 hZ j hj)
noncomputable def vX13_head_117 (j : Nat → rx_K) : rx_K := o_const 0 (o_st rx_isI 2 ((vX13_head_119 j)))
set_option maxRecDepth 20000 in
theorem wX13_head_117 (hZ : zO b e D A X) (j : Nat → rx_K) (hj : ∀ k pc, [119, 292, 368][k]? = some pc → rx_OK (zV b e D A X) mX13_head 5 pc (j k)) : rx_OK (zV b e D A X) mX13_head 5 117 (vX13_head_117 j) := by
  unfold vX13_head_117
  refine s_iconst dX13_head_117 (by decide +kernel) ?_
  refine s_istore_n hZ.1 dX13_head_118 rfl (Nat.le_of_ble_eq_true rfl) ?_
  exact (wX13_head_119 hZ j hj)
noncomputable def vX13_head_106 (j : Nat → rx_K) : rx_K := o_ld rx_isR 0 (o_const 40 (o_ld rx_isR 0 (o_getf 13 29 (o_ld rx_isI 1 (o_ald 0 (o_callV 2 13 FX13_fault ((vX13_head_117 j))))))))
set_option maxRecDepth 20000 in
theorem wX13_head_106 (hZ : zO b e D A X) (j : Nat → rx_K) (hj : ∀ k pc, [119, 292, 368][k]? = some pc → rx_OK (zV b e D A X) mX13_head 5 pc (j k)) : rx_OK (zV b e D A X) mX13_head 5 106 (vX13_head_106 j) := by
  unfold vX13_head_106
  refine s_aload_n hZ.1 dX13_head_106 rfl ?_
  refine s_iconst dX13_head_107 (by decide +kernel) ?_
  refine s_aload_n hZ.1 dX13_head_108 rfl ?_
  refine yg13_29 dX13_head_109 zw4150 ?_
  refine s_iload_n hZ.1 dX13_head_112 rfl ?_
  refine s_iald (tt := 0) rfl dX13_head_113 ?_
  refine s_callV hZ.1 (Met_X13_fault hZ) (Nat.le_of_ble_eq_true rfl) vy_X13_fault zcl13 zw3004 zw190 (Or.inl zw3002) dX13_head_114 ?_
  exact (wX13_head_117 hZ j hj)
noncomputable def vX13_head_97 (j : Nat → rx_K) : rx_K := o_ld rx_isR 0 (o_ld rx_isI 2 (o_ld rx_isI 1 (o_callV 2 13 FX13_letsBelow (o_c1 rx_eq (vX13_head_106 j) (vX13_head_117 j)))))
set_option maxRecDepth 20000 in
theorem wX13_head_97 (hZ : zO b e D A X) (j : Nat → rx_K) (hj : ∀ k pc, [119, 292, 368][k]? = some pc → rx_OK (zV b e D A X) mX13_head 5 pc (j k)) : rx_OK (zV b e D A X) mX13_head 5 97 (vX13_head_97 j) := by
  unfold vX13_head_97
  refine s_aload_n hZ.1 dX13_head_97 rfl ?_
  refine s_iload_n hZ.1 dX13_head_98 rfl ?_
  refine s_iload_n hZ.1 dX13_head_99 rfl ?_
  refine s_callV hZ.1 (Met_X13_letsBelow hZ) (Nat.le_of_ble_eq_true rfl) vy_X13_letsBelow zcl13 zw3196 zw228 (Or.inl zw3194) dX13_head_100 ?_
  exact s_if_ne dX13_head_103 (by decide) (wX13_head_117 hZ j hj) (wX13_head_106 hZ j hj)
noncomputable def vX13_head_87 (j : Nat → rx_K) : rx_K := o_ld rx_isR 0 (o_getf 13 27 (o_ld rx_isI 2 (o_ald 0 (o_const 8 (o_c2 rx_eq (vX13_head_106 j) (vX13_head_97 j))))))
set_option maxRecDepth 20000 in
theorem wX13_head_87 (hZ : zO b e D A X) (j : Nat → rx_K) (hj : ∀ k pc, [119, 292, 368][k]? = some pc → rx_OK (zV b e D A X) mX13_head 5 pc (j k)) : rx_OK (zV b e D A X) mX13_head 5 87 (vX13_head_87 j) := by
  unfold vX13_head_87
  refine s_aload_n hZ.1 dX13_head_87 rfl ?_
  refine yg13_27 dX13_head_88 zw4148 ?_
  refine s_iload_n hZ.1 dX13_head_91 rfl ?_
  refine s_iald (tt := 0) rfl dX13_head_92 ?_
  refine s_iconst dX13_head_93 (by decide +kernel) ?_
  exact s_icmp_eq dX13_head_94 (by decide) (wX13_head_106 hZ j hj) (wX13_head_97 hZ j hj)
noncomputable def vX13_head_79 (j : Nat → rx_K) : rx_K := o_ld rx_isR 0 (o_ld rx_isI 2 (o_callV 1 13 FX13_isFace (o_c1 rx_eq (vX13_head_87 j) (vX13_head_106 j))))
set_option maxRecDepth 20000 in
theorem wX13_head_79 (hZ : zO b e D A X) (j : Nat → rx_K) (hj : ∀ k pc, [119, 292, 368][k]? = some pc → rx_OK (zV b e D A X) mX13_head 5 pc (j k)) : rx_OK (zV b e D A X) mX13_head 5 79 (vX13_head_79 j) := by
  unfold vX13_head_79
  refine s_aload_n hZ.1 dX13_head_79 rfl ?_
  refine s_iload_n hZ.1 dX13_head_80 rfl ?_
  refine s_callV hZ.1 (Met_X13_isFace hZ) (Nat.le_of_ble_eq_true rfl) vy_X13_isFace zcl13 zw3192 zw227 (Or.inl zw3190) dX13_head_81 ?_
  exact s_if_ne dX13_head_84 (by decide) (wX13_head_106 hZ j hj) (wX13_head_87 hZ j hj)
noncomputable def vX13_head_73 (j : Nat → rx_K) : rx_K := o_ld rx_isI 2 (o_const 34359738352 (o_c2 rx_eq (vX13_head_106 j) (vX13_head_79 j)))
set_option maxRecDepth 20000 in
theorem wX13_head_73 (hZ : zO b e D A X) (j : Nat → rx_K) (hj : ∀ k pc, [119, 292, 368][k]? = some pc → rx_OK (zV b e D A X) mX13_head 5 pc (j k)) : rx_OK (zV b e D A X) mX13_head 5 73 (vX13_head_73 j) := by
  unfold vX13_head_73
  refine s_iload_n hZ.1 dX13_head_73 rfl ?_
  refine s_bipush dX13_head_74 (by decide +kernel) ?_
  exact s_icmp_eq dX13_head_76 (by decide) (wX13_head_106 hZ j hj) (wX13_head_79 hZ j hj)
noncomputable def vX13_head_54 (j : Nat → rx_K) : rx_K := o_ld rx_isR 0 (o_ld rx_isR 0 (o_getf 13 28 (o_ld rx_isI 1 (o_ald 1 (o_callV 1 13 FX13_find (o_st rx_isI 2 (o_ld rx_isR 0 (o_ld rx_isI 1 (o_callV 1 13 FX13_isFace (o_c1 rx_eq (vX13_head_73 j) (vX13_head_106 j)))))))))))
set_option maxRecDepth 20000 in
theorem wX13_head_54 (hZ : zO b e D A X) (j : Nat → rx_K) (hj : ∀ k pc, [119, 292, 368][k]? = some pc → rx_OK (zV b e D A X) mX13_head 5 pc (j k)) : rx_OK (zV b e D A X) mX13_head 5 54 (vX13_head_54 j) := by
  unfold vX13_head_54
  refine s_aload_n hZ.1 dX13_head_54 rfl ?_
  refine s_aload_n hZ.1 dX13_head_55 rfl ?_
  refine yg13_28 dX13_head_56 zw4149 ?_
  refine s_iload_n hZ.1 dX13_head_59 rfl ?_
  refine s_lald (tt := 1) rfl dX13_head_60 ?_
  refine s_callV hZ.1 (Met_X13_find hZ) (Nat.le_of_ble_eq_true rfl) vy_X13_find zcl13 zw3186 zw226 (Or.inl zw3184) dX13_head_61 ?_
  refine s_istore_n hZ.1 dX13_head_64 rfl (Nat.le_of_ble_eq_true rfl) ?_
  refine s_aload_n hZ.1 dX13_head_65 rfl ?_
  refine s_iload_n hZ.1 dX13_head_66 rfl ?_
  refine s_callV hZ.1 (Met_X13_isFace hZ) (Nat.le_of_ble_eq_true rfl) vy_X13_isFace zcl13 zw3192 zw227 (Or.inl zw3190) dX13_head_67 ?_
  exact s_if_ne dX13_head_70 (by decide) (wX13_head_106 hZ j hj) (wX13_head_73 hZ j hj)
noncomputable def vX13_head_43 (j : Nat → rx_K) : rx_K := o_ld rx_isR 0 (o_getf 13 28 (o_ld rx_isI 1 (o_ald 1 (o_const 1 (o_bc (fun x y => lg_cmp x y) (o_c1 rx_eq (vX13_head_117 j) (vX13_head_54 j)))))))
set_option maxRecDepth 20000 in
theorem wX13_head_43 (hZ : zO b e D A X) (j : Nat → rx_K) (hj : ∀ k pc, [119, 292, 368][k]? = some pc → rx_OK (zV b e D A X) mX13_head 5 pc (j k)) : rx_OK (zV b e D A X) mX13_head 5 43 (vX13_head_43 j) := by
  unfold vX13_head_43
  refine s_aload_n hZ.1 dX13_head_43 rfl ?_
  refine yg13_28 dX13_head_44 zw4149 ?_
  refine s_iload_n hZ.1 dX13_head_47 rfl ?_
  refine s_lald (tt := 1) rfl dX13_head_48 ?_
  refine s_lconst dX13_head_49 (by decide +kernel) ?_
  refine s_lcmp dX13_head_50 ?_
  exact s_if_eq dX13_head_51 (by decide) (wX13_head_117 hZ j hj) (wX13_head_54 hZ j hj)
noncomputable def vX13_head_32 (j : Nat → rx_K) : rx_K := o_ld rx_isR 0 (o_const 32 (o_ld rx_isR 0 (o_getf 13 25 (o_ld rx_isI 1 (o_ald 0 (o_callV 2 13 FX13_fault ((vX13_head_43 j))))))))
set_option maxRecDepth 20000 in
theorem wX13_head_32 (hZ : zO b e D A X) (j : Nat → rx_K) (hj : ∀ k pc, [119, 292, 368][k]? = some pc → rx_OK (zV b e D A X) mX13_head 5 pc (j k)) : rx_OK (zV b e D A X) mX13_head 5 32 (vX13_head_32 j) := by
  unfold vX13_head_32
  refine s_aload_n hZ.1 dX13_head_32 rfl ?_
  refine s_iconst dX13_head_33 (by decide +kernel) ?_
  refine s_aload_n hZ.1 dX13_head_34 rfl ?_
  refine yg13_25 dX13_head_35 zw4146 ?_
  refine s_iload_n hZ.1 dX13_head_38 rfl ?_
  refine s_iald (tt := 0) rfl dX13_head_39 ?_
  refine s_callV hZ.1 (Met_X13_fault hZ) (Nat.le_of_ble_eq_true rfl) vy_X13_fault zcl13 zw3004 zw190 (Or.inl zw3002) dX13_head_40 ?_
  exact (wX13_head_43 hZ j hj)
noncomputable def vX13_head_18 (j : Nat → rx_K) : rx_K := o_ld rx_isR 0 (o_getf 13 24 (o_ld rx_isI 1 (o_ald 1 (o_callS 1 FX13_pack (o_const 208 (o_c2 rx_eq (vX13_head_32 j) (vX13_head_43 j)))))))
set_option maxRecDepth 20000 in
theorem wX13_head_18 (hZ : zO b e D A X) (j : Nat → rx_K) (hj : ∀ k pc, [119, 292, 368][k]? = some pc → rx_OK (zV b e D A X) mX13_head 5 pc (j k)) : rx_OK (zV b e D A X) mX13_head 5 18 (vX13_head_18 j) := by
  unfold vX13_head_18
  refine s_aload_n hZ.1 dX13_head_18 rfl ?_
  refine yg13_24 dX13_head_19 zw4145 ?_
  refine s_iload_n hZ.1 dX13_head_22 rfl ?_
  refine s_lald (tt := 1) rfl dX13_head_23 ?_
  refine s_callS hZ.1 (Met_X13_pack hZ) (Nat.le_of_ble_eq_true rfl) vy_X13_pack zw3177 (Or.inl zw3176) dX13_head_24 ?_
  refine s_bipush dX13_head_27 (by decide +kernel) ?_
  exact s_icmp_ne dX13_head_29 (by decide) (wX13_head_43 hZ j hj) (wX13_head_32 hZ j hj)
noncomputable def vX13_head_0 (j : Nat → rx_K) : rx_K := o_ld rx_isR 0 (o_ld rx_isR 0 (o_getf 13 19 (o_ld rx_isR 0 (o_getf 13 24 (o_ld rx_isI 1 (o_ald 1 (o_callV 2 13 FX13_inSlot (o_ld rx_isI 1 (o_c2 rx_eq (vX13_head_18 j) (vX13_head_32 j))))))))))
set_option maxRecDepth 20000 in
theorem wX13_head_0 (hZ : zO b e D A X) (j : Nat → rx_K) (hj : ∀ k pc, [119, 292, 368][k]? = some pc → rx_OK (zV b e D A X) mX13_head 5 pc (j k)) : rx_OK (zV b e D A X) mX13_head 5 0 (vX13_head_0 j) := by
  unfold vX13_head_0
  refine s_aload_n hZ.1 dX13_head_0 rfl ?_
  refine s_aload_n hZ.1 dX13_head_1 rfl ?_
  refine yg13_19 dX13_head_2 zw4140 ?_
  refine s_aload_n hZ.1 dX13_head_5 rfl ?_
  refine yg13_24 dX13_head_6 zw4145 ?_
  refine s_iload_n hZ.1 dX13_head_9 rfl ?_
  refine s_lald (tt := 1) rfl dX13_head_10 ?_
  refine s_callV hZ.1 (Met_X13_inSlot hZ) (Nat.le_of_ble_eq_true rfl) vy_X13_inSlot zcl13 zw3174 zw225 (Or.inl zw3172) dX13_head_11 ?_
  refine s_iload_n hZ.1 dX13_head_14 rfl ?_
  exact s_icmp_ne dX13_head_15 (by decide) (wX13_head_32 hZ j hj) (wX13_head_18 hZ j hj)
noncomputable def vhX13_head (j : Nat → rx_K) : List rx_K := [vX13_head_119 j, vX13_head_292 j, vX13_head_368 j]
theorem vlX13_head (hZ : zO b e D A X) : ∀ n k pc, [119, 292, 368][k]? = some pc → rx_OK (zV b e D A X) mX13_head 5 pc (rx_J (vhX13_head) n k) := rx_loop fun j hj k pc h => by
  match k, h with
  | 0, h =>
    have e9 := Option.some.inj (show some 119 = some pc from h)
    subst e9
    exact wX13_head_119 hZ j hj
  | 1, h =>
    have e9 := Option.some.inj (show some 292 = some pc from h)
    subst e9
    exact wX13_head_292 hZ j hj
  | 2, h =>
    have e9 := Option.some.inj (show some 368 = some pc from h)
    subst e9
    exact wX13_head_368 hZ j hj
  | _ + 3, h => exact absurd h (by simp)
noncomputable def FX13_head : List Nat → rx_H → Option (Nat × rx_H) := rx_ent 4 (vX13_head_0 (rx_J (vhX13_head) 4000000000))
theorem Met_X13_head (hZ : zO b e D A X) : rx_Met (zV b e D A X) 5 yX13_head mX13_head (FX13_head) := rx_entry hZ.1 (wX13_head_0 hZ _ (vlX13_head hZ 4000000000)) (by decide +kernel) rfl (fun h => by cases h)
abbrev mX13_heads : rx_M := (RX13, cX13_heads, 3, none, false)
theorem vy_X13_heads : rx_Y (zV b e D A X) yX13_heads mX13_heads 0 := ⟨zw3167, zw431, by decide, by decide +kernel, by decide +kernel, by decide +kernel⟩
noncomputable def vX13_heads_99 (j : Nat → rx_K) : rx_K := o_ret0
set_option maxRecDepth 20000 in
theorem wX13_heads_99 (hZ : zO b e D A X) (j : Nat → rx_K) (hj : ∀ k pc, [2, 43][k]? = some pc → rx_OK (zV b e D A X) mX13_heads 6 pc (j k)) : rx_OK (zV b e D A X) mX13_heads 6 99 (vX13_heads_99 j) := by
  unfold vX13_heads_99
  exact s_vret rfl dX13_heads_99
noncomputable def vX13_heads_93 (j : Nat → rx_K) : rx_K := o_inc 1 (1) ((j 1))
set_option maxRecDepth 20000 in
theorem wX13_heads_93 (hZ : zO b e D A X) (j : Nat → rx_K) (hj : ∀ k pc, [2, 43][k]? = some pc → rx_OK (zV b e D A X) mX13_heads 6 pc (j k)) : rx_OK (zV b e D A X) mX13_heads 6 93 (vX13_heads_93 j) := by
  unfold vX13_heads_93
  refine s_iinc hZ.1 dX13_heads_93 (Nat.le_of_ble_eq_true rfl) ?_
  exact s_goto dX13_heads_96 (by decide) (hj 1 43 rfl)
noncomputable def vX13_heads_82 (j : Nat → rx_K) : rx_K := o_ld rx_isR 0 (o_const 40 (o_ld rx_isR 0 (o_getf 13 25 (o_ld rx_isI 2 (o_ald 0 (o_callV 2 13 FX13_fault ((vX13_heads_93 j))))))))
set_option maxRecDepth 20000 in
theorem wX13_heads_82 (hZ : zO b e D A X) (j : Nat → rx_K) (hj : ∀ k pc, [2, 43][k]? = some pc → rx_OK (zV b e D A X) mX13_heads 6 pc (j k)) : rx_OK (zV b e D A X) mX13_heads 6 82 (vX13_heads_82 j) := by
  unfold vX13_heads_82
  refine s_aload_n hZ.1 dX13_heads_82 rfl ?_
  refine s_iconst dX13_heads_83 (by decide +kernel) ?_
  refine s_aload_n hZ.1 dX13_heads_84 rfl ?_
  refine yg13_25 dX13_heads_85 zw4146 ?_
  refine s_iload_n hZ.1 dX13_heads_88 rfl ?_
  refine s_iald (tt := 0) rfl dX13_heads_89 ?_
  refine s_callV hZ.1 (Met_X13_fault hZ) (Nat.le_of_ble_eq_true rfl) vy_X13_fault zcl13 zw3004 zw190 (Or.inl zw3002) dX13_heads_90 ?_
  exact (wX13_heads_93 hZ j hj)
noncomputable def vX13_heads_63 (j : Nat → rx_K) : rx_K := o_ld rx_isR 0 (o_getf 13 19 (o_const 96 (o_bi (fun x y => x * y) (o_ld rx_isI 1 (o_bi (fun x y => x + y) (o_st rx_isI 2 (o_ld rx_isR 0 (o_ld rx_isI 2 (o_ld rx_isI 2 (o_callV 2 13 FX13_isHeir (o_c1 rx_eq (vX13_heads_93 j) (vX13_heads_82 j))))))))))))
set_option maxRecDepth 20000 in
theorem wX13_heads_63 (hZ : zO b e D A X) (j : Nat → rx_K) (hj : ∀ k pc, [2, 43][k]? = some pc → rx_OK (zV b e D A X) mX13_heads 6 pc (j k)) : rx_OK (zV b e D A X) mX13_heads 6 63 (vX13_heads_63 j) := by
  unfold vX13_heads_63
  refine s_aload_n hZ.1 dX13_heads_63 rfl ?_
  refine yg13_19 dX13_heads_64 zw4140 ?_
  refine s_bipush dX13_heads_67 (by decide +kernel) ?_
  refine s_imul dX13_heads_69 ?_
  refine s_iload_n hZ.1 dX13_heads_70 rfl ?_
  refine s_iadd dX13_heads_71 ?_
  refine s_istore_n hZ.1 dX13_heads_72 rfl (Nat.le_of_ble_eq_true rfl) ?_
  refine s_aload_n hZ.1 dX13_heads_73 rfl ?_
  refine s_iload_n hZ.1 dX13_heads_74 rfl ?_
  refine s_iload_n hZ.1 dX13_heads_75 rfl ?_
  refine s_callV hZ.1 (Met_X13_isHeir hZ) (Nat.le_of_ble_eq_true rfl) vy_X13_isHeir zcl13 zw3211 zw231 (Or.inl zw3209) dX13_heads_76 ?_
  exact s_if_eq dX13_heads_79 (by decide) (wX13_heads_93 hZ j hj) (wX13_heads_82 hZ j hj)
noncomputable def vX13_heads_56 (j : Nat → rx_K) : rx_K := o_ld rx_isR 0 (o_getf 13 20 (o_c1 rx_eq (vX13_heads_63 j) (vX13_heads_99 j)))
set_option maxRecDepth 20000 in
theorem wX13_heads_56 (hZ : zO b e D A X) (j : Nat → rx_K) (hj : ∀ k pc, [2, 43][k]? = some pc → rx_OK (zV b e D A X) mX13_heads 6 pc (j k)) : rx_OK (zV b e D A X) mX13_heads 6 56 (vX13_heads_56 j) := by
  unfold vX13_heads_56
  refine s_aload_n hZ.1 dX13_heads_56 rfl ?_
  refine yg13_20 dX13_heads_57 zw4141 ?_
  exact s_if_ne dX13_heads_60 (by decide) (wX13_heads_99 hZ j hj) (wX13_heads_63 hZ j hj)
noncomputable def vX13_heads_43 (j : Nat → rx_K) : rx_K := o_ld rx_isI 1 (o_ld rx_isR 0 (o_getf 13 23 (o_ld rx_isR 0 (o_getf 13 19 (o_ald 0 (o_c2 rx_lt (vX13_heads_56 j) (vX13_heads_99 j)))))))
set_option maxRecDepth 20000 in
theorem wX13_heads_43 (hZ : zO b e D A X) (j : Nat → rx_K) (hj : ∀ k pc, [2, 43][k]? = some pc → rx_OK (zV b e D A X) mX13_heads 6 pc (j k)) : rx_OK (zV b e D A X) mX13_heads 6 43 (vX13_heads_43 j) := by
  unfold vX13_heads_43
  refine s_iload_n hZ.1 dX13_heads_43 rfl ?_
  refine s_aload_n hZ.1 dX13_heads_44 rfl ?_
  refine yg13_23 dX13_heads_45 zw4144 ?_
  refine s_aload_n hZ.1 dX13_heads_48 rfl ?_
  refine yg13_19 dX13_heads_49 zw4140 ?_
  refine s_iald (tt := 0) rfl dX13_heads_52 ?_
  exact s_icmp_ge dX13_heads_53 (by decide) (wX13_heads_99 hZ j hj) (wX13_heads_56 hZ j hj)
noncomputable def vX13_heads_41 (j : Nat → rx_K) : rx_K := o_const 0 (o_st rx_isI 1 ((vX13_heads_43 j)))
set_option maxRecDepth 20000 in
theorem wX13_heads_41 (hZ : zO b e D A X) (j : Nat → rx_K) (hj : ∀ k pc, [2, 43][k]? = some pc → rx_OK (zV b e D A X) mX13_heads 6 pc (j k)) : rx_OK (zV b e D A X) mX13_heads 6 41 (vX13_heads_41 j) := by
  unfold vX13_heads_41
  refine s_iconst dX13_heads_41 (by decide +kernel) ?_
  refine s_istore_n hZ.1 dX13_heads_42 rfl (Nat.le_of_ble_eq_true rfl) ?_
  exact (wX13_heads_43 hZ j hj)
noncomputable def vX13_heads_22 (j : Nat → rx_K) : rx_K := o_ld rx_isR 0 (o_ld rx_isR 0 (o_getf 13 19 (o_const 96 (o_bi (fun x y => x * y) (o_ld rx_isI 1 (o_bi (fun x y => x + y) (o_callV 1 13 FX13_head (o_inc 1 (1) ((j 0))))))))))
set_option maxRecDepth 20000 in
theorem wX13_heads_22 (hZ : zO b e D A X) (j : Nat → rx_K) (hj : ∀ k pc, [2, 43][k]? = some pc → rx_OK (zV b e D A X) mX13_heads 6 pc (j k)) : rx_OK (zV b e D A X) mX13_heads 6 22 (vX13_heads_22 j) := by
  unfold vX13_heads_22
  refine s_aload_n hZ.1 dX13_heads_22 rfl ?_
  refine s_aload_n hZ.1 dX13_heads_23 rfl ?_
  refine yg13_19 dX13_heads_24 zw4140 ?_
  refine s_bipush dX13_heads_27 (by decide +kernel) ?_
  refine s_imul dX13_heads_29 ?_
  refine s_iload_n hZ.1 dX13_heads_30 rfl ?_
  refine s_iadd dX13_heads_31 ?_
  refine s_callV hZ.1 (Met_X13_head hZ) (Nat.le_of_ble_eq_true rfl) vy_X13_head zcl13 zw3170 zw224 (Or.inl zw3168) dX13_heads_32 ?_
  refine s_iinc hZ.1 dX13_heads_35 (Nat.le_of_ble_eq_true rfl) ?_
  exact s_goto dX13_heads_38 (by decide) (hj 0 2 rfl)
noncomputable def vX13_heads_15 (j : Nat → rx_K) : rx_K := o_ld rx_isR 0 (o_getf 13 20 (o_c1 rx_eq (vX13_heads_22 j) (vX13_heads_41 j)))
set_option maxRecDepth 20000 in
theorem wX13_heads_15 (hZ : zO b e D A X) (j : Nat → rx_K) (hj : ∀ k pc, [2, 43][k]? = some pc → rx_OK (zV b e D A X) mX13_heads 6 pc (j k)) : rx_OK (zV b e D A X) mX13_heads 6 15 (vX13_heads_15 j) := by
  unfold vX13_heads_15
  refine s_aload_n hZ.1 dX13_heads_15 rfl ?_
  refine yg13_20 dX13_heads_16 zw4141 ?_
  exact s_if_ne dX13_heads_19 (by decide) (wX13_heads_41 hZ j hj) (wX13_heads_22 hZ j hj)
noncomputable def vX13_heads_2 (j : Nat → rx_K) : rx_K := o_ld rx_isI 1 (o_ld rx_isR 0 (o_getf 13 23 (o_ld rx_isR 0 (o_getf 13 19 (o_ald 0 (o_c2 rx_lt (vX13_heads_15 j) (vX13_heads_41 j)))))))
set_option maxRecDepth 20000 in
theorem wX13_heads_2 (hZ : zO b e D A X) (j : Nat → rx_K) (hj : ∀ k pc, [2, 43][k]? = some pc → rx_OK (zV b e D A X) mX13_heads 6 pc (j k)) : rx_OK (zV b e D A X) mX13_heads 6 2 (vX13_heads_2 j) := by
  unfold vX13_heads_2
  refine s_iload_n hZ.1 dX13_heads_2 rfl ?_
  refine s_aload_n hZ.1 dX13_heads_3 rfl ?_
  refine yg13_23 dX13_heads_4 zw4144 ?_
  refine s_aload_n hZ.1 dX13_heads_7 rfl ?_
  refine yg13_19 dX13_heads_8 zw4140 ?_
  refine s_iald (tt := 0) rfl dX13_heads_11 ?_
  exact s_icmp_ge dX13_heads_12 (by decide) (wX13_heads_41 hZ j hj) (wX13_heads_15 hZ j hj)
noncomputable def vX13_heads_0 (j : Nat → rx_K) : rx_K := o_const 0 (o_st rx_isI 1 ((vX13_heads_2 j)))
set_option maxRecDepth 20000 in
theorem wX13_heads_0 (hZ : zO b e D A X) (j : Nat → rx_K) (hj : ∀ k pc, [2, 43][k]? = some pc → rx_OK (zV b e D A X) mX13_heads 6 pc (j k)) : rx_OK (zV b e D A X) mX13_heads 6 0 (vX13_heads_0 j) := by
  unfold vX13_heads_0
  refine s_iconst dX13_heads_0 (by decide +kernel) ?_
  refine s_istore_n hZ.1 dX13_heads_1 rfl (Nat.le_of_ble_eq_true rfl) ?_
  exact (wX13_heads_2 hZ j hj)
noncomputable def vhX13_heads (j : Nat → rx_K) : List rx_K := [vX13_heads_2 j, vX13_heads_43 j]
theorem vlX13_heads (hZ : zO b e D A X) : ∀ n k pc, [2, 43][k]? = some pc → rx_OK (zV b e D A X) mX13_heads 6 pc (rx_J (vhX13_heads) n k) := rx_loop fun j hj k pc h => by
  match k, h with
  | 0, h =>
    have e9 := Option.some.inj (show some 2 = some pc from h)
    subst e9
    exact wX13_heads_2 hZ j hj
  | 1, h =>
    have e9 := Option.some.inj (show some 43 = some pc from h)
    subst e9
    exact wX13_heads_43 hZ j hj
  | _ + 2, h => exact absurd h (by simp)
noncomputable def FX13_heads : List Nat → rx_H → Option (Nat × rx_H) := rx_ent 3 (vX13_heads_0 (rx_J (vhX13_heads) 4000000000))
theorem Met_X13_heads (hZ : zO b e D A X) : rx_Met (zV b e D A X) 6 yX13_heads mX13_heads (FX13_heads) := rx_entry hZ.1 (wX13_heads_0 hZ _ (vlX13_heads hZ 4000000000)) (by decide +kernel) rfl (fun h => by cases h)
abbrev mX13_isWrongInClass : rx_M := (RX13, cX13_isWrongInClass, 4, (some .boolean), false)
theorem vy_X13_isWrongInClass : rx_Y (zV b e D A X) yX13_isWrongInClass mX13_isWrongInClass 2 := ⟨zw3233, zw431, by decide, by decide +kernel, by decide +kernel, by decide +kernel⟩
noncomputable def vX13_isWrongInClass_96 : rx_K := o_ret1 rx_isZ
set_option maxRecDepth 20000 in
theorem wX13_isWrongInClass_96 (hZ : zO b e D A X) : rx_OK (zV b e D A X) mX13_isWrongInClass 0 96 vX13_isWrongInClass_96 := by
  unfold vX13_isWrongInClass_96
  exact s_zret rx_z_ok rfl dX13_isWrongInClass_96
noncomputable def vX13_isWrongInClass_95 : rx_K := o_const 0 (vX13_isWrongInClass_96)
set_option maxRecDepth 20000 in
theorem wX13_isWrongInClass_95 (hZ : zO b e D A X) : rx_OK (zV b e D A X) mX13_isWrongInClass 0 95 vX13_isWrongInClass_95 := by
  unfold vX13_isWrongInClass_95
  refine s_iconst dX13_isWrongInClass_95 (by decide +kernel) ?_
  exact (wX13_isWrongInClass_96 hZ)
noncomputable def vX13_isWrongInClass_91 : rx_K := o_const 8 (vX13_isWrongInClass_96)
set_option maxRecDepth 20000 in
theorem wX13_isWrongInClass_91 (hZ : zO b e D A X) : rx_OK (zV b e D A X) mX13_isWrongInClass 0 91 vX13_isWrongInClass_91 := by
  unfold vX13_isWrongInClass_91
  refine s_iconst dX13_isWrongInClass_91 (by decide +kernel) ?_
  exact s_goto dX13_isWrongInClass_92 (by decide) (wX13_isWrongInClass_96 hZ)
noncomputable def vX13_isWrongInClass_81 : rx_K := o_ld rx_isR 0 (o_getf 13 27 (o_ld rx_isI 1 (o_ald 0 (o_const 16 (o_c2 rx_eq vX13_isWrongInClass_95 vX13_isWrongInClass_91)))))
set_option maxRecDepth 20000 in
theorem wX13_isWrongInClass_81 (hZ : zO b e D A X) : rx_OK (zV b e D A X) mX13_isWrongInClass 0 81 vX13_isWrongInClass_81 := by
  unfold vX13_isWrongInClass_81
  refine s_aload_n hZ.1 dX13_isWrongInClass_81 rfl ?_
  refine yg13_27 dX13_isWrongInClass_82 zw4148 ?_
  refine s_iload_n hZ.1 dX13_isWrongInClass_85 rfl ?_
  refine s_iald (tt := 0) rfl dX13_isWrongInClass_86 ?_
  refine s_iconst dX13_isWrongInClass_87 (by decide +kernel) ?_
  exact s_icmp_eq dX13_isWrongInClass_88 (by decide) (wX13_isWrongInClass_95 hZ) (wX13_isWrongInClass_91 hZ)
noncomputable def vX13_isWrongInClass_72 : rx_K := o_ld rx_isR 0 (o_getf 13 45 (o_ld rx_isI 2 (o_ald 3 (o_c1 rx_eq vX13_isWrongInClass_81 vX13_isWrongInClass_91))))
set_option maxRecDepth 20000 in
theorem wX13_isWrongInClass_72 (hZ : zO b e D A X) : rx_OK (zV b e D A X) mX13_isWrongInClass 0 72 vX13_isWrongInClass_72 := by
  unfold vX13_isWrongInClass_72
  refine s_aload_n hZ.1 dX13_isWrongInClass_72 rfl ?_
  refine yg13_45 dX13_isWrongInClass_73 zw4166 ?_
  refine s_iload_n hZ.1 dX13_isWrongInClass_76 rfl ?_
  refine s_zald (tt := 3) rfl dX13_isWrongInClass_77 ?_
  exact s_if_ne dX13_isWrongInClass_78 (by decide) (wX13_isWrongInClass_91 hZ) (wX13_isWrongInClass_81 hZ)
noncomputable def vX13_isWrongInClass_62 : rx_K := o_ld rx_isR 0 (o_getf 13 43 (o_ld rx_isI 2 (o_ald 0 (o_const 24 (o_c2 rx_eq vX13_isWrongInClass_91 vX13_isWrongInClass_72)))))
set_option maxRecDepth 20000 in
theorem wX13_isWrongInClass_62 (hZ : zO b e D A X) : rx_OK (zV b e D A X) mX13_isWrongInClass 0 62 vX13_isWrongInClass_62 := by
  unfold vX13_isWrongInClass_62
  refine s_aload_n hZ.1 dX13_isWrongInClass_62 rfl ?_
  refine yg13_43 dX13_isWrongInClass_63 zw4164 ?_
  refine s_iload_n hZ.1 dX13_isWrongInClass_66 rfl ?_
  refine s_iald (tt := 0) rfl dX13_isWrongInClass_67 ?_
  refine s_iconst dX13_isWrongInClass_68 (by decide +kernel) ?_
  exact s_icmp_eq dX13_isWrongInClass_69 (by decide) (wX13_isWrongInClass_91 hZ) (wX13_isWrongInClass_72 hZ)
noncomputable def vX13_isWrongInClass_53 : rx_K := o_ld rx_isR 0 (o_getf 13 48 (o_ld rx_isI 2 (o_ald 3 (o_c1 rx_eq vX13_isWrongInClass_95 vX13_isWrongInClass_62))))
set_option maxRecDepth 20000 in
theorem wX13_isWrongInClass_53 (hZ : zO b e D A X) : rx_OK (zV b e D A X) mX13_isWrongInClass 0 53 vX13_isWrongInClass_53 := by
  unfold vX13_isWrongInClass_53
  refine s_aload_n hZ.1 dX13_isWrongInClass_53 rfl ?_
  refine yg13_48 dX13_isWrongInClass_54 zw4169 ?_
  refine s_iload_n hZ.1 dX13_isWrongInClass_57 rfl ?_
  refine s_zald (tt := 3) rfl dX13_isWrongInClass_58 ?_
  exact s_if_eq dX13_isWrongInClass_59 (by decide) (wX13_isWrongInClass_95 hZ) (wX13_isWrongInClass_62 hZ)
noncomputable def vX13_isWrongInClass_43 : rx_K := o_ld rx_isR 0 (o_getf 13 48 (o_ld rx_isI 2 (o_ald 3 (o_ld rx_isI 3 (o_c2 rx_eq vX13_isWrongInClass_91 vX13_isWrongInClass_53)))))
set_option maxRecDepth 20000 in
theorem wX13_isWrongInClass_43 (hZ : zO b e D A X) : rx_OK (zV b e D A X) mX13_isWrongInClass 0 43 vX13_isWrongInClass_43 := by
  unfold vX13_isWrongInClass_43
  refine s_aload_n hZ.1 dX13_isWrongInClass_43 rfl ?_
  refine yg13_48 dX13_isWrongInClass_44 zw4169 ?_
  refine s_iload_n hZ.1 dX13_isWrongInClass_47 rfl ?_
  refine s_zald (tt := 3) rfl dX13_isWrongInClass_48 ?_
  refine s_iload_n hZ.1 dX13_isWrongInClass_49 rfl ?_
  exact s_icmp_eq dX13_isWrongInClass_50 (by decide) (wX13_isWrongInClass_91 hZ) (wX13_isWrongInClass_53 hZ)
noncomputable def vX13_isWrongInClass_32 : rx_K := o_st rx_isI 3 (o_ld rx_isR 0 (o_getf 13 42 (o_ld rx_isI 2 (o_ald 0 (o_const 8 (o_c2 rx_eq vX13_isWrongInClass_43 vX13_isWrongInClass_95))))))
set_option maxRecDepth 20000 in
theorem wX13_isWrongInClass_32 (hZ : zO b e D A X) : rx_OK (zV b e D A X) mX13_isWrongInClass 0 32 vX13_isWrongInClass_32 := by
  unfold vX13_isWrongInClass_32
  refine s_istore_n hZ.1 dX13_isWrongInClass_32 rfl (Nat.le_of_ble_eq_true rfl) ?_
  refine s_aload_n hZ.1 dX13_isWrongInClass_33 rfl ?_
  refine yg13_42 dX13_isWrongInClass_34 zw4163 ?_
  refine s_iload_n hZ.1 dX13_isWrongInClass_37 rfl ?_
  refine s_iald (tt := 0) rfl dX13_isWrongInClass_38 ?_
  refine s_iconst dX13_isWrongInClass_39 (by decide +kernel) ?_
  exact s_icmp_ne dX13_isWrongInClass_40 (by decide) (wX13_isWrongInClass_95 hZ) (wX13_isWrongInClass_43 hZ)
noncomputable def vX13_isWrongInClass_31 : rx_K := o_const 0 (vX13_isWrongInClass_32)
set_option maxRecDepth 20000 in
theorem wX13_isWrongInClass_31 (hZ : zO b e D A X) : rx_OK (zV b e D A X) mX13_isWrongInClass 0 31 vX13_isWrongInClass_31 := by
  unfold vX13_isWrongInClass_31
  refine s_iconst dX13_isWrongInClass_31 (by decide +kernel) ?_
  exact (wX13_isWrongInClass_32 hZ)
noncomputable def vX13_isWrongInClass_27 : rx_K := o_const 8 (vX13_isWrongInClass_32)
set_option maxRecDepth 20000 in
theorem wX13_isWrongInClass_27 (hZ : zO b e D A X) : rx_OK (zV b e D A X) mX13_isWrongInClass 0 27 vX13_isWrongInClass_27 := by
  unfold vX13_isWrongInClass_27
  refine s_iconst dX13_isWrongInClass_27 (by decide +kernel) ?_
  exact s_goto dX13_isWrongInClass_28 (by decide) (wX13_isWrongInClass_32 hZ)
noncomputable def vX13_isWrongInClass_16 : rx_K := o_ld rx_isR 0 (o_getf 13 61 (o_ld rx_isI 2 (o_ald 0 (o_const 34359738352 (o_c2 rx_eq vX13_isWrongInClass_31 vX13_isWrongInClass_27)))))
set_option maxRecDepth 20000 in
theorem wX13_isWrongInClass_16 (hZ : zO b e D A X) : rx_OK (zV b e D A X) mX13_isWrongInClass 0 16 vX13_isWrongInClass_16 := by
  unfold vX13_isWrongInClass_16
  refine s_aload_n hZ.1 dX13_isWrongInClass_16 rfl ?_
  refine yg13_61 dX13_isWrongInClass_17 zw4182 ?_
  refine s_iload_n hZ.1 dX13_isWrongInClass_20 rfl ?_
  refine s_iald (tt := 0) rfl dX13_isWrongInClass_21 ?_
  refine s_bipush dX13_isWrongInClass_22 (by decide +kernel) ?_
  exact s_icmp_eq dX13_isWrongInClass_24 (by decide) (wX13_isWrongInClass_31 hZ) (wX13_isWrongInClass_27 hZ)
noncomputable def vX13_isWrongInClass_9 : rx_K := o_ld rx_isR 0 (o_getf 13 48 (o_ld rx_isI 2 (o_ald 3 (o_ret1 rx_isZ))))
set_option maxRecDepth 20000 in
theorem wX13_isWrongInClass_9 (hZ : zO b e D A X) : rx_OK (zV b e D A X) mX13_isWrongInClass 0 9 vX13_isWrongInClass_9 := by
  unfold vX13_isWrongInClass_9
  refine s_aload_n hZ.1 dX13_isWrongInClass_9 rfl ?_
  refine yg13_48 dX13_isWrongInClass_10 zw4169 ?_
  refine s_iload_n hZ.1 dX13_isWrongInClass_13 rfl ?_
  refine s_zald (tt := 3) rfl dX13_isWrongInClass_14 ?_
  exact s_zret rx_z_ok rfl dX13_isWrongInClass_15
noncomputable def vX13_isWrongInClass_0 : rx_K := o_ld rx_isR 0 (o_getf 13 42 (o_ld rx_isI 2 (o_ald 0 (o_c1 rx_eq vX13_isWrongInClass_9 vX13_isWrongInClass_16))))
set_option maxRecDepth 20000 in
theorem wX13_isWrongInClass_0 (hZ : zO b e D A X) : rx_OK (zV b e D A X) mX13_isWrongInClass 0 0 vX13_isWrongInClass_0 := by
  unfold vX13_isWrongInClass_0
  refine s_aload_n hZ.1 dX13_isWrongInClass_0 rfl ?_
  refine yg13_42 dX13_isWrongInClass_1 zw4163 ?_
  refine s_iload_n hZ.1 dX13_isWrongInClass_4 rfl ?_
  refine s_iald (tt := 0) rfl dX13_isWrongInClass_5 ?_
  exact s_if_ne dX13_isWrongInClass_6 (by decide) (wX13_isWrongInClass_16 hZ) (wX13_isWrongInClass_9 hZ)
noncomputable def FX13_isWrongInClass : List Nat → rx_H → Option (Nat × rx_H) := rx_ent 4 vX13_isWrongInClass_0
theorem Met_X13_isWrongInClass (hZ : zO b e D A X) : rx_Met (zV b e D A X) 0 yX13_isWrongInClass mX13_isWrongInClass (FX13_isWrongInClass) := rx_entry hZ.1 (wX13_isWrongInClass_0 hZ) (by decide +kernel) rfl (fun h => by cases h)
abbrev mX13_isWrongInFace : rx_M := (RX13, cX13_isWrongInFace, 3, (some .boolean), false)
theorem vy_X13_isWrongInFace : rx_Y (zV b e D A X) yX13_isWrongInFace mX13_isWrongInFace 1 := ⟨zw3229, zw431, by decide, by decide +kernel, by decide +kernel, by decide +kernel⟩
noncomputable def vX13_isWrongInFace_132 : rx_K := o_ret1 rx_isZ
set_option maxRecDepth 20000 in
theorem wX13_isWrongInFace_132 (hZ : zO b e D A X) : rx_OK (zV b e D A X) mX13_isWrongInFace 0 132 vX13_isWrongInFace_132 := by
  unfold vX13_isWrongInFace_132
  exact s_zret rx_z_ok rfl dX13_isWrongInFace_132
noncomputable def vX13_isWrongInFace_131 : rx_K := o_const 0 (vX13_isWrongInFace_132)
set_option maxRecDepth 20000 in
theorem wX13_isWrongInFace_131 (hZ : zO b e D A X) : rx_OK (zV b e D A X) mX13_isWrongInFace 0 131 vX13_isWrongInFace_131 := by
  unfold vX13_isWrongInFace_131
  refine s_iconst dX13_isWrongInFace_131 (by decide +kernel) ?_
  exact (wX13_isWrongInFace_132 hZ)
noncomputable def vX13_isWrongInFace_127 : rx_K := o_const 8 (vX13_isWrongInFace_132)
set_option maxRecDepth 20000 in
theorem wX13_isWrongInFace_127 (hZ : zO b e D A X) : rx_OK (zV b e D A X) mX13_isWrongInFace 0 127 vX13_isWrongInFace_127 := by
  unfold vX13_isWrongInFace_127
  refine s_iconst dX13_isWrongInFace_127 (by decide +kernel) ?_
  exact s_goto dX13_isWrongInFace_128 (by decide) (wX13_isWrongInFace_132 hZ)
noncomputable def vX13_isWrongInFace_117 : rx_K := o_ld rx_isR 0 (o_getf 13 43 (o_ld rx_isI 1 (o_ald 0 (o_const 24 (o_c2 rx_eq vX13_isWrongInFace_127 vX13_isWrongInFace_131)))))
set_option maxRecDepth 20000 in
theorem wX13_isWrongInFace_117 (hZ : zO b e D A X) : rx_OK (zV b e D A X) mX13_isWrongInFace 0 117 vX13_isWrongInFace_117 := by
  unfold vX13_isWrongInFace_117
  refine s_aload_n hZ.1 dX13_isWrongInFace_117 rfl ?_
  refine yg13_43 dX13_isWrongInFace_118 zw4164 ?_
  refine s_iload_n hZ.1 dX13_isWrongInFace_121 rfl ?_
  refine s_iald (tt := 0) rfl dX13_isWrongInFace_122 ?_
  refine s_iconst dX13_isWrongInFace_123 (by decide +kernel) ?_
  exact s_icmp_ne dX13_isWrongInFace_124 (by decide) (wX13_isWrongInFace_131 hZ) (wX13_isWrongInFace_127 hZ)
noncomputable def vX13_isWrongInFace_108 : rx_K := o_ld rx_isR 0 (o_getf 13 45 (o_ld rx_isI 1 (o_ald 3 (o_c1 rx_eq vX13_isWrongInFace_117 vX13_isWrongInFace_127))))
set_option maxRecDepth 20000 in
theorem wX13_isWrongInFace_108 (hZ : zO b e D A X) : rx_OK (zV b e D A X) mX13_isWrongInFace 0 108 vX13_isWrongInFace_108 := by
  unfold vX13_isWrongInFace_108
  refine s_aload_n hZ.1 dX13_isWrongInFace_108 rfl ?_
  refine yg13_45 dX13_isWrongInFace_109 zw4166 ?_
  refine s_iload_n hZ.1 dX13_isWrongInFace_112 rfl ?_
  refine s_zald (tt := 3) rfl dX13_isWrongInFace_113 ?_
  exact s_if_ne dX13_isWrongInFace_114 (by decide) (wX13_isWrongInFace_127 hZ) (wX13_isWrongInFace_117 hZ)
noncomputable def vX13_isWrongInFace_104 : rx_K := o_ld rx_isI 2 (o_c1 rx_eq vX13_isWrongInFace_108 vX13_isWrongInFace_131)
set_option maxRecDepth 20000 in
theorem wX13_isWrongInFace_104 (hZ : zO b e D A X) : rx_OK (zV b e D A X) mX13_isWrongInFace 0 104 vX13_isWrongInFace_104 := by
  unfold vX13_isWrongInFace_104
  refine s_iload_n hZ.1 dX13_isWrongInFace_104 rfl ?_
  exact s_if_ne dX13_isWrongInFace_105 (by decide) (wX13_isWrongInFace_131 hZ) (wX13_isWrongInFace_108 hZ)
noncomputable def vX13_isWrongInFace_100 : rx_K := o_ld rx_isI 2 (o_c1 rx_eq vX13_isWrongInFace_104 vX13_isWrongInFace_127)
set_option maxRecDepth 20000 in
theorem wX13_isWrongInFace_100 (hZ : zO b e D A X) : rx_OK (zV b e D A X) mX13_isWrongInFace 0 100 vX13_isWrongInFace_100 := by
  unfold vX13_isWrongInFace_100
  refine s_iload_n hZ.1 dX13_isWrongInFace_100 rfl ?_
  exact s_if_ne dX13_isWrongInFace_101 (by decide) (wX13_isWrongInFace_127 hZ) (wX13_isWrongInFace_104 hZ)
noncomputable def vX13_isWrongInFace_91 : rx_K := o_ld rx_isR 0 (o_getf 13 48 (o_ld rx_isI 1 (o_ald 3 (o_c1 rx_eq vX13_isWrongInFace_104 vX13_isWrongInFace_100))))
set_option maxRecDepth 20000 in
theorem wX13_isWrongInFace_91 (hZ : zO b e D A X) : rx_OK (zV b e D A X) mX13_isWrongInFace 0 91 vX13_isWrongInFace_91 := by
  unfold vX13_isWrongInFace_91
  refine s_aload_n hZ.1 dX13_isWrongInFace_91 rfl ?_
  refine yg13_48 dX13_isWrongInFace_92 zw4169 ?_
  refine s_iload_n hZ.1 dX13_isWrongInFace_95 rfl ?_
  refine s_zald (tt := 3) rfl dX13_isWrongInFace_96 ?_
  exact s_if_eq dX13_isWrongInFace_97 (by decide) (wX13_isWrongInFace_104 hZ) (wX13_isWrongInFace_100 hZ)
noncomputable def vX13_isWrongInFace_82 : rx_K := o_ld rx_isR 0 (o_getf 13 46 (o_ld rx_isI 1 (o_ald 3 (o_c1 rx_eq vX13_isWrongInFace_91 vX13_isWrongInFace_127))))
set_option maxRecDepth 20000 in
theorem wX13_isWrongInFace_82 (hZ : zO b e D A X) : rx_OK (zV b e D A X) mX13_isWrongInFace 0 82 vX13_isWrongInFace_82 := by
  unfold vX13_isWrongInFace_82
  refine s_aload_n hZ.1 dX13_isWrongInFace_82 rfl ?_
  refine yg13_46 dX13_isWrongInFace_83 zw4167 ?_
  refine s_iload_n hZ.1 dX13_isWrongInFace_86 rfl ?_
  refine s_zald (tt := 3) rfl dX13_isWrongInFace_87 ?_
  exact s_if_ne dX13_isWrongInFace_88 (by decide) (wX13_isWrongInFace_127 hZ) (wX13_isWrongInFace_91 hZ)
noncomputable def vX13_isWrongInFace_72 : rx_K := o_ld rx_isR 0 (o_getf 13 43 (o_ld rx_isI 1 (o_ald 0 (o_const 16 (o_c2 rx_eq vX13_isWrongInFace_127 vX13_isWrongInFace_82)))))
set_option maxRecDepth 20000 in
theorem wX13_isWrongInFace_72 (hZ : zO b e D A X) : rx_OK (zV b e D A X) mX13_isWrongInFace 0 72 vX13_isWrongInFace_72 := by
  unfold vX13_isWrongInFace_72
  refine s_aload_n hZ.1 dX13_isWrongInFace_72 rfl ?_
  refine yg13_43 dX13_isWrongInFace_73 zw4164 ?_
  refine s_iload_n hZ.1 dX13_isWrongInFace_76 rfl ?_
  refine s_iald (tt := 0) rfl dX13_isWrongInFace_77 ?_
  refine s_iconst dX13_isWrongInFace_78 (by decide +kernel) ?_
  exact s_icmp_eq dX13_isWrongInFace_79 (by decide) (wX13_isWrongInFace_127 hZ) (wX13_isWrongInFace_82 hZ)
noncomputable def vX13_isWrongInFace_61 : rx_K := o_st rx_isI 2 (o_ld rx_isR 0 (o_getf 13 42 (o_ld rx_isI 1 (o_ald 0 (o_const 8 (o_c2 rx_eq vX13_isWrongInFace_72 vX13_isWrongInFace_127))))))
set_option maxRecDepth 20000 in
theorem wX13_isWrongInFace_61 (hZ : zO b e D A X) : rx_OK (zV b e D A X) mX13_isWrongInFace 0 61 vX13_isWrongInFace_61 := by
  unfold vX13_isWrongInFace_61
  refine s_istore_n hZ.1 dX13_isWrongInFace_61 rfl (Nat.le_of_ble_eq_true rfl) ?_
  refine s_aload_n hZ.1 dX13_isWrongInFace_62 rfl ?_
  refine yg13_42 dX13_isWrongInFace_63 zw4163 ?_
  refine s_iload_n hZ.1 dX13_isWrongInFace_66 rfl ?_
  refine s_iald (tt := 0) rfl dX13_isWrongInFace_67 ?_
  refine s_iconst dX13_isWrongInFace_68 (by decide +kernel) ?_
  exact s_icmp_ne dX13_isWrongInFace_69 (by decide) (wX13_isWrongInFace_127 hZ) (wX13_isWrongInFace_72 hZ)
noncomputable def vX13_isWrongInFace_60 : rx_K := o_const 0 (vX13_isWrongInFace_61)
set_option maxRecDepth 20000 in
theorem wX13_isWrongInFace_60 (hZ : zO b e D A X) : rx_OK (zV b e D A X) mX13_isWrongInFace 0 60 vX13_isWrongInFace_60 := by
  unfold vX13_isWrongInFace_60
  refine s_iconst dX13_isWrongInFace_60 (by decide +kernel) ?_
  exact (wX13_isWrongInFace_61 hZ)
noncomputable def vX13_isWrongInFace_56 : rx_K := o_const 8 (vX13_isWrongInFace_61)
set_option maxRecDepth 20000 in
theorem wX13_isWrongInFace_56 (hZ : zO b e D A X) : rx_OK (zV b e D A X) mX13_isWrongInFace 0 56 vX13_isWrongInFace_56 := by
  unfold vX13_isWrongInFace_56
  refine s_iconst dX13_isWrongInFace_56 (by decide +kernel) ?_
  exact s_goto dX13_isWrongInFace_57 (by decide) (wX13_isWrongInFace_61 hZ)
noncomputable def vX13_isWrongInFace_45 : rx_K := o_ld rx_isR 0 (o_getf 13 61 (o_ld rx_isI 1 (o_ald 0 (o_const 34359738352 (o_c2 rx_eq vX13_isWrongInFace_60 vX13_isWrongInFace_56)))))
set_option maxRecDepth 20000 in
theorem wX13_isWrongInFace_45 (hZ : zO b e D A X) : rx_OK (zV b e D A X) mX13_isWrongInFace 0 45 vX13_isWrongInFace_45 := by
  unfold vX13_isWrongInFace_45
  refine s_aload_n hZ.1 dX13_isWrongInFace_45 rfl ?_
  refine yg13_61 dX13_isWrongInFace_46 zw4182 ?_
  refine s_iload_n hZ.1 dX13_isWrongInFace_49 rfl ?_
  refine s_iald (tt := 0) rfl dX13_isWrongInFace_50 ?_
  refine s_bipush dX13_isWrongInFace_51 (by decide +kernel) ?_
  exact s_icmp_eq dX13_isWrongInFace_53 (by decide) (wX13_isWrongInFace_60 hZ) (wX13_isWrongInFace_56 hZ)
noncomputable def vX13_isWrongInFace_44 : rx_K := o_ret1 rx_isZ
set_option maxRecDepth 20000 in
theorem wX13_isWrongInFace_44 (hZ : zO b e D A X) : rx_OK (zV b e D A X) mX13_isWrongInFace 0 44 vX13_isWrongInFace_44 := by
  unfold vX13_isWrongInFace_44
  exact s_zret rx_z_ok rfl dX13_isWrongInFace_44
noncomputable def vX13_isWrongInFace_43 : rx_K := o_const 0 (vX13_isWrongInFace_44)
set_option maxRecDepth 20000 in
theorem wX13_isWrongInFace_43 (hZ : zO b e D A X) : rx_OK (zV b e D A X) mX13_isWrongInFace 0 43 vX13_isWrongInFace_43 := by
  unfold vX13_isWrongInFace_43
  refine s_iconst dX13_isWrongInFace_43 (by decide +kernel) ?_
  exact (wX13_isWrongInFace_44 hZ)
noncomputable def vX13_isWrongInFace_39 : rx_K := o_const 8 (vX13_isWrongInFace_44)
set_option maxRecDepth 20000 in
theorem wX13_isWrongInFace_39 (hZ : zO b e D A X) : rx_OK (zV b e D A X) mX13_isWrongInFace 0 39 vX13_isWrongInFace_39 := by
  unfold vX13_isWrongInFace_39
  refine s_iconst dX13_isWrongInFace_39 (by decide +kernel) ?_
  exact s_goto dX13_isWrongInFace_40 (by decide) (wX13_isWrongInFace_44 hZ)
noncomputable def vX13_isWrongInFace_28 : rx_K := o_ld rx_isR 0 (o_getf 13 60 (o_ld rx_isI 1 (o_ald 0 (o_const 34359738352 (o_c2 rx_eq vX13_isWrongInFace_39 vX13_isWrongInFace_43)))))
set_option maxRecDepth 20000 in
theorem wX13_isWrongInFace_28 (hZ : zO b e D A X) : rx_OK (zV b e D A X) mX13_isWrongInFace 0 28 vX13_isWrongInFace_28 := by
  unfold vX13_isWrongInFace_28
  refine s_aload_n hZ.1 dX13_isWrongInFace_28 rfl ?_
  refine yg13_60 dX13_isWrongInFace_29 zw4181 ?_
  refine s_iload_n hZ.1 dX13_isWrongInFace_32 rfl ?_
  refine s_iald (tt := 0) rfl dX13_isWrongInFace_33 ?_
  refine s_bipush dX13_isWrongInFace_34 (by decide +kernel) ?_
  exact s_icmp_ne dX13_isWrongInFace_36 (by decide) (wX13_isWrongInFace_43 hZ) (wX13_isWrongInFace_39 hZ)
noncomputable def vX13_isWrongInFace_18 : rx_K := o_ld rx_isR 0 (o_getf 13 43 (o_ld rx_isI 1 (o_ald 0 (o_const 16 (o_c2 rx_lt vX13_isWrongInFace_28 vX13_isWrongInFace_39)))))
set_option maxRecDepth 20000 in
theorem wX13_isWrongInFace_18 (hZ : zO b e D A X) : rx_OK (zV b e D A X) mX13_isWrongInFace 0 18 vX13_isWrongInFace_18 := by
  unfold vX13_isWrongInFace_18
  refine s_aload_n hZ.1 dX13_isWrongInFace_18 rfl ?_
  refine yg13_43 dX13_isWrongInFace_19 zw4164 ?_
  refine s_iload_n hZ.1 dX13_isWrongInFace_22 rfl ?_
  refine s_iald (tt := 0) rfl dX13_isWrongInFace_23 ?_
  refine s_iconst dX13_isWrongInFace_24 (by decide +kernel) ?_
  exact s_icmp_ge dX13_isWrongInFace_25 (by decide) (wX13_isWrongInFace_39 hZ) (wX13_isWrongInFace_28 hZ)
noncomputable def vX13_isWrongInFace_9 : rx_K := o_ld rx_isR 0 (o_getf 13 48 (o_ld rx_isI 1 (o_ald 3 (o_c1 rx_eq vX13_isWrongInFace_18 vX13_isWrongInFace_39))))
set_option maxRecDepth 20000 in
theorem wX13_isWrongInFace_9 (hZ : zO b e D A X) : rx_OK (zV b e D A X) mX13_isWrongInFace 0 9 vX13_isWrongInFace_9 := by
  unfold vX13_isWrongInFace_9
  refine s_aload_n hZ.1 dX13_isWrongInFace_9 rfl ?_
  refine yg13_48 dX13_isWrongInFace_10 zw4169 ?_
  refine s_iload_n hZ.1 dX13_isWrongInFace_13 rfl ?_
  refine s_zald (tt := 3) rfl dX13_isWrongInFace_14 ?_
  exact s_if_ne dX13_isWrongInFace_15 (by decide) (wX13_isWrongInFace_39 hZ) (wX13_isWrongInFace_18 hZ)
noncomputable def vX13_isWrongInFace_0 : rx_K := o_ld rx_isR 0 (o_getf 13 42 (o_ld rx_isI 1 (o_ald 0 (o_c1 rx_eq vX13_isWrongInFace_9 vX13_isWrongInFace_45))))
set_option maxRecDepth 20000 in
theorem wX13_isWrongInFace_0 (hZ : zO b e D A X) : rx_OK (zV b e D A X) mX13_isWrongInFace 0 0 vX13_isWrongInFace_0 := by
  unfold vX13_isWrongInFace_0
  refine s_aload_n hZ.1 dX13_isWrongInFace_0 rfl ?_
  refine yg13_42 dX13_isWrongInFace_1 zw4163 ?_
  refine s_iload_n hZ.1 dX13_isWrongInFace_4 rfl ?_
  refine s_iald (tt := 0) rfl dX13_isWrongInFace_5 ?_
  exact s_if_ne dX13_isWrongInFace_6 (by decide) (wX13_isWrongInFace_45 hZ) (wX13_isWrongInFace_9 hZ)
noncomputable def FX13_isWrongInFace : List Nat → rx_H → Option (Nat × rx_H) := rx_ent 3 vX13_isWrongInFace_0
theorem Met_X13_isWrongInFace (hZ : zO b e D A X) : rx_Met (zV b e D A X) 0 yX13_isWrongInFace mX13_isWrongInFace (FX13_isWrongInFace) := rx_entry hZ.1 (wX13_isWrongInFace_0 hZ) (by decide +kernel) rfl (fun h => by cases h)
abbrev mX13_type : rx_M := (RX13, cX13_type, 6, none, false)
theorem vy_X13_type : rx_Y (zV b e D A X) yX13_type mX13_type 3 := ⟨zw3237, zw431, by decide, by decide +kernel, by decide +kernel, by decide +kernel⟩
noncomputable def vX13_type_39 : rx_K := o_ret0
set_option maxRecDepth 20000 in
theorem wX13_type_39 (hZ : zO b e D A X) : rx_OK (zV b e D A X) mX13_type 4 39 vX13_type_39 := by
  unfold vX13_type_39
  exact s_vret rfl dX13_type_39
noncomputable def vX13_type_32 : rx_K := o_ld rx_isR 0 (o_const 56 (o_ld rx_isI 3 (o_callV 2 13 FX13_fault (vX13_type_39))))
set_option maxRecDepth 20000 in
theorem wX13_type_32 (hZ : zO b e D A X) : rx_OK (zV b e D A X) mX13_type 4 32 vX13_type_32 := by
  unfold vX13_type_32
  refine s_aload_n hZ.1 dX13_type_32 rfl ?_
  refine s_bipush dX13_type_33 (by decide +kernel) ?_
  refine s_iload_n hZ.1 dX13_type_35 rfl ?_
  refine s_callV hZ.1 (Met_X13_fault hZ) (Nat.le_of_ble_eq_true rfl) vy_X13_fault zcl13 zw3004 zw190 (Or.inl zw3002) dX13_type_36 ?_
  exact (wX13_type_39 hZ)
noncomputable def vX13_type_21 : rx_K := o_ld rx_isR 0 (o_ld rx_isI 5 (o_ld rx_isI 4 (o_callV 2 13 FX13_isLet (o_c1 rx_eq vX13_type_32 vX13_type_39))))
set_option maxRecDepth 20000 in
theorem wX13_type_21 (hZ : zO b e D A X) : rx_OK (zV b e D A X) mX13_type 4 21 vX13_type_21 := by
  unfold vX13_type_21
  refine s_aload_n hZ.1 dX13_type_21 rfl ?_
  refine s_iload hZ.1 dX13_type_22 ?_
  refine s_iload hZ.1 dX13_type_24 ?_
  refine s_callV hZ.1 (Met_X13_isLet hZ) (Nat.le_of_ble_eq_true rfl) vy_X13_isLet zcl13 zw3200 zw229 (Or.inl zw3198) dX13_type_26 ?_
  exact s_if_ne dX13_type_29 (by decide) (wX13_type_39 hZ) (wX13_type_32 hZ)
noncomputable def vX13_type_7 : rx_K := o_ld rx_isR 0 (o_ld rx_isL 1 (o_callV 1 13 FX13_find (o_st rx_isI 5 (o_ld rx_isI 5 (o_const 34359738352 (o_c2 rx_eq vX13_type_32 vX13_type_21))))))
set_option maxRecDepth 20000 in
theorem wX13_type_7 (hZ : zO b e D A X) : rx_OK (zV b e D A X) mX13_type 4 7 vX13_type_7 := by
  unfold vX13_type_7
  refine s_aload_n hZ.1 dX13_type_7 rfl ?_
  refine s_lload_n hZ.1 dX13_type_8 rfl ?_
  refine s_callV hZ.1 (Met_X13_find hZ) (Nat.le_of_ble_eq_true rfl) vy_X13_find zcl13 zw3186 zw226 (Or.inl zw3184) dX13_type_9 ?_
  refine s_istore hZ.1 dX13_type_12 (Nat.le_of_ble_eq_true rfl) ?_
  refine s_iload hZ.1 dX13_type_14 ?_
  refine s_bipush dX13_type_16 (by decide +kernel) ?_
  exact s_icmp_eq dX13_type_18 (by decide) (wX13_type_32 hZ) (wX13_type_21 hZ)
noncomputable def vX13_type_0 : rx_K := o_ld rx_isL 1 (o_callS 1 FX13_isC (o_c1 rx_eq vX13_type_39 vX13_type_7))
set_option maxRecDepth 20000 in
theorem wX13_type_0 (hZ : zO b e D A X) : rx_OK (zV b e D A X) mX13_type 4 0 vX13_type_0 := by
  unfold vX13_type_0
  refine s_lload_n hZ.1 dX13_type_0 rfl ?_
  refine s_callS hZ.1 (Met_X13_isC hZ) (Nat.le_of_ble_eq_true rfl) vy_X13_isC zw3239 (Or.inl zw3238) dX13_type_1 ?_
  exact s_if_eq dX13_type_4 (by decide) (wX13_type_39 hZ) (wX13_type_7 hZ)
noncomputable def FX13_type : List Nat → rx_H → Option (Nat × rx_H) := rx_ent 6 vX13_type_0
theorem Met_X13_type (hZ : zO b e D A X) : rx_Met (zV b e D A X) 4 yX13_type mX13_type (FX13_type) := rx_entry hZ.1 (wX13_type_0 hZ) (by decide +kernel) rfl (fun h => by cases h)
end ZM48

section ZM44
variable {b : Nat} {e : Nat → Value} {D : va_G} {A : Nat → ClassId} {X : State → Prop}
abbrev mX13_klass : rx_M := (RX13, cX13_klass, 5, none, false)
theorem vy_X13_klass : rx_Y (zV b e D A X) yX13_klass mX13_klass 0 := ⟨zw2975, zw431, by decide, by decide +kernel, by decide +kernel, by decide +kernel⟩
noncomputable def vX13_klass_430 (j : Nat → rx_K) : rx_K := o_ld rx_isR 0 (o_const 1000 (o_callV 1 13 FX13_wantSign (o_ret0)))
set_option maxRecDepth 20000 in
theorem wX13_klass_430 (hZ : zO b e D A X) (j : Nat → rx_K) (hj : ∀ k pc, [405][k]? = some pc → rx_OK (zV b e D A X) mX13_klass 412 pc (j k)) : rx_OK (zV b e D A X) mX13_klass 412 430 (vX13_klass_430 j) := by
  unfold vX13_klass_430
  refine s_aload_n hZ.1 dX13_klass_430 rfl ?_
  refine s_bipush dX13_klass_431 (by decide +kernel) ?_
  refine s_callV hZ.1 (Met_X13_wantSign hZ) (Nat.le_of_ble_eq_true rfl) vy_X13_wantSign zcl13 zw3037 zw196 (Or.inl zw3035) dX13_klass_433 ?_
  exact s_vret rfl dX13_klass_436
noncomputable def vX13_klass_421 (j : Nat → rx_K) : rx_K := o_ld rx_isR 0 (o_ld rx_isI 4 (o_callV 1 13 FX13_member ((j 0))))
set_option maxRecDepth 20000 in
theorem wX13_klass_421 (hZ : zO b e D A X) (j : Nat → rx_K) (hj : ∀ k pc, [405][k]? = some pc → rx_OK (zV b e D A X) mX13_klass 412 pc (j k)) : rx_OK (zV b e D A X) mX13_klass 412 421 (vX13_klass_421 j) := by
  unfold vX13_klass_421
  refine s_aload_n hZ.1 dX13_klass_421 rfl ?_
  refine s_iload hZ.1 dX13_klass_422 ?_
  refine s_callV hZ.1 (Met_X13_member hZ) (Nat.le_of_ble_eq_true rfl) vy_X13_member zcl13 zw3041 zw197 (Or.inl zw3039) dX13_klass_424 ?_
  exact s_goto dX13_klass_427 (by decide) (hj 0 405 rfl)
noncomputable def vX13_klass_412 (j : Nat → rx_K) : rx_K := o_ld rx_isR 0 (o_const 1000 (o_callV 1 13 FX13_isSign (o_c1 rx_eq (vX13_klass_421 j) (vX13_klass_430 j))))
set_option maxRecDepth 20000 in
theorem wX13_klass_412 (hZ : zO b e D A X) (j : Nat → rx_K) (hj : ∀ k pc, [405][k]? = some pc → rx_OK (zV b e D A X) mX13_klass 412 pc (j k)) : rx_OK (zV b e D A X) mX13_klass 412 412 (vX13_klass_412 j) := by
  unfold vX13_klass_412
  refine s_aload_n hZ.1 dX13_klass_412 rfl ?_
  refine s_bipush dX13_klass_413 (by decide +kernel) ?_
  refine s_callV hZ.1 (Met_X13_isSign hZ) (Nat.le_of_ble_eq_true rfl) vy_X13_isSign zcl13 zw3030 zw195 (Or.inl zw3028) dX13_klass_415 ?_
  exact s_if_ne dX13_klass_418 (by decide) (wX13_klass_430 hZ j hj) (wX13_klass_421 hZ j hj)
noncomputable def vX13_klass_405 (j : Nat → rx_K) : rx_K := o_ld rx_isR 0 (o_getf 13 20 (o_c1 rx_eq (vX13_klass_412 j) (vX13_klass_430 j)))
set_option maxRecDepth 20000 in
theorem wX13_klass_405 (hZ : zO b e D A X) (j : Nat → rx_K) (hj : ∀ k pc, [405][k]? = some pc → rx_OK (zV b e D A X) mX13_klass 412 pc (j k)) : rx_OK (zV b e D A X) mX13_klass 412 405 (vX13_klass_405 j) := by
  unfold vX13_klass_405
  refine s_aload_n hZ.1 dX13_klass_405 rfl ?_
  refine yg13_20 dX13_klass_406 zw4141 ?_
  exact s_if_ne dX13_klass_409 (by decide) (wX13_klass_430 hZ j hj) (wX13_klass_412 hZ j hj)
noncomputable def vX13_klass_398 (j : Nat → rx_K) : rx_K := o_ast 0 (fun v => v) rx_isI (o_ld rx_isR 0 (o_const 984 (o_callV 1 13 FX13_wantSign ((vX13_klass_405 j)))))
set_option maxRecDepth 20000 in
theorem wX13_klass_398 (hZ : zO b e D A X) (j : Nat → rx_K) (hj : ∀ k pc, [405][k]? = some pc → rx_OK (zV b e D A X) mX13_klass 412 pc (j k)) : rx_OK (zV b e D A X) mX13_klass 412 398 (vX13_klass_398 j) := by
  unfold vX13_klass_398
  refine s_iast hZ.1 (tt := 0) rfl dX13_klass_398 ?_
  refine s_aload_n hZ.1 dX13_klass_399 rfl ?_
  refine s_bipush dX13_klass_400 (by decide +kernel) ?_
  refine s_callV hZ.1 (Met_X13_wantSign hZ) (Nat.le_of_ble_eq_true rfl) vy_X13_wantSign zcl13 zw3037 zw196 (Or.inl zw3035) dX13_klass_402 ?_
  exact (wX13_klass_405 hZ j hj)
noncomputable def vX13_klass_397 (j : Nat → rx_K) : rx_K := o_const 0 ((vX13_klass_398 j))
set_option maxRecDepth 20000 in
theorem wX13_klass_397 (hZ : zO b e D A X) (j : Nat → rx_K) (hj : ∀ k pc, [405][k]? = some pc → rx_OK (zV b e D A X) mX13_klass 412 pc (j k)) : rx_OK (zV b e D A X) mX13_klass 412 397 (vX13_klass_397 j) := by
  unfold vX13_klass_397
  refine s_iconst dX13_klass_397 (by decide +kernel) ?_
  exact (wX13_klass_398 hZ j hj)
noncomputable def vX13_klass_375 (j : Nat → rx_K) : rx_K := o_ld rx_isR 0 (o_ld rx_isR 0 (o_getf 13 38 (o_ld rx_isR 0 (o_getf 13 39 (o_const 64 (o_ld rx_isI 4 (o_bi (fun x y => x * y) (o_const 64 (o_callV 4 13 FX13_list ((vX13_klass_398 j)))))))))))
set_option maxRecDepth 20000 in
theorem wX13_klass_375 (hZ : zO b e D A X) (j : Nat → rx_K) (hj : ∀ k pc, [405][k]? = some pc → rx_OK (zV b e D A X) mX13_klass 412 pc (j k)) : rx_OK (zV b e D A X) mX13_klass 412 375 (vX13_klass_375 j) := by
  unfold vX13_klass_375
  refine s_aload_n hZ.1 dX13_klass_375 rfl ?_
  refine s_aload_n hZ.1 dX13_klass_376 rfl ?_
  refine yg13_38 dX13_klass_377 zw4159 ?_
  refine s_aload_n hZ.1 dX13_klass_380 rfl ?_
  refine yg13_39 dX13_klass_381 zw4160 ?_
  refine s_bipush dX13_klass_384 (by decide +kernel) ?_
  refine s_iload hZ.1 dX13_klass_386 ?_
  refine s_imul dX13_klass_388 ?_
  refine s_bipush dX13_klass_389 (by decide +kernel) ?_
  refine s_callV hZ.1 (Met_X13_list hZ) (Nat.le_of_ble_eq_true rfl) vy_X13_list zcl13 zw3026 zw194 (Or.inl zw3024) dX13_klass_391 ?_
  exact s_goto dX13_klass_394 (by decide) (wX13_klass_398 hZ j hj)
noncomputable def vX13_klass_358 (j : Nat → rx_K) : rx_K := o_ast 0 (fun v => v) rx_isI (o_ld rx_isR 0 (o_getf 13 40 (o_ld rx_isI 4 (o_ld rx_isR 0 (o_const 644 (o_callV 1 13 FX13_takesWord (o_c1 rx_eq (vX13_klass_397 j) (vX13_klass_375 j))))))))
set_option maxRecDepth 20000 in
theorem wX13_klass_358 (hZ : zO b e D A X) (j : Nat → rx_K) (hj : ∀ k pc, [405][k]? = some pc → rx_OK (zV b e D A X) mX13_klass 412 pc (j k)) : rx_OK (zV b e D A X) mX13_klass 412 358 (vX13_klass_358 j) := by
  unfold vX13_klass_358
  refine s_iast hZ.1 (tt := 0) rfl dX13_klass_358 ?_
  refine s_aload_n hZ.1 dX13_klass_359 rfl ?_
  refine yg13_40 dX13_klass_360 zw4161 ?_
  refine s_iload hZ.1 dX13_klass_363 ?_
  refine s_aload_n hZ.1 dX13_klass_365 rfl ?_
  refine s_ldcwS (k := 80) (zo_R80 hZ) dX13_klass_366 ?_
  refine s_callV hZ.1 (Met_X13_takesWord hZ) (Nat.le_of_ble_eq_true rfl) vy_X13_takesWord zcl13 zw2979 zw185 (Or.inl zw2977) dX13_klass_369 ?_
  exact s_if_eq dX13_klass_372 (by decide) (wX13_klass_397 hZ j hj) (wX13_klass_375 hZ j hj)
noncomputable def vX13_klass_357 (j : Nat → rx_K) : rx_K := o_const 0 ((vX13_klass_358 j))
set_option maxRecDepth 20000 in
theorem wX13_klass_357 (hZ : zO b e D A X) (j : Nat → rx_K) (hj : ∀ k pc, [405][k]? = some pc → rx_OK (zV b e D A X) mX13_klass 412 pc (j k)) : rx_OK (zV b e D A X) mX13_klass 412 357 (vX13_klass_357 j) := by
  unfold vX13_klass_357
  refine s_iconst dX13_klass_357 (by decide +kernel) ?_
  exact (wX13_klass_358 hZ j hj)
noncomputable def vX13_klass_335 (j : Nat → rx_K) : rx_K := o_ld rx_isR 0 (o_ld rx_isR 0 (o_getf 13 35 (o_ld rx_isR 0 (o_getf 13 36 (o_const 64 (o_ld rx_isI 4 (o_bi (fun x y => x * y) (o_const 64 (o_callV 4 13 FX13_list ((vX13_klass_358 j)))))))))))
set_option maxRecDepth 20000 in
theorem wX13_klass_335 (hZ : zO b e D A X) (j : Nat → rx_K) (hj : ∀ k pc, [405][k]? = some pc → rx_OK (zV b e D A X) mX13_klass 412 pc (j k)) : rx_OK (zV b e D A X) mX13_klass 412 335 (vX13_klass_335 j) := by
  unfold vX13_klass_335
  refine s_aload_n hZ.1 dX13_klass_335 rfl ?_
  refine s_aload_n hZ.1 dX13_klass_336 rfl ?_
  refine yg13_35 dX13_klass_337 zw4156 ?_
  refine s_aload_n hZ.1 dX13_klass_340 rfl ?_
  refine yg13_36 dX13_klass_341 zw4157 ?_
  refine s_bipush dX13_klass_344 (by decide +kernel) ?_
  refine s_iload hZ.1 dX13_klass_346 ?_
  refine s_imul dX13_klass_348 ?_
  refine s_bipush dX13_klass_349 (by decide +kernel) ?_
  refine s_callV hZ.1 (Met_X13_list hZ) (Nat.le_of_ble_eq_true rfl) vy_X13_list zcl13 zw3026 zw194 (Or.inl zw3024) dX13_klass_351 ?_
  exact s_goto dX13_klass_354 (by decide) (wX13_klass_358 hZ j hj)
noncomputable def vX13_klass_319 (j : Nat → rx_K) : rx_K := o_ld rx_isR 0 (o_getf 13 37 (o_ld rx_isI 4 (o_ld rx_isR 0 (o_const 628 (o_callV 1 13 FX13_takesWord (o_c1 rx_eq (vX13_klass_357 j) (vX13_klass_335 j)))))))
set_option maxRecDepth 20000 in
theorem wX13_klass_319 (hZ : zO b e D A X) (j : Nat → rx_K) (hj : ∀ k pc, [405][k]? = some pc → rx_OK (zV b e D A X) mX13_klass 412 pc (j k)) : rx_OK (zV b e D A X) mX13_klass 412 319 (vX13_klass_319 j) := by
  unfold vX13_klass_319
  refine s_aload_n hZ.1 dX13_klass_319 rfl ?_
  refine yg13_37 dX13_klass_320 zw4158 ?_
  refine s_iload hZ.1 dX13_klass_323 ?_
  refine s_aload_n hZ.1 dX13_klass_325 rfl ?_
  refine s_ldcwS (k := 78) (zo_R78 hZ) dX13_klass_326 ?_
  refine s_callV hZ.1 (Met_X13_takesWord hZ) (Nat.le_of_ble_eq_true rfl) vy_X13_takesWord zcl13 zw2979 zw185 (Or.inl zw2977) dX13_klass_329 ?_
  exact s_if_eq dX13_klass_332 (by decide) (wX13_klass_357 hZ j hj) (wX13_klass_335 hZ j hj)
noncomputable def vX13_klass_288 (j : Nat → rx_K) : rx_K := o_ld rx_isR 0 (o_const 8 (o_const 0 (o_callV 2 13 FX13_want (o_st rx_isI 3 (o_ld rx_isR 0 (o_getf 13 33 (o_ld rx_isI 4 (o_ld rx_isR 0 (o_ld rx_isI 3 (o_callV 1 13 FX13_nameAt (o_ast 1 (fun v => v) rx_isL (o_ld rx_isR 0 (o_getf 13 34 (o_ld rx_isI 4 (o_ld rx_isR 0 (o_ld rx_isI 3 (o_callV 1 13 FX13_placeAt (o_ast 0 (fun v => v) rx_isI ((vX13_klass_319 j))))))))))))))))))))
set_option maxRecDepth 20000 in
theorem wX13_klass_288 (hZ : zO b e D A X) (j : Nat → rx_K) (hj : ∀ k pc, [405][k]? = some pc → rx_OK (zV b e D A X) mX13_klass 412 pc (j k)) : rx_OK (zV b e D A X) mX13_klass 412 288 (vX13_klass_288 j) := by
  unfold vX13_klass_288
  refine s_aload_n hZ.1 dX13_klass_288 rfl ?_
  refine s_iconst dX13_klass_289 (by decide +kernel) ?_
  refine s_iconst dX13_klass_290 (by decide +kernel) ?_
  refine s_callV hZ.1 (Met_X13_want hZ) (Nat.le_of_ble_eq_true rfl) vy_X13_want zcl13 zw3020 zw193 (Or.inl zw3018) dX13_klass_291 ?_
  refine s_istore_n hZ.1 dX13_klass_294 rfl (Nat.le_of_ble_eq_true rfl) ?_
  refine s_aload_n hZ.1 dX13_klass_295 rfl ?_
  refine yg13_33 dX13_klass_296 zw4154 ?_
  refine s_iload hZ.1 dX13_klass_299 ?_
  refine s_aload_n hZ.1 dX13_klass_301 rfl ?_
  refine s_iload_n hZ.1 dX13_klass_302 rfl ?_
  refine s_callV hZ.1 (Met_X13_nameAt hZ) (Nat.le_of_ble_eq_true rfl) vy_X13_nameAt zcl13 zw2987 zw187 (Or.inl zw2985) dX13_klass_303 ?_
  refine s_last (tt := 1) rfl dX13_klass_306 ?_
  refine s_aload_n hZ.1 dX13_klass_307 rfl ?_
  refine yg13_34 dX13_klass_308 zw4155 ?_
  refine s_iload hZ.1 dX13_klass_311 ?_
  refine s_aload_n hZ.1 dX13_klass_313 rfl ?_
  refine s_iload_n hZ.1 dX13_klass_314 rfl ?_
  refine s_callV hZ.1 (Met_X13_placeAt hZ) (Nat.le_of_ble_eq_true rfl) vy_X13_placeAt zcl13 zw3000 zw189 (Or.inl zw2998) dX13_klass_315 ?_
  refine s_iast hZ.1 (tt := 0) rfl dX13_klass_318 ?_
  exact (wX13_klass_319 hZ j hj)
noncomputable def vX13_klass_277 (j : Nat → rx_K) : rx_K := o_ast 0 (fun v => v) rx_isI (o_ld rx_isR 0 (o_const 612 (o_callV 1 13 FX13_takesWord (o_c1 rx_eq (vX13_klass_319 j) (vX13_klass_288 j)))))
set_option maxRecDepth 20000 in
theorem wX13_klass_277 (hZ : zO b e D A X) (j : Nat → rx_K) (hj : ∀ k pc, [405][k]? = some pc → rx_OK (zV b e D A X) mX13_klass 412 pc (j k)) : rx_OK (zV b e D A X) mX13_klass 412 277 (vX13_klass_277 j) := by
  unfold vX13_klass_277
  refine s_iast hZ.1 (tt := 0) rfl dX13_klass_277 ?_
  refine s_aload_n hZ.1 dX13_klass_278 rfl ?_
  refine s_ldcwS (k := 76) (zo_R76 hZ) dX13_klass_279 ?_
  refine s_callV hZ.1 (Met_X13_takesWord hZ) (Nat.le_of_ble_eq_true rfl) vy_X13_takesWord zcl13 zw2979 zw185 (Or.inl zw2977) dX13_klass_282 ?_
  exact s_if_eq dX13_klass_285 (by decide) (wX13_klass_319 hZ j hj) (wX13_klass_288 hZ j hj)
noncomputable def vX13_klass_276 (j : Nat → rx_K) : rx_K := o_const 0 ((vX13_klass_277 j))
set_option maxRecDepth 20000 in
theorem wX13_klass_276 (hZ : zO b e D A X) (j : Nat → rx_K) (hj : ∀ k pc, [405][k]? = some pc → rx_OK (zV b e D A X) mX13_klass 412 pc (j k)) : rx_OK (zV b e D A X) mX13_klass 412 276 (vX13_klass_276 j) := by
  unfold vX13_klass_276
  refine s_iconst dX13_klass_276 (by decide +kernel) ?_
  exact (wX13_klass_277 hZ j hj)
noncomputable def vX13_klass_256 (j : Nat → rx_K) : rx_K := o_ld rx_isR 0 (o_ld rx_isR 0 (o_getf 13 30 (o_ld rx_isR 0 (o_getf 13 31 (o_const 32 (o_ld rx_isI 4 (o_bi (fun x y => x * y) (o_const 32 (o_callV 4 13 FX13_list ((vX13_klass_277 j)))))))))))
set_option maxRecDepth 20000 in
theorem wX13_klass_256 (hZ : zO b e D A X) (j : Nat → rx_K) (hj : ∀ k pc, [405][k]? = some pc → rx_OK (zV b e D A X) mX13_klass 412 pc (j k)) : rx_OK (zV b e D A X) mX13_klass 412 256 (vX13_klass_256 j) := by
  unfold vX13_klass_256
  refine s_aload_n hZ.1 dX13_klass_256 rfl ?_
  refine s_aload_n hZ.1 dX13_klass_257 rfl ?_
  refine yg13_30 dX13_klass_258 zw4151 ?_
  refine s_aload_n hZ.1 dX13_klass_261 rfl ?_
  refine yg13_31 dX13_klass_262 zw4152 ?_
  refine s_iconst dX13_klass_265 (by decide +kernel) ?_
  refine s_iload hZ.1 dX13_klass_266 ?_
  refine s_imul dX13_klass_268 ?_
  refine s_iconst dX13_klass_269 (by decide +kernel) ?_
  refine s_callV hZ.1 (Met_X13_list hZ) (Nat.le_of_ble_eq_true rfl) vy_X13_list zcl13 zw3026 zw194 (Or.inl zw3024) dX13_klass_270 ?_
  exact s_goto dX13_klass_273 (by decide) (wX13_klass_277 hZ j hj)
noncomputable def vX13_klass_240 (j : Nat → rx_K) : rx_K := o_ld rx_isR 0 (o_getf 13 32 (o_ld rx_isI 4 (o_ld rx_isR 0 (o_const 596 (o_callV 1 13 FX13_takesWord (o_c1 rx_eq (vX13_klass_276 j) (vX13_klass_256 j)))))))
set_option maxRecDepth 20000 in
theorem wX13_klass_240 (hZ : zO b e D A X) (j : Nat → rx_K) (hj : ∀ k pc, [405][k]? = some pc → rx_OK (zV b e D A X) mX13_klass 412 pc (j k)) : rx_OK (zV b e D A X) mX13_klass 412 240 (vX13_klass_240 j) := by
  unfold vX13_klass_240
  refine s_aload_n hZ.1 dX13_klass_240 rfl ?_
  refine yg13_32 dX13_klass_241 zw4153 ?_
  refine s_iload hZ.1 dX13_klass_244 ?_
  refine s_aload_n hZ.1 dX13_klass_246 rfl ?_
  refine s_ldcwS (k := 74) (zo_R74 hZ) dX13_klass_247 ?_
  refine s_callV hZ.1 (Met_X13_takesWord hZ) (Nat.le_of_ble_eq_true rfl) vy_X13_takesWord zcl13 zw2979 zw185 (Or.inl zw2977) dX13_klass_250 ?_
  exact s_if_eq dX13_klass_253 (by decide) (wX13_klass_276 hZ j hj) (wX13_klass_256 hZ j hj)
noncomputable def vX13_klass_209 (j : Nat → rx_K) : rx_K := o_ld rx_isR 0 (o_const 8 (o_const 0 (o_callV 2 13 FX13_want (o_st rx_isI 3 (o_ld rx_isR 0 (o_getf 13 28 (o_ld rx_isI 4 (o_ld rx_isR 0 (o_ld rx_isI 3 (o_callV 1 13 FX13_nameAt (o_ast 1 (fun v => v) rx_isL (o_ld rx_isR 0 (o_getf 13 29 (o_ld rx_isI 4 (o_ld rx_isR 0 (o_ld rx_isI 3 (o_callV 1 13 FX13_placeAt (o_ast 0 (fun v => v) rx_isI ((vX13_klass_240 j))))))))))))))))))))
set_option maxRecDepth 20000 in
theorem wX13_klass_209 (hZ : zO b e D A X) (j : Nat → rx_K) (hj : ∀ k pc, [405][k]? = some pc → rx_OK (zV b e D A X) mX13_klass 412 pc (j k)) : rx_OK (zV b e D A X) mX13_klass 412 209 (vX13_klass_209 j) := by
  unfold vX13_klass_209
  refine s_aload_n hZ.1 dX13_klass_209 rfl ?_
  refine s_iconst dX13_klass_210 (by decide +kernel) ?_
  refine s_iconst dX13_klass_211 (by decide +kernel) ?_
  refine s_callV hZ.1 (Met_X13_want hZ) (Nat.le_of_ble_eq_true rfl) vy_X13_want zcl13 zw3020 zw193 (Or.inl zw3018) dX13_klass_212 ?_
  refine s_istore_n hZ.1 dX13_klass_215 rfl (Nat.le_of_ble_eq_true rfl) ?_
  refine s_aload_n hZ.1 dX13_klass_216 rfl ?_
  refine yg13_28 dX13_klass_217 zw4149 ?_
  refine s_iload hZ.1 dX13_klass_220 ?_
  refine s_aload_n hZ.1 dX13_klass_222 rfl ?_
  refine s_iload_n hZ.1 dX13_klass_223 rfl ?_
  refine s_callV hZ.1 (Met_X13_nameAt hZ) (Nat.le_of_ble_eq_true rfl) vy_X13_nameAt zcl13 zw2987 zw187 (Or.inl zw2985) dX13_klass_224 ?_
  refine s_last (tt := 1) rfl dX13_klass_227 ?_
  refine s_aload_n hZ.1 dX13_klass_228 rfl ?_
  refine yg13_29 dX13_klass_229 zw4150 ?_
  refine s_iload hZ.1 dX13_klass_232 ?_
  refine s_aload_n hZ.1 dX13_klass_234 rfl ?_
  refine s_iload_n hZ.1 dX13_klass_235 rfl ?_
  refine s_callV hZ.1 (Met_X13_placeAt hZ) (Nat.le_of_ble_eq_true rfl) vy_X13_placeAt zcl13 zw3000 zw189 (Or.inl zw2998) dX13_klass_236 ?_
  refine s_iast hZ.1 (tt := 0) rfl dX13_klass_239 ?_
  exact (wX13_klass_240 hZ j hj)
noncomputable def vX13_klass_182 (j : Nat → rx_K) : rx_K := o_ast 1 (fun v => v) rx_isL (o_ld rx_isR 0 (o_getf 13 33 (o_ld rx_isI 4 (o_const 1 (o_ast 1 (fun v => v) rx_isL (o_ld rx_isR 0 (o_getf 13 41 (o_ld rx_isI 4 (o_const 0 (o_ast 0 (fun v => v) rx_isI (o_ld rx_isR 0 (o_const 580 (o_callV 1 13 FX13_takesWord (o_c1 rx_eq (vX13_klass_240 j) (vX13_klass_209 j)))))))))))))))
set_option maxRecDepth 20000 in
theorem wX13_klass_182 (hZ : zO b e D A X) (j : Nat → rx_K) (hj : ∀ k pc, [405][k]? = some pc → rx_OK (zV b e D A X) mX13_klass 412 pc (j k)) : rx_OK (zV b e D A X) mX13_klass 412 182 (vX13_klass_182 j) := by
  unfold vX13_klass_182
  refine s_last (tt := 1) rfl dX13_klass_182 ?_
  refine s_aload_n hZ.1 dX13_klass_183 rfl ?_
  refine yg13_33 dX13_klass_184 zw4154 ?_
  refine s_iload hZ.1 dX13_klass_187 ?_
  refine s_lconst dX13_klass_189 (by decide +kernel) ?_
  refine s_last (tt := 1) rfl dX13_klass_190 ?_
  refine s_aload_n hZ.1 dX13_klass_191 rfl ?_
  refine yg13_41 dX13_klass_192 zw4162 ?_
  refine s_iload hZ.1 dX13_klass_195 ?_
  refine s_iconst dX13_klass_197 (by decide +kernel) ?_
  refine s_iast hZ.1 (tt := 0) rfl dX13_klass_198 ?_
  refine s_aload_n hZ.1 dX13_klass_199 rfl ?_
  refine s_ldcwS (k := 72) (zo_R72 hZ) dX13_klass_200 ?_
  refine s_callV hZ.1 (Met_X13_takesWord hZ) (Nat.le_of_ble_eq_true rfl) vy_X13_takesWord zcl13 zw2979 zw185 (Or.inl zw2977) dX13_klass_203 ?_
  exact s_if_eq dX13_klass_206 (by decide) (wX13_klass_240 hZ j hj) (wX13_klass_209 hZ j hj)
noncomputable def vX13_klass_142 (j : Nat → rx_K) : rx_K := o_ld rx_isI 3 (o_callV 1 13 FX13_nameAt (o_ast 1 (fun v => v) rx_isL (o_ld rx_isR 0 (o_getf 13 25 (o_ld rx_isI 4 (o_ld rx_isR 0 (o_ld rx_isI 3 (o_callV 1 13 FX13_placeAt (o_ast 0 (fun v => v) rx_isI (o_ld rx_isR 0 (o_getf 13 26 (o_ld rx_isI 4 (o_ld rx_isI 1 (o_ast 3 (fun v => v) rx_isZ (o_ld rx_isR 0 (o_getf 13 27 (o_ld rx_isI 4 (o_ld rx_isI 2 (o_ast 0 (fun v => v) rx_isI (o_ld rx_isR 0 (o_getf 13 28 (o_ld rx_isI 4 (o_const 1 ((vX13_klass_182 j)))))))))))))))))))))))))
set_option maxRecDepth 20000 in
theorem wX13_klass_142 (hZ : zO b e D A X) (j : Nat → rx_K) (hj : ∀ k pc, [405][k]? = some pc → rx_OK (zV b e D A X) mX13_klass 412 pc (j k)) : rx_OK (zV b e D A X) mX13_klass 412 142 (vX13_klass_142 j) := by
  unfold vX13_klass_142
  refine s_iload_n hZ.1 dX13_klass_142 rfl ?_
  refine s_callV hZ.1 (Met_X13_nameAt hZ) (Nat.le_of_ble_eq_true rfl) vy_X13_nameAt zcl13 zw2987 zw187 (Or.inl zw2985) dX13_klass_143 ?_
  refine s_last (tt := 1) rfl dX13_klass_146 ?_
  refine s_aload_n hZ.1 dX13_klass_147 rfl ?_
  refine yg13_25 dX13_klass_148 zw4146 ?_
  refine s_iload hZ.1 dX13_klass_151 ?_
  refine s_aload_n hZ.1 dX13_klass_153 rfl ?_
  refine s_iload_n hZ.1 dX13_klass_154 rfl ?_
  refine s_callV hZ.1 (Met_X13_placeAt hZ) (Nat.le_of_ble_eq_true rfl) vy_X13_placeAt zcl13 zw3000 zw189 (Or.inl zw2998) dX13_klass_155 ?_
  refine s_iast hZ.1 (tt := 0) rfl dX13_klass_158 ?_
  refine s_aload_n hZ.1 dX13_klass_159 rfl ?_
  refine yg13_26 dX13_klass_160 zw4147 ?_
  refine s_iload hZ.1 dX13_klass_163 ?_
  refine s_iload_n hZ.1 dX13_klass_165 rfl ?_
  refine s_zast (tt := 3) rfl dX13_klass_166 ?_
  refine s_aload_n hZ.1 dX13_klass_167 rfl ?_
  refine yg13_27 dX13_klass_168 zw4148 ?_
  refine s_iload hZ.1 dX13_klass_171 ?_
  refine s_iload_n hZ.1 dX13_klass_173 rfl ?_
  refine s_iast hZ.1 (tt := 0) rfl dX13_klass_174 ?_
  refine s_aload_n hZ.1 dX13_klass_175 rfl ?_
  refine yg13_28 dX13_klass_176 zw4149 ?_
  refine s_iload hZ.1 dX13_klass_179 ?_
  refine s_lconst dX13_klass_181 (by decide +kernel) ?_
  exact (wX13_klass_182 hZ j hj)
noncomputable def vX13_klass_103 (j : Nat → rx_K) : rx_K := o_ld rx_isR 0 (o_getf 13 19 (o_const 96 (o_bi (fun x y => x * y) (o_ld rx_isR 0 (o_getf 13 23 (o_ld rx_isR 0 (o_getf 13 19 (o_ald 0 (o_bi (fun x y => x + y) (o_st rx_isI 4 (o_ld rx_isR 0 (o_getf 13 23 (o_ld rx_isR 0 (o_getf 13 19 (o_dup2 (o_ald 0 (o_const 8 (o_bi (fun x y => x + y) (o_ast 0 (fun v => v) rx_isI (o_ld rx_isR 0 (o_getf 13 24 (o_ld rx_isI 4 (o_ld rx_isR 0 ((vX13_klass_142 j)))))))))))))))))))))))))
set_option maxRecDepth 20000 in
theorem wX13_klass_103 (hZ : zO b e D A X) (j : Nat → rx_K) (hj : ∀ k pc, [405][k]? = some pc → rx_OK (zV b e D A X) mX13_klass 412 pc (j k)) : rx_OK (zV b e D A X) mX13_klass 412 103 (vX13_klass_103 j) := by
  unfold vX13_klass_103
  refine s_aload_n hZ.1 dX13_klass_103 rfl ?_
  refine yg13_19 dX13_klass_104 zw4140 ?_
  refine s_bipush dX13_klass_107 (by decide +kernel) ?_
  refine s_imul dX13_klass_109 ?_
  refine s_aload_n hZ.1 dX13_klass_110 rfl ?_
  refine yg13_23 dX13_klass_111 zw4144 ?_
  refine s_aload_n hZ.1 dX13_klass_114 rfl ?_
  refine yg13_19 dX13_klass_115 zw4140 ?_
  refine s_iald (tt := 0) rfl dX13_klass_118 ?_
  refine s_iadd dX13_klass_119 ?_
  refine s_istore hZ.1 dX13_klass_120 (Nat.le_of_ble_eq_true rfl) ?_
  refine s_aload_n hZ.1 dX13_klass_122 rfl ?_
  refine yg13_23 dX13_klass_123 zw4144 ?_
  refine s_aload_n hZ.1 dX13_klass_126 rfl ?_
  refine yg13_19 dX13_klass_127 zw4140 ?_
  refine s_dup2 hZ.1 dX13_klass_130 ?_
  refine s_iald (tt := 0) rfl dX13_klass_131 ?_
  refine s_iconst dX13_klass_132 (by decide +kernel) ?_
  refine s_iadd dX13_klass_133 ?_
  refine s_iast hZ.1 (tt := 0) rfl dX13_klass_134 ?_
  refine s_aload_n hZ.1 dX13_klass_135 rfl ?_
  refine yg13_24 dX13_klass_136 zw4145 ?_
  refine s_iload hZ.1 dX13_klass_139 ?_
  refine s_aload_n hZ.1 dX13_klass_141 rfl ?_
  exact (wX13_klass_142 hZ j hj)
noncomputable def vX13_klass_102 (j : Nat → rx_K) : rx_K := o_ret0
set_option maxRecDepth 20000 in
theorem wX13_klass_102 (hZ : zO b e D A X) (j : Nat → rx_K) (hj : ∀ k pc, [405][k]? = some pc → rx_OK (zV b e D A X) mX13_klass 412 pc (j k)) : rx_OK (zV b e D A X) mX13_klass 412 102 (vX13_klass_102 j) := by
  unfold vX13_klass_102
  exact s_vret rfl dX13_klass_102
noncomputable def vX13_klass_91 (j : Nat → rx_K) : rx_K := o_callV 2 13 FX13_want (o_st rx_isI 3 (o_ld rx_isR 0 (o_getf 13 20 (o_c1 rx_eq (vX13_klass_103 j) (vX13_klass_102 j)))))
set_option maxRecDepth 20000 in
theorem wX13_klass_91 (hZ : zO b e D A X) (j : Nat → rx_K) (hj : ∀ k pc, [405][k]? = some pc → rx_OK (zV b e D A X) mX13_klass 412 pc (j k)) : rx_OK (zV b e D A X) mX13_klass 412 91 (vX13_klass_91 j) := by
  unfold vX13_klass_91
  refine s_callV hZ.1 (Met_X13_want hZ) (Nat.le_of_ble_eq_true rfl) vy_X13_want zcl13 zw3020 zw193 (Or.inl zw3018) dX13_klass_91 ?_
  refine s_istore_n hZ.1 dX13_klass_94 rfl (Nat.le_of_ble_eq_true rfl) ?_
  refine s_aload_n hZ.1 dX13_klass_95 rfl ?_
  refine yg13_20 dX13_klass_96 zw4141 ?_
  exact s_if_eq dX13_klass_99 (by decide) (wX13_klass_103 hZ j hj) (wX13_klass_102 hZ j hj)
noncomputable def vX13_klass_90 (j : Nat → rx_K) : rx_K := o_const 0 ((vX13_klass_91 j))
set_option maxRecDepth 20000 in
theorem wX13_klass_90 (hZ : zO b e D A X) (j : Nat → rx_K) (hj : ∀ k pc, [405][k]? = some pc → rx_OK (zV b e D A X) mX13_klass 412 pc (j k)) : rx_OK (zV b e D A X) mX13_klass 412 90 (vX13_klass_90 j) := by
  unfold vX13_klass_90
  refine s_iconst dX13_klass_90 (by decide +kernel) ?_
  exact (wX13_klass_91 hZ j hj)
noncomputable def vX13_klass_86 (j : Nat → rx_K) : rx_K := o_const 8 ((vX13_klass_91 j))
set_option maxRecDepth 20000 in
theorem wX13_klass_86 (hZ : zO b e D A X) (j : Nat → rx_K) (hj : ∀ k pc, [405][k]? = some pc → rx_OK (zV b e D A X) mX13_klass 412 pc (j k)) : rx_OK (zV b e D A X) mX13_klass 412 86 (vX13_klass_86 j) := by
  unfold vX13_klass_86
  refine s_iconst dX13_klass_86 (by decide +kernel) ?_
  exact s_goto dX13_klass_87 (by decide) (wX13_klass_91 hZ j hj)
noncomputable def vX13_klass_70 (j : Nat → rx_K) : rx_K := o_ld rx_isR 0 (o_const 8 (o_ld rx_isR 0 (o_getf 13 23 (o_ld rx_isR 0 (o_getf 13 19 (o_ald 0 (o_const 96 (o_c2 rx_eq (vX13_klass_86 j) (vX13_klass_90 j)))))))))
set_option maxRecDepth 20000 in
theorem wX13_klass_70 (hZ : zO b e D A X) (j : Nat → rx_K) (hj : ∀ k pc, [405][k]? = some pc → rx_OK (zV b e D A X) mX13_klass 412 pc (j k)) : rx_OK (zV b e D A X) mX13_klass 412 70 (vX13_klass_70 j) := by
  unfold vX13_klass_70
  refine s_aload_n hZ.1 dX13_klass_70 rfl ?_
  refine s_iconst dX13_klass_71 (by decide +kernel) ?_
  refine s_aload_n hZ.1 dX13_klass_72 rfl ?_
  refine yg13_23 dX13_klass_73 zw4144 ?_
  refine s_aload_n hZ.1 dX13_klass_76 rfl ?_
  refine yg13_19 dX13_klass_77 zw4140 ?_
  refine s_iald (tt := 0) rfl dX13_klass_80 ?_
  refine s_bipush dX13_klass_81 (by decide +kernel) ?_
  exact s_icmp_ne dX13_klass_83 (by decide) (wX13_klass_90 hZ j hj) (wX13_klass_86 hZ j hj)
noncomputable def vX13_klass_64 (j : Nat → rx_K) : rx_K := o_ld rx_isR 0 (o_const 660 (o_callV 1 13 FX13_wantWord ((vX13_klass_70 j))))
set_option maxRecDepth 20000 in
theorem wX13_klass_64 (hZ : zO b e D A X) (j : Nat → rx_K) (hj : ∀ k pc, [405][k]? = some pc → rx_OK (zV b e D A X) mX13_klass 412 pc (j k)) : rx_OK (zV b e D A X) mX13_klass 412 64 (vX13_klass_64 j) := by
  unfold vX13_klass_64
  refine s_aload_n hZ.1 dX13_klass_64 rfl ?_
  refine s_ldcS (k := 82) (zo_R82 hZ) dX13_klass_65 ?_
  refine s_callV hZ.1 (Met_X13_wantWord hZ) (Nat.le_of_ble_eq_true rfl) vy_X13_wantWord zcl13 zw3012 zw191 (Or.inl zw3010) dX13_klass_67 ?_
  exact (wX13_klass_70 hZ j hj)
noncomputable def vX13_klass_55 (j : Nat → rx_K) : rx_K := o_ld rx_isR 0 (o_callV 0 13 FX13_step (o_const 24 (o_st rx_isI 2 ((vX13_klass_70 j)))))
set_option maxRecDepth 20000 in
theorem wX13_klass_55 (hZ : zO b e D A X) (j : Nat → rx_K) (hj : ∀ k pc, [405][k]? = some pc → rx_OK (zV b e D A X) mX13_klass 412 pc (j k)) : rx_OK (zV b e D A X) mX13_klass 412 55 (vX13_klass_55 j) := by
  unfold vX13_klass_55
  refine s_aload_n hZ.1 dX13_klass_55 rfl ?_
  refine s_callV hZ.1 (Met_X13_step hZ) (Nat.le_of_ble_eq_true rfl) vy_X13_step zcl13 zw2996 zw188 (Or.inl zw2994) dX13_klass_56 ?_
  refine s_iconst dX13_klass_59 (by decide +kernel) ?_
  refine s_istore_n hZ.1 dX13_klass_60 rfl (Nat.le_of_ble_eq_true rfl) ?_
  exact s_goto dX13_klass_61 (by decide) (wX13_klass_70 hZ j hj)
noncomputable def vX13_klass_46 (j : Nat → rx_K) : rx_K := o_ld rx_isR 0 (o_const 564 (o_callV 1 13 FX13_isWordAt (o_c1 rx_eq (vX13_klass_64 j) (vX13_klass_55 j))))
set_option maxRecDepth 20000 in
theorem wX13_klass_46 (hZ : zO b e D A X) (j : Nat → rx_K) (hj : ∀ k pc, [405][k]? = some pc → rx_OK (zV b e D A X) mX13_klass 412 pc (j k)) : rx_OK (zV b e D A X) mX13_klass 412 46 (vX13_klass_46 j) := by
  unfold vX13_klass_46
  refine s_aload_n hZ.1 dX13_klass_46 rfl ?_
  refine s_ldcS (k := 70) (zo_R70 hZ) dX13_klass_47 ?_
  refine s_callV hZ.1 (Met_X13_isWordAt hZ) (Nat.le_of_ble_eq_true rfl) vy_X13_isWordAt zcl13 zw2983 zw186 (Or.inl zw2981) dX13_klass_49 ?_
  exact s_if_eq dX13_klass_52 (by decide) (wX13_klass_64 hZ j hj) (wX13_klass_55 hZ j hj)
noncomputable def vX13_klass_42 (j : Nat → rx_K) : rx_K := o_ld rx_isI 2 (o_c1 rx_eq (vX13_klass_46 j) (vX13_klass_64 j))
set_option maxRecDepth 20000 in
theorem wX13_klass_42 (hZ : zO b e D A X) (j : Nat → rx_K) (hj : ∀ k pc, [405][k]? = some pc → rx_OK (zV b e D A X) mX13_klass 412 pc (j k)) : rx_OK (zV b e D A X) mX13_klass 412 42 (vX13_klass_42 j) := by
  unfold vX13_klass_42
  refine s_iload_n hZ.1 dX13_klass_42 rfl ?_
  exact s_if_ne dX13_klass_43 (by decide) (wX13_klass_64 hZ j hj) (wX13_klass_46 hZ j hj)
noncomputable def vX13_klass_34 (j : Nat → rx_K) : rx_K := o_st rx_isI 2 (o_ld rx_isR 0 (o_getf 13 20 (o_c1 rx_eq (vX13_klass_42 j) (vX13_klass_64 j))))
set_option maxRecDepth 20000 in
theorem wX13_klass_34 (hZ : zO b e D A X) (j : Nat → rx_K) (hj : ∀ k pc, [405][k]? = some pc → rx_OK (zV b e D A X) mX13_klass 412 pc (j k)) : rx_OK (zV b e D A X) mX13_klass 412 34 (vX13_klass_34 j) := by
  unfold vX13_klass_34
  refine s_istore_n hZ.1 dX13_klass_34 rfl (Nat.le_of_ble_eq_true rfl) ?_
  refine s_aload_n hZ.1 dX13_klass_35 rfl ?_
  refine yg13_20 dX13_klass_36 zw4141 ?_
  exact s_if_ne dX13_klass_39 (by decide) (wX13_klass_64 hZ j hj) (wX13_klass_42 hZ j hj)
noncomputable def vX13_klass_33 (j : Nat → rx_K) : rx_K := o_const 0 ((vX13_klass_34 j))
set_option maxRecDepth 20000 in
theorem wX13_klass_33 (hZ : zO b e D A X) (j : Nat → rx_K) (hj : ∀ k pc, [405][k]? = some pc → rx_OK (zV b e D A X) mX13_klass 412 pc (j k)) : rx_OK (zV b e D A X) mX13_klass 412 33 (vX13_klass_33 j) := by
  unfold vX13_klass_33
  refine s_iconst dX13_klass_33 (by decide +kernel) ?_
  exact (wX13_klass_34 hZ j hj)
noncomputable def vX13_klass_29 (j : Nat → rx_K) : rx_K := o_const 16 ((vX13_klass_34 j))
set_option maxRecDepth 20000 in
theorem wX13_klass_29 (hZ : zO b e D A X) (j : Nat → rx_K) (hj : ∀ k pc, [405][k]? = some pc → rx_OK (zV b e D A X) mX13_klass 412 pc (j k)) : rx_OK (zV b e D A X) mX13_klass 412 29 (vX13_klass_29 j) := by
  unfold vX13_klass_29
  refine s_iconst dX13_klass_29 (by decide +kernel) ?_
  exact s_goto dX13_klass_30 (by decide) (wX13_klass_34 hZ j hj)
noncomputable def vX13_klass_20 (j : Nat → rx_K) : rx_K := o_ld rx_isR 0 (o_const 676 (o_callV 1 13 FX13_takesWord (o_c1 rx_eq (vX13_klass_33 j) (vX13_klass_29 j))))
set_option maxRecDepth 20000 in
theorem wX13_klass_20 (hZ : zO b e D A X) (j : Nat → rx_K) (hj : ∀ k pc, [405][k]? = some pc → rx_OK (zV b e D A X) mX13_klass 412 pc (j k)) : rx_OK (zV b e D A X) mX13_klass 412 20 (vX13_klass_20 j) := by
  unfold vX13_klass_20
  refine s_aload_n hZ.1 dX13_klass_20 rfl ?_
  refine s_ldcS (k := 84) (zo_R84 hZ) dX13_klass_21 ?_
  refine s_callV hZ.1 (Met_X13_takesWord hZ) (Nat.le_of_ble_eq_true rfl) vy_X13_takesWord zcl13 zw2979 zw185 (Or.inl zw2977) dX13_klass_23 ?_
  exact s_if_eq dX13_klass_26 (by decide) (wX13_klass_33 hZ j hj) (wX13_klass_29 hZ j hj)
noncomputable def vX13_klass_16 (j : Nat → rx_K) : rx_K := o_const 8 ((vX13_klass_34 j))
set_option maxRecDepth 20000 in
theorem wX13_klass_16 (hZ : zO b e D A X) (j : Nat → rx_K) (hj : ∀ k pc, [405][k]? = some pc → rx_OK (zV b e D A X) mX13_klass 412 pc (j k)) : rx_OK (zV b e D A X) mX13_klass 412 16 (vX13_klass_16 j) := by
  unfold vX13_klass_16
  refine s_iconst dX13_klass_16 (by decide +kernel) ?_
  exact s_goto dX13_klass_17 (by decide) (wX13_klass_34 hZ j hj)
noncomputable def vX13_klass_0 (j : Nat → rx_K) : rx_K := o_ld rx_isR 0 (o_const 532 (o_callV 1 13 FX13_takesWord (o_st rx_isI 1 (o_ld rx_isR 0 (o_const 548 (o_callV 1 13 FX13_takesWord (o_c1 rx_eq (vX13_klass_20 j) (vX13_klass_16 j))))))))
set_option maxRecDepth 20000 in
theorem wX13_klass_0 (hZ : zO b e D A X) (j : Nat → rx_K) (hj : ∀ k pc, [405][k]? = some pc → rx_OK (zV b e D A X) mX13_klass 412 pc (j k)) : rx_OK (zV b e D A X) mX13_klass 412 0 (vX13_klass_0 j) := by
  unfold vX13_klass_0
  refine s_aload_n hZ.1 dX13_klass_0 rfl ?_
  refine s_ldcS (k := 66) (zo_R66 hZ) dX13_klass_1 ?_
  refine s_callV hZ.1 (Met_X13_takesWord hZ) (Nat.le_of_ble_eq_true rfl) vy_X13_takesWord zcl13 zw2979 zw185 (Or.inl zw2977) dX13_klass_3 ?_
  refine s_istore_n hZ.1 dX13_klass_6 rfl (Nat.le_of_ble_eq_true rfl) ?_
  refine s_aload_n hZ.1 dX13_klass_7 rfl ?_
  refine s_ldcS (k := 68) (zo_R68 hZ) dX13_klass_8 ?_
  refine s_callV hZ.1 (Met_X13_takesWord hZ) (Nat.le_of_ble_eq_true rfl) vy_X13_takesWord zcl13 zw2979 zw185 (Or.inl zw2977) dX13_klass_10 ?_
  exact s_if_eq dX13_klass_13 (by decide) (wX13_klass_20 hZ j hj) (wX13_klass_16 hZ j hj)
noncomputable def vhX13_klass (j : Nat → rx_K) : List rx_K := [vX13_klass_405 j]
theorem vlX13_klass (hZ : zO b e D A X) : ∀ n k pc, [405][k]? = some pc → rx_OK (zV b e D A X) mX13_klass 412 pc (rx_J (vhX13_klass) n k) := rx_loop fun j hj k pc h => by
  match k, h with
  | 0, h =>
    have e9 := Option.some.inj (show some 405 = some pc from h)
    subst e9
    exact wX13_klass_405 hZ j hj
  | _ + 1, h => exact absurd h (by simp)
noncomputable def FX13_klass : List Nat → rx_H → Option (Nat × rx_H) := rx_ent 5 (vX13_klass_0 (rx_J (vhX13_klass) 4000000000))
theorem Met_X13_klass (hZ : zO b e D A X) : rx_Met (zV b e D A X) 412 yX13_klass mX13_klass (FX13_klass) := rx_entry hZ.1 (wX13_klass_0 hZ _ (vlX13_klass hZ 4000000000)) (by decide +kernel) rfl (fun h => by cases h)
abbrev mX13_parse : rx_M := (RX13, cX13_parse, 1, none, false)
theorem vy_X13_parse : rx_Y (zV b e D A X) yX13_parse mX13_parse 0 := ⟨zw2967, zw431, by decide, by decide +kernel, by decide +kernel, by decide +kernel⟩
noncomputable def vX13_parse_55 (j : Nat → rx_K) : rx_K := o_ret0
set_option maxRecDepth 20000 in
theorem wX13_parse_55 (hZ : zO b e D A X) (j : Nat → rx_K) (hj : ∀ k pc, [30][k]? = some pc → rx_OK (zV b e D A X) mX13_parse 413 pc (j k)) : rx_OK (zV b e D A X) mX13_parse 413 55 (vX13_parse_55 j) := by
  unfold vX13_parse_55
  exact s_vret rfl dX13_parse_55
noncomputable def vX13_parse_48 (j : Nat → rx_K) : rx_K := o_ld rx_isR 0 (o_callV 0 13 FX13_klass ((j 0)))
set_option maxRecDepth 20000 in
theorem wX13_parse_48 (hZ : zO b e D A X) (j : Nat → rx_K) (hj : ∀ k pc, [30][k]? = some pc → rx_OK (zV b e D A X) mX13_parse 413 pc (j k)) : rx_OK (zV b e D A X) mX13_parse 413 48 (vX13_parse_48 j) := by
  unfold vX13_parse_48
  refine s_aload_n hZ.1 dX13_parse_48 rfl ?_
  refine s_callV hZ.1 (Met_X13_klass hZ) (Nat.le_of_ble_eq_true rfl) vy_X13_klass zcl13 zw2974 zw184 (Or.inl zw2972) dX13_parse_49 ?_
  exact s_goto dX13_parse_52 (by decide) (hj 0 30 rfl)
noncomputable def vX13_parse_37 (j : Nat → rx_K) : rx_K := o_ld rx_isR 0 (o_ld rx_isR 0 (o_getf 13 22 (o_callV 1 13 FX13_kindAt (o_c1 rx_eq (vX13_parse_55 j) (vX13_parse_48 j)))))
set_option maxRecDepth 20000 in
theorem wX13_parse_37 (hZ : zO b e D A X) (j : Nat → rx_K) (hj : ∀ k pc, [30][k]? = some pc → rx_OK (zV b e D A X) mX13_parse 413 pc (j k)) : rx_OK (zV b e D A X) mX13_parse 413 37 (vX13_parse_37 j) := by
  unfold vX13_parse_37
  refine s_aload_n hZ.1 dX13_parse_37 rfl ?_
  refine s_aload_n hZ.1 dX13_parse_38 rfl ?_
  refine yg13_22 dX13_parse_39 zw4143 ?_
  refine s_callV hZ.1 (Met_X13_kindAt hZ) (Nat.le_of_ble_eq_true rfl) vy_X13_kindAt zcl13 zw2970 zw183 (Or.inl zw2968) dX13_parse_42 ?_
  exact s_if_eq dX13_parse_45 (by decide) (wX13_parse_55 hZ j hj) (wX13_parse_48 hZ j hj)
noncomputable def vX13_parse_30 (j : Nat → rx_K) : rx_K := o_ld rx_isR 0 (o_getf 13 20 (o_c1 rx_eq (vX13_parse_37 j) (vX13_parse_55 j)))
set_option maxRecDepth 20000 in
theorem wX13_parse_30 (hZ : zO b e D A X) (j : Nat → rx_K) (hj : ∀ k pc, [30][k]? = some pc → rx_OK (zV b e D A X) mX13_parse 413 pc (j k)) : rx_OK (zV b e D A X) mX13_parse 413 30 (vX13_parse_30 j) := by
  unfold vX13_parse_30
  refine s_aload_n hZ.1 dX13_parse_30 rfl ?_
  refine yg13_20 dX13_parse_31 zw4141 ?_
  exact s_if_ne dX13_parse_34 (by decide) (wX13_parse_55 hZ j hj) (wX13_parse_37 hZ j hj)
noncomputable def vX13_parse_0 (j : Nat → rx_K) : rx_K := o_ld rx_isR 0 (o_const 0 (o_putf rx_isI 13 22 (o_ld rx_isR 0 (o_const 0 (o_putf rx_isI 13 89 (o_ld rx_isR 0 (o_getf 13 23 (o_ld rx_isR 0 (o_getf 13 19 (o_const 0 (o_ast 0 (fun v => v) rx_isI (o_ld rx_isR 0 (o_getf 13 69 (o_ld rx_isR 0 (o_getf 13 19 (o_const 0 (o_ast 0 (fun v => v) rx_isI ((vX13_parse_30 j)))))))))))))))))))
set_option maxRecDepth 20000 in
theorem wX13_parse_0 (hZ : zO b e D A X) (j : Nat → rx_K) (hj : ∀ k pc, [30][k]? = some pc → rx_OK (zV b e D A X) mX13_parse 413 pc (j k)) : rx_OK (zV b e D A X) mX13_parse 413 0 (vX13_parse_0 j) := by
  unfold vX13_parse_0
  refine s_aload_n hZ.1 dX13_parse_0 rfl ?_
  refine s_iconst dX13_parse_1 (by decide +kernel) ?_
  refine yp13_22 hZ.1 dX13_parse_2 zw4143 ?_
  refine s_aload_n hZ.1 dX13_parse_5 rfl ?_
  refine s_iconst dX13_parse_6 (by decide +kernel) ?_
  refine yp13_89 hZ.1 dX13_parse_7 zw4210 ?_
  refine s_aload_n hZ.1 dX13_parse_10 rfl ?_
  refine yg13_23 dX13_parse_11 zw4144 ?_
  refine s_aload_n hZ.1 dX13_parse_14 rfl ?_
  refine yg13_19 dX13_parse_15 zw4140 ?_
  refine s_iconst dX13_parse_18 (by decide +kernel) ?_
  refine s_iast hZ.1 (tt := 0) rfl dX13_parse_19 ?_
  refine s_aload_n hZ.1 dX13_parse_20 rfl ?_
  refine yg13_69 dX13_parse_21 zw4190 ?_
  refine s_aload_n hZ.1 dX13_parse_24 rfl ?_
  refine yg13_19 dX13_parse_25 zw4140 ?_
  refine s_iconst dX13_parse_28 (by decide +kernel) ?_
  refine s_iast hZ.1 (tt := 0) rfl dX13_parse_29 ?_
  exact (wX13_parse_30 hZ j hj)
noncomputable def vhX13_parse (j : Nat → rx_K) : List rx_K := [vX13_parse_30 j]
theorem vlX13_parse (hZ : zO b e D A X) : ∀ n k pc, [30][k]? = some pc → rx_OK (zV b e D A X) mX13_parse 413 pc (rx_J (vhX13_parse) n k) := rx_loop fun j hj k pc h => by
  match k, h with
  | 0, h =>
    have e9 := Option.some.inj (show some 30 = some pc from h)
    subst e9
    exact wX13_parse_30 hZ j hj
  | _ + 1, h => exact absurd h (by simp)
noncomputable def FX13_parse : List Nat → rx_H → Option (Nat × rx_H) := rx_ent 1 (vX13_parse_0 (rx_J (vhX13_parse) 4000000000))
theorem Met_X13_parse (hZ : zO b e D A X) : rx_Met (zV b e D A X) 413 yX13_parse mX13_parse (FX13_parse) := rx_entry hZ.1 (wX13_parse_0 hZ _ (vlX13_parse hZ 4000000000)) (by decide +kernel) rfl (fun h => by cases h)
abbrev mX13_given : rx_M := (RX13, cX13_given, 4, none, false)
theorem vy_X13_given : rx_Y (zV b e D A X) yX13_given mX13_given 0 := ⟨zw4119, zw431, by decide, by decide +kernel, by decide +kernel, by decide +kernel⟩
noncomputable def vX13_given_165 (j : Nat → rx_K) : rx_K := o_ld rx_isR 0 (o_const 58744 (o_callV 1 13 FX13_newMember (o_ld rx_isR 0 (o_getf 13 42 (o_const 58744 (o_const 8 (o_ast 0 (fun v => v) rx_isI (o_ret0))))))))
set_option maxRecDepth 20000 in
theorem wX13_given_165 (hZ : zO b e D A X) (j : Nat → rx_K) (hj : ∀ k pc, [10][k]? = some pc → rx_OK (zV b e D A X) mX13_given 5 pc (j k)) : rx_OK (zV b e D A X) mX13_given 5 165 (vX13_given_165 j) := by
  unfold vX13_given_165
  refine s_aload_n hZ.1 dX13_given_165 rfl ?_
  refine s_sipush dX13_given_166 (by decide +kernel) ?_
  refine s_callV hZ.1 (Met_X13_newMember hZ) (Nat.le_of_ble_eq_true rfl) vy_X13_newMember zcl13 zw3056 zw199 (Or.inl zw3054) dX13_given_169 ?_
  refine s_aload_n hZ.1 dX13_given_172 rfl ?_
  refine yg13_42 dX13_given_173 zw4163 ?_
  refine s_sipush dX13_given_176 (by decide +kernel) ?_
  refine s_iconst dX13_given_179 (by decide +kernel) ?_
  refine s_iast hZ.1 (tt := 0) rfl dX13_given_180 ?_
  exact s_vret rfl dX13_given_181
noncomputable def vX13_given_153 (j : Nat → rx_K) : rx_K := o_ld rx_isI 2 (o_dup2 (o_ald 0 (o_const 8 (o_bi (fun x y => x + y) (o_ast 0 (fun v => v) rx_isI (o_inc 1 (1) ((j 0))))))))
set_option maxRecDepth 20000 in
theorem wX13_given_153 (hZ : zO b e D A X) (j : Nat → rx_K) (hj : ∀ k pc, [10][k]? = some pc → rx_OK (zV b e D A X) mX13_given 5 pc (j k)) : rx_OK (zV b e D A X) mX13_given 5 153 (vX13_given_153 j) := by
  unfold vX13_given_153
  refine s_iload_n hZ.1 dX13_given_153 rfl ?_
  refine s_dup2 hZ.1 dX13_given_154 ?_
  refine s_iald (tt := 0) rfl dX13_given_155 ?_
  refine s_iconst dX13_given_156 (by decide +kernel) ?_
  refine s_iadd dX13_given_157 ?_
  refine s_iast hZ.1 (tt := 0) rfl dX13_given_158 ?_
  refine s_iinc hZ.1 dX13_given_159 (Nat.le_of_ble_eq_true rfl) ?_
  exact s_goto dX13_given_162 (by decide) (hj 0 10 rfl)
noncomputable def vX13_given_118 (j : Nat → rx_K) : rx_K := o_ld rx_isI 2 (o_const 272 (o_bi (fun x y => x * y) (o_ld rx_isR 0 (o_getf 13 41 (o_ld rx_isI 2 (o_ald 0 (o_bi (fun x y => x + y) (o_st rx_isI 3 (o_ld rx_isR 0 (o_ld rx_isI 3 (o_callV 1 13 FX13_newMember (o_ld rx_isR 0 (o_getf 13 42 (o_ld rx_isI 3 (o_const 16 (o_ast 0 (fun v => v) rx_isI (o_ld rx_isR 0 (o_getf 13 44 (o_ld rx_isI 3 (o_const 24 (o_ast 0 (fun v => v) rx_isI (o_ld rx_isR 0 (o_getf 13 41 ((vX13_given_153 j)))))))))))))))))))))))))
set_option maxRecDepth 20000 in
theorem wX13_given_118 (hZ : zO b e D A X) (j : Nat → rx_K) (hj : ∀ k pc, [10][k]? = some pc → rx_OK (zV b e D A X) mX13_given 5 pc (j k)) : rx_OK (zV b e D A X) mX13_given 5 118 (vX13_given_118 j) := by
  unfold vX13_given_118
  refine s_iload_n hZ.1 dX13_given_118 rfl ?_
  refine s_bipush dX13_given_119 (by decide +kernel) ?_
  refine s_imul dX13_given_121 ?_
  refine s_aload_n hZ.1 dX13_given_122 rfl ?_
  refine yg13_41 dX13_given_123 zw4162 ?_
  refine s_iload_n hZ.1 dX13_given_126 rfl ?_
  refine s_iald (tt := 0) rfl dX13_given_127 ?_
  refine s_iadd dX13_given_128 ?_
  refine s_istore_n hZ.1 dX13_given_129 rfl (Nat.le_of_ble_eq_true rfl) ?_
  refine s_aload_n hZ.1 dX13_given_130 rfl ?_
  refine s_iload_n hZ.1 dX13_given_131 rfl ?_
  refine s_callV hZ.1 (Met_X13_newMember hZ) (Nat.le_of_ble_eq_true rfl) vy_X13_newMember zcl13 zw3056 zw199 (Or.inl zw3054) dX13_given_132 ?_
  refine s_aload_n hZ.1 dX13_given_135 rfl ?_
  refine yg13_42 dX13_given_136 zw4163 ?_
  refine s_iload_n hZ.1 dX13_given_139 rfl ?_
  refine s_iconst dX13_given_140 (by decide +kernel) ?_
  refine s_iast hZ.1 (tt := 0) rfl dX13_given_141 ?_
  refine s_aload_n hZ.1 dX13_given_142 rfl ?_
  refine yg13_44 dX13_given_143 zw4165 ?_
  refine s_iload_n hZ.1 dX13_given_146 rfl ?_
  refine s_iconst dX13_given_147 (by decide +kernel) ?_
  refine s_iast hZ.1 (tt := 0) rfl dX13_given_148 ?_
  refine s_aload_n hZ.1 dX13_given_149 rfl ?_
  refine yg13_41 dX13_given_150 zw4162 ?_
  exact (wX13_given_153 hZ j hj)
noncomputable def vX13_given_103 (j : Nat → rx_K) : rx_K := o_getf 13 53 (o_ld rx_isI 3 (o_const 17 (o_ast 1 (fun v => v) rx_isL (o_ld rx_isR 0 (o_getf 13 41 (o_ld rx_isI 2 (o_const 8 (o_ast 0 (fun v => v) rx_isI ((vX13_given_118 j))))))))))
set_option maxRecDepth 20000 in
theorem wX13_given_103 (hZ : zO b e D A X) (j : Nat → rx_K) (hj : ∀ k pc, [10][k]? = some pc → rx_OK (zV b e D A X) mX13_given 5 pc (j k)) : rx_OK (zV b e D A X) mX13_given 5 103 (vX13_given_103 j) := by
  unfold vX13_given_103
  refine yg13_53 dX13_given_103 zw4174 ?_
  refine s_iload_n hZ.1 dX13_given_106 rfl ?_
  refine s_ldc2 dX13_given_107 zw3066 (by decide +kernel) ?_
  refine s_last (tt := 1) rfl dX13_given_110 ?_
  refine s_aload_n hZ.1 dX13_given_111 rfl ?_
  refine yg13_41 dX13_given_112 zw4162 ?_
  refine s_iload_n hZ.1 dX13_given_115 rfl ?_
  refine s_iconst dX13_given_116 (by decide +kernel) ?_
  refine s_iast hZ.1 (tt := 0) rfl dX13_given_117 ?_
  exact (wX13_given_118 hZ j hj)
noncomputable def vX13_given_66 (j : Nat → rx_K) : rx_K := o_ld rx_isI 2 (o_const 272 (o_bi (fun x y => x * y) (o_st rx_isI 3 (o_ld rx_isR 0 (o_ld rx_isI 3 (o_callV 1 13 FX13_newMember (o_ld rx_isR 0 (o_getf 13 42 (o_ld rx_isI 3 (o_const 0 (o_ast 0 (fun v => v) rx_isI (o_ld rx_isR 0 (o_getf 13 44 (o_ld rx_isI 3 (o_const 24 (o_ast 0 (fun v => v) rx_isI (o_ld rx_isR 0 (o_getf 13 51 (o_ld rx_isI 3 (o_const 980 (o_callS 1 FX13_nameOf (o_ast 1 (fun v => v) rx_isL (o_ld rx_isR 0 ((vX13_given_103 j)))))))))))))))))))))))))
set_option maxRecDepth 20000 in
theorem wX13_given_66 (hZ : zO b e D A X) (j : Nat → rx_K) (hj : ∀ k pc, [10][k]? = some pc → rx_OK (zV b e D A X) mX13_given 5 pc (j k)) : rx_OK (zV b e D A X) mX13_given 5 66 (vX13_given_66 j) := by
  unfold vX13_given_66
  refine s_iload_n hZ.1 dX13_given_66 rfl ?_
  refine s_bipush dX13_given_67 (by decide +kernel) ?_
  refine s_imul dX13_given_69 ?_
  refine s_istore_n hZ.1 dX13_given_70 rfl (Nat.le_of_ble_eq_true rfl) ?_
  refine s_aload_n hZ.1 dX13_given_71 rfl ?_
  refine s_iload_n hZ.1 dX13_given_72 rfl ?_
  refine s_callV hZ.1 (Met_X13_newMember hZ) (Nat.le_of_ble_eq_true rfl) vy_X13_newMember zcl13 zw3056 zw199 (Or.inl zw3054) dX13_given_73 ?_
  refine s_aload_n hZ.1 dX13_given_76 rfl ?_
  refine yg13_42 dX13_given_77 zw4163 ?_
  refine s_iload_n hZ.1 dX13_given_80 rfl ?_
  refine s_iconst dX13_given_81 (by decide +kernel) ?_
  refine s_iast hZ.1 (tt := 0) rfl dX13_given_82 ?_
  refine s_aload_n hZ.1 dX13_given_83 rfl ?_
  refine yg13_44 dX13_given_84 zw4165 ?_
  refine s_iload_n hZ.1 dX13_given_87 rfl ?_
  refine s_iconst dX13_given_88 (by decide +kernel) ?_
  refine s_iast hZ.1 (tt := 0) rfl dX13_given_89 ?_
  refine s_aload_n hZ.1 dX13_given_90 rfl ?_
  refine yg13_51 dX13_given_91 zw4172 ?_
  refine s_iload_n hZ.1 dX13_given_94 rfl ?_
  refine s_ldcwS (k := 122) (zo_R122 hZ) dX13_given_95 ?_
  refine s_callS hZ.1 (Met_X13_nameOf hZ) (Nat.le_of_ble_eq_true rfl) vy_X13_nameOf zw2990 (Or.inl zw2989) dX13_given_98 ?_
  refine s_last (tt := 1) rfl dX13_given_101 ?_
  refine s_aload_n hZ.1 dX13_given_102 rfl ?_
  exact (wX13_given_103 hZ j hj)
noncomputable def vX13_given_39 (j : Nat → rx_K) : rx_K := o_ast 1 (fun v => v) rx_isL (o_ld rx_isR 0 (o_getf 13 26 (o_ld rx_isI 2 (o_const 8 (o_ast 3 (fun v => v) rx_isZ (o_ld rx_isR 0 (o_getf 13 27 (o_ld rx_isI 2 (o_const 0 (o_ast 0 (fun v => v) rx_isI (o_ld rx_isR 0 (o_getf 13 41 (o_ld rx_isI 2 (o_const 0 (o_ast 0 (fun v => v) rx_isI (o_ld rx_isI 1 (o_const 8 (o_c2 rx_eq (vX13_given_66 j) (vX13_given_118 j)))))))))))))))))))
set_option maxRecDepth 20000 in
theorem wX13_given_39 (hZ : zO b e D A X) (j : Nat → rx_K) (hj : ∀ k pc, [10][k]? = some pc → rx_OK (zV b e D A X) mX13_given 5 pc (j k)) : rx_OK (zV b e D A X) mX13_given 5 39 (vX13_given_39 j) := by
  unfold vX13_given_39
  refine s_last (tt := 1) rfl dX13_given_39 ?_
  refine s_aload_n hZ.1 dX13_given_40 rfl ?_
  refine yg13_26 dX13_given_41 zw4147 ?_
  refine s_iload_n hZ.1 dX13_given_44 rfl ?_
  refine s_iconst dX13_given_45 (by decide +kernel) ?_
  refine s_zast (tt := 3) rfl dX13_given_46 ?_
  refine s_aload_n hZ.1 dX13_given_47 rfl ?_
  refine yg13_27 dX13_given_48 zw4148 ?_
  refine s_iload_n hZ.1 dX13_given_51 rfl ?_
  refine s_iconst dX13_given_52 (by decide +kernel) ?_
  refine s_iast hZ.1 (tt := 0) rfl dX13_given_53 ?_
  refine s_aload_n hZ.1 dX13_given_54 rfl ?_
  refine yg13_41 dX13_given_55 zw4162 ?_
  refine s_iload_n hZ.1 dX13_given_58 rfl ?_
  refine s_iconst dX13_given_59 (by decide +kernel) ?_
  refine s_iast hZ.1 (tt := 0) rfl dX13_given_60 ?_
  refine s_iload_n hZ.1 dX13_given_61 rfl ?_
  refine s_iconst dX13_given_62 (by decide +kernel) ?_
  exact s_icmp_ne dX13_given_63 (by decide) (wX13_given_118 hZ j hj) (wX13_given_66 hZ j hj)
noncomputable def vX13_given_36 (j : Nat → rx_K) : rx_K := o_const 18446744073765230689 ((vX13_given_39 j))
set_option maxRecDepth 20000 in
theorem wX13_given_36 (hZ : zO b e D A X) (j : Nat → rx_K) (hj : ∀ k pc, [10][k]? = some pc → rx_OK (zV b e D A X) mX13_given 5 pc (j k)) : rx_OK (zV b e D A X) mX13_given 5 36 (vX13_given_36 j) := by
  unfold vX13_given_36
  refine s_ldc2 dX13_given_36 zw3189 (by decide +kernel) ?_
  exact (wX13_given_39 hZ j hj)
noncomputable def vX13_given_30 (j : Nat → rx_K) : rx_K := o_const 18446744073764969673 ((vX13_given_39 j))
set_option maxRecDepth 20000 in
theorem wX13_given_30 (hZ : zO b e D A X) (j : Nat → rx_K) (hj : ∀ k pc, [10][k]? = some pc → rx_OK (zV b e D A X) mX13_given 5 pc (j k)) : rx_OK (zV b e D A X) mX13_given 5 30 (vX13_given_30 j) := by
  unfold vX13_given_30
  refine s_ldc2 dX13_given_30 zw3188 (by decide +kernel) ?_
  exact s_goto dX13_given_33 (by decide) (wX13_given_39 hZ j hj)
noncomputable def vX13_given_15 (j : Nat → rx_K) : rx_K := o_const 1632 (o_ld rx_isI 1 (o_bi (fun x y => x + y) (o_st rx_isI 2 (o_ld rx_isR 0 (o_getf 13 24 (o_ld rx_isI 2 (o_ld rx_isI 1 (o_c1 rx_eq (vX13_given_30 j) (vX13_given_36 j)))))))))
set_option maxRecDepth 20000 in
theorem wX13_given_15 (hZ : zO b e D A X) (j : Nat → rx_K) (hj : ∀ k pc, [10][k]? = some pc → rx_OK (zV b e D A X) mX13_given 5 pc (j k)) : rx_OK (zV b e D A X) mX13_given 5 15 (vX13_given_15 j) := by
  unfold vX13_given_15
  refine s_sipush dX13_given_15 (by decide +kernel) ?_
  refine s_iload_n hZ.1 dX13_given_18 rfl ?_
  refine s_iadd dX13_given_19 ?_
  refine s_istore_n hZ.1 dX13_given_20 rfl (Nat.le_of_ble_eq_true rfl) ?_
  refine s_aload_n hZ.1 dX13_given_21 rfl ?_
  refine yg13_24 dX13_given_22 zw4145 ?_
  refine s_iload_n hZ.1 dX13_given_25 rfl ?_
  refine s_iload_n hZ.1 dX13_given_26 rfl ?_
  exact s_if_ne dX13_given_27 (by decide) (wX13_given_36 hZ j hj) (wX13_given_30 hZ j hj)
noncomputable def vX13_given_10 (j : Nat → rx_K) : rx_K := o_ld rx_isI 1 (o_const 16 (o_c2 rx_lt (vX13_given_15 j) (vX13_given_165 j)))
set_option maxRecDepth 20000 in
theorem wX13_given_10 (hZ : zO b e D A X) (j : Nat → rx_K) (hj : ∀ k pc, [10][k]? = some pc → rx_OK (zV b e D A X) mX13_given 5 pc (j k)) : rx_OK (zV b e D A X) mX13_given 5 10 (vX13_given_10 j) := by
  unfold vX13_given_10
  refine s_iload_n hZ.1 dX13_given_10 rfl ?_
  refine s_iconst dX13_given_11 (by decide +kernel) ?_
  exact s_icmp_ge dX13_given_12 (by decide) (wX13_given_165 hZ j hj) (wX13_given_15 hZ j hj)
noncomputable def vX13_given_0 (j : Nat → rx_K) : rx_K := o_ld rx_isR 0 (o_getf 13 23 (o_const 136 (o_const 16 (o_ast 0 (fun v => v) rx_isI (o_const 0 (o_st rx_isI 1 ((vX13_given_10 j))))))))
set_option maxRecDepth 20000 in
theorem wX13_given_0 (hZ : zO b e D A X) (j : Nat → rx_K) (hj : ∀ k pc, [10][k]? = some pc → rx_OK (zV b e D A X) mX13_given 5 pc (j k)) : rx_OK (zV b e D A X) mX13_given 5 0 (vX13_given_0 j) := by
  unfold vX13_given_0
  refine s_aload_n hZ.1 dX13_given_0 rfl ?_
  refine yg13_23 dX13_given_1 zw4144 ?_
  refine s_bipush dX13_given_4 (by decide +kernel) ?_
  refine s_iconst dX13_given_6 (by decide +kernel) ?_
  refine s_iast hZ.1 (tt := 0) rfl dX13_given_7 ?_
  refine s_iconst dX13_given_8 (by decide +kernel) ?_
  refine s_istore_n hZ.1 dX13_given_9 rfl (Nat.le_of_ble_eq_true rfl) ?_
  exact (wX13_given_10 hZ j hj)
noncomputable def vhX13_given (j : Nat → rx_K) : List rx_K := [vX13_given_10 j]
theorem vlX13_given (hZ : zO b e D A X) : ∀ n k pc, [10][k]? = some pc → rx_OK (zV b e D A X) mX13_given 5 pc (rx_J (vhX13_given) n k) := rx_loop fun j hj k pc h => by
  match k, h with
  | 0, h =>
    have e9 := Option.some.inj (show some 10 = some pc from h)
    subst e9
    exact wX13_given_10 hZ j hj
  | _ + 1, h => exact absurd h (by simp)
noncomputable def FX13_given : List Nat → rx_H → Option (Nat × rx_H) := rx_ent 4 (vX13_given_0 (rx_J (vhX13_given) 4000000000))
theorem Met_X13_given (hZ : zO b e D A X) : rx_Met (zV b e D A X) 5 yX13_given mX13_given (FX13_given) := rx_entry hZ.1 (wX13_given_0 hZ _ (vlX13_given hZ 4000000000)) (by decide +kernel) rfl (fun h => by cases h)
abbrev mX13_inSlot : rx_M := (RX13, cX13_inSlot, 5, (some .int), false)
theorem vy_X13_inSlot : rx_Y (zV b e D A X) yX13_inSlot mX13_inSlot 2 := ⟨zw3175, zw431, by decide, by decide +kernel, by decide +kernel, by decide +kernel⟩
noncomputable def vX13_inSlot_45 (j : Nat → rx_K) : rx_K := o_const 34359738352 (o_ret1 rx_isI)
set_option maxRecDepth 20000 in
theorem wX13_inSlot_45 (hZ : zO b e D A X) (j : Nat → rx_K) (hj : ∀ k pc, [3][k]? = some pc → rx_OK (zV b e D A X) mX13_inSlot 0 pc (j k)) : rx_OK (zV b e D A X) mX13_inSlot 0 45 (vX13_inSlot_45 j) := by
  unfold vX13_inSlot_45
  refine s_bipush dX13_inSlot_45 (by decide +kernel) ?_
  exact s_iret hZ.1 rfl dX13_inSlot_47
noncomputable def vX13_inSlot_39 (j : Nat → rx_K) : rx_K := o_inc 4 (1) ((j 0))
set_option maxRecDepth 20000 in
theorem wX13_inSlot_39 (hZ : zO b e D A X) (j : Nat → rx_K) (hj : ∀ k pc, [3][k]? = some pc → rx_OK (zV b e D A X) mX13_inSlot 0 pc (j k)) : rx_OK (zV b e D A X) mX13_inSlot 0 39 (vX13_inSlot_39 j) := by
  unfold vX13_inSlot_39
  refine s_iinc hZ.1 dX13_inSlot_39 (Nat.le_of_ble_eq_true rfl) ?_
  exact s_goto dX13_inSlot_42 (by decide) (hj 0 3 rfl)
noncomputable def vX13_inSlot_31 (j : Nat → rx_K) : rx_K := o_ld rx_isI 1 (o_const 96 (o_bi (fun x y => x * y) (o_ld rx_isI 4 (o_bi (fun x y => x + y) (o_ret1 rx_isI)))))
set_option maxRecDepth 20000 in
theorem wX13_inSlot_31 (hZ : zO b e D A X) (j : Nat → rx_K) (hj : ∀ k pc, [3][k]? = some pc → rx_OK (zV b e D A X) mX13_inSlot 0 pc (j k)) : rx_OK (zV b e D A X) mX13_inSlot 0 31 (vX13_inSlot_31 j) := by
  unfold vX13_inSlot_31
  refine s_iload_n hZ.1 dX13_inSlot_31 rfl ?_
  refine s_bipush dX13_inSlot_32 (by decide +kernel) ?_
  refine s_imul dX13_inSlot_34 ?_
  refine s_iload hZ.1 dX13_inSlot_35 ?_
  refine s_iadd dX13_inSlot_37 ?_
  exact s_iret hZ.1 rfl dX13_inSlot_38
noncomputable def vX13_inSlot_14 (j : Nat → rx_K) : rx_K := o_ld rx_isR 0 (o_getf 13 24 (o_ld rx_isI 1 (o_const 96 (o_bi (fun x y => x * y) (o_ld rx_isI 4 (o_bi (fun x y => x + y) (o_ald 1 (o_ld rx_isL 2 (o_bc (fun x y => lg_cmp x y) (o_c1 rx_eq (vX13_inSlot_31 j) (vX13_inSlot_39 j)))))))))))
set_option maxRecDepth 20000 in
theorem wX13_inSlot_14 (hZ : zO b e D A X) (j : Nat → rx_K) (hj : ∀ k pc, [3][k]? = some pc → rx_OK (zV b e D A X) mX13_inSlot 0 pc (j k)) : rx_OK (zV b e D A X) mX13_inSlot 0 14 (vX13_inSlot_14 j) := by
  unfold vX13_inSlot_14
  refine s_aload_n hZ.1 dX13_inSlot_14 rfl ?_
  refine yg13_24 dX13_inSlot_15 zw4145 ?_
  refine s_iload_n hZ.1 dX13_inSlot_18 rfl ?_
  refine s_bipush dX13_inSlot_19 (by decide +kernel) ?_
  refine s_imul dX13_inSlot_21 ?_
  refine s_iload hZ.1 dX13_inSlot_22 ?_
  refine s_iadd dX13_inSlot_24 ?_
  refine s_lald (tt := 1) rfl dX13_inSlot_25 ?_
  refine s_lload_n hZ.1 dX13_inSlot_26 rfl ?_
  refine s_lcmp dX13_inSlot_27 ?_
  exact s_if_ne dX13_inSlot_28 (by decide) (wX13_inSlot_39 hZ j hj) (wX13_inSlot_31 hZ j hj)
noncomputable def vX13_inSlot_3 (j : Nat → rx_K) : rx_K := o_ld rx_isI 4 (o_ld rx_isR 0 (o_getf 13 23 (o_ld rx_isI 1 (o_ald 0 (o_c2 rx_lt (vX13_inSlot_14 j) (vX13_inSlot_45 j))))))
set_option maxRecDepth 20000 in
theorem wX13_inSlot_3 (hZ : zO b e D A X) (j : Nat → rx_K) (hj : ∀ k pc, [3][k]? = some pc → rx_OK (zV b e D A X) mX13_inSlot 0 pc (j k)) : rx_OK (zV b e D A X) mX13_inSlot 0 3 (vX13_inSlot_3 j) := by
  unfold vX13_inSlot_3
  refine s_iload hZ.1 dX13_inSlot_3 ?_
  refine s_aload_n hZ.1 dX13_inSlot_5 rfl ?_
  refine yg13_23 dX13_inSlot_6 zw4144 ?_
  refine s_iload_n hZ.1 dX13_inSlot_9 rfl ?_
  refine s_iald (tt := 0) rfl dX13_inSlot_10 ?_
  exact s_icmp_ge dX13_inSlot_11 (by decide) (wX13_inSlot_45 hZ j hj) (wX13_inSlot_14 hZ j hj)
noncomputable def vX13_inSlot_0 (j : Nat → rx_K) : rx_K := o_const 0 (o_st rx_isI 4 ((vX13_inSlot_3 j)))
set_option maxRecDepth 20000 in
theorem wX13_inSlot_0 (hZ : zO b e D A X) (j : Nat → rx_K) (hj : ∀ k pc, [3][k]? = some pc → rx_OK (zV b e D A X) mX13_inSlot 0 pc (j k)) : rx_OK (zV b e D A X) mX13_inSlot 0 0 (vX13_inSlot_0 j) := by
  unfold vX13_inSlot_0
  refine s_iconst dX13_inSlot_0 (by decide +kernel) ?_
  refine s_istore hZ.1 dX13_inSlot_1 (Nat.le_of_ble_eq_true rfl) ?_
  exact (wX13_inSlot_3 hZ j hj)
noncomputable def vhX13_inSlot (j : Nat → rx_K) : List rx_K := [vX13_inSlot_3 j]
theorem vlX13_inSlot (hZ : zO b e D A X) : ∀ n k pc, [3][k]? = some pc → rx_OK (zV b e D A X) mX13_inSlot 0 pc (rx_J (vhX13_inSlot) n k) := rx_loop fun j hj k pc h => by
  match k, h with
  | 0, h =>
    have e9 := Option.some.inj (show some 3 = some pc from h)
    subst e9
    exact wX13_inSlot_3 hZ j hj
  | _ + 1, h => exact absurd h (by simp)
noncomputable def FX13_inSlot : List Nat → rx_H → Option (Nat × rx_H) := rx_ent 5 (vX13_inSlot_0 (rx_J (vhX13_inSlot) 4000000000))
theorem Met_X13_inSlot (hZ : zO b e D A X) : rx_Met (zV b e D A X) 0 yX13_inSlot mX13_inSlot (FX13_inSlot) := rx_entry hZ.1 (wX13_inSlot_0 hZ _ (vlX13_inSlot hZ 4000000000)) (by decide +kernel) rfl (fun h => by cases h)
abbrev mX13_find : rx_M := (RX13, cX13_find, 6, (some .int), false)
theorem vy_X13_find : rx_Y (zV b e D A X) yX13_find mX13_find 1 := ⟨zw3187, zw431, by decide, by decide +kernel, by decide +kernel, by decide +kernel⟩
noncomputable def vX13_find_150 (j : Nat → rx_K) : rx_K := o_ld rx_isI 3 (o_ret1 rx_isI)
set_option maxRecDepth 20000 in
theorem wX13_find_150 (hZ : zO b e D A X) (j : Nat → rx_K) (hj : ∀ k pc, [67][k]? = some pc → rx_OK (zV b e D A X) mX13_find 1 pc (j k)) : rx_OK (zV b e D A X) mX13_find 1 150 (vX13_find_150 j) := by
  unfold vX13_find_150
  refine s_iload_n hZ.1 dX13_find_150 rfl ?_
  exact s_iret hZ.1 rfl dX13_find_151
noncomputable def vX13_find_143 (j : Nat → rx_K) : rx_K := o_st rx_isI 3 (o_inc 4 (1) ((j 0)))
set_option maxRecDepth 20000 in
theorem wX13_find_143 (hZ : zO b e D A X) (j : Nat → rx_K) (hj : ∀ k pc, [67][k]? = some pc → rx_OK (zV b e D A X) mX13_find 1 pc (j k)) : rx_OK (zV b e D A X) mX13_find 1 143 (vX13_find_143 j) := by
  unfold vX13_find_143
  refine s_istore_n hZ.1 dX13_find_143 rfl (Nat.le_of_ble_eq_true rfl) ?_
  refine s_iinc hZ.1 dX13_find_144 (Nat.le_of_ble_eq_true rfl) ?_
  exact s_goto dX13_find_147 (by decide) (hj 0 67 rfl)
noncomputable def vX13_find_141 (j : Nat → rx_K) : rx_K := o_const 34359738352 ((vX13_find_143 j))
set_option maxRecDepth 20000 in
theorem wX13_find_141 (hZ : zO b e D A X) (j : Nat → rx_K) (hj : ∀ k pc, [67][k]? = some pc → rx_OK (zV b e D A X) mX13_find 1 pc (j k)) : rx_OK (zV b e D A X) mX13_find 1 141 (vX13_find_141 j) := by
  unfold vX13_find_141
  refine s_bipush dX13_find_141 (by decide +kernel) ?_
  exact (wX13_find_143 hZ j hj)
noncomputable def vX13_find_126 (j : Nat → rx_K) : rx_K := o_ld rx_isR 0 (o_ld rx_isR 0 (o_getf 13 90 (o_ld rx_isI 4 (o_ald 0 (o_ld rx_isL 1 (o_callV 2 13 FX13_inSlot ((vX13_find_143 j))))))))
set_option maxRecDepth 20000 in
theorem wX13_find_126 (hZ : zO b e D A X) (j : Nat → rx_K) (hj : ∀ k pc, [67][k]? = some pc → rx_OK (zV b e D A X) mX13_find 1 pc (j k)) : rx_OK (zV b e D A X) mX13_find 1 126 (vX13_find_126 j) := by
  unfold vX13_find_126
  refine s_aload_n hZ.1 dX13_find_126 rfl ?_
  refine s_aload_n hZ.1 dX13_find_127 rfl ?_
  refine yg13_90 dX13_find_128 zw4211 ?_
  refine s_iload hZ.1 dX13_find_131 ?_
  refine s_iald (tt := 0) rfl dX13_find_133 ?_
  refine s_lload_n hZ.1 dX13_find_134 rfl ?_
  refine s_callV hZ.1 (Met_X13_inSlot hZ) (Nat.le_of_ble_eq_true rfl) vy_X13_inSlot zcl13 zw3174 zw225 (Or.inl zw3172) dX13_find_135 ?_
  exact s_goto dX13_find_138 (by decide) (wX13_find_143 hZ j hj)
noncomputable def vX13_find_119 (j : Nat → rx_K) : rx_K := o_st rx_isI 5 (o_ld rx_isI 5 (o_c1 rx_eq (vX13_find_141 j) (vX13_find_126 j)))
set_option maxRecDepth 20000 in
theorem wX13_find_119 (hZ : zO b e D A X) (j : Nat → rx_K) (hj : ∀ k pc, [67][k]? = some pc → rx_OK (zV b e D A X) mX13_find 1 pc (j k)) : rx_OK (zV b e D A X) mX13_find 1 119 (vX13_find_119 j) := by
  unfold vX13_find_119
  refine s_istore hZ.1 dX13_find_119 (Nat.le_of_ble_eq_true rfl) ?_
  refine s_iload hZ.1 dX13_find_121 ?_
  exact s_if_eq dX13_find_123 (by decide) (wX13_find_141 hZ j hj) (wX13_find_126 hZ j hj)
noncomputable def vX13_find_118 (j : Nat → rx_K) : rx_K := o_const 0 ((vX13_find_119 j))
set_option maxRecDepth 20000 in
theorem wX13_find_118 (hZ : zO b e D A X) (j : Nat → rx_K) (hj : ∀ k pc, [67][k]? = some pc → rx_OK (zV b e D A X) mX13_find 1 pc (j k)) : rx_OK (zV b e D A X) mX13_find 1 118 (vX13_find_118 j) := by
  unfold vX13_find_118
  refine s_iconst dX13_find_118 (by decide +kernel) ?_
  exact (wX13_find_119 hZ j hj)
noncomputable def vX13_find_114 (j : Nat → rx_K) : rx_K := o_const 8 ((vX13_find_119 j))
set_option maxRecDepth 20000 in
theorem wX13_find_114 (hZ : zO b e D A X) (j : Nat → rx_K) (hj : ∀ k pc, [67][k]? = some pc → rx_OK (zV b e D A X) mX13_find 1 pc (j k)) : rx_OK (zV b e D A X) mX13_find 1 114 (vX13_find_114 j) := by
  unfold vX13_find_114
  refine s_iconst dX13_find_114 (by decide +kernel) ?_
  exact s_goto dX13_find_115 (by decide) (wX13_find_119 hZ j hj)
noncomputable def vX13_find_100 (j : Nat → rx_K) : rx_K := o_ld rx_isI 4 (o_ld rx_isR 0 (o_getf 13 7 (o_ld rx_isR 0 (o_getf 13 91 (o_ald 0 (o_c2 rx_eq (vX13_find_118 j) (vX13_find_114 j)))))))
set_option maxRecDepth 20000 in
theorem wX13_find_100 (hZ : zO b e D A X) (j : Nat → rx_K) (hj : ∀ k pc, [67][k]? = some pc → rx_OK (zV b e D A X) mX13_find 1 pc (j k)) : rx_OK (zV b e D A X) mX13_find 1 100 (vX13_find_100 j) := by
  unfold vX13_find_100
  refine s_iload hZ.1 dX13_find_100 ?_
  refine s_aload_n hZ.1 dX13_find_102 rfl ?_
  refine yg13_7 dX13_find_103 zw4128 ?_
  refine s_aload_n hZ.1 dX13_find_106 rfl ?_
  refine yg13_91 dX13_find_107 zw4212 ?_
  refine s_iald (tt := 0) rfl dX13_find_110 ?_
  exact s_icmp_eq dX13_find_111 (by decide) (wX13_find_118 hZ j hj) (wX13_find_114 hZ j hj)
noncomputable def vX13_find_91 (j : Nat → rx_K) : rx_K := o_ld rx_isR 0 (o_getf 13 91 (o_const 34359738352 (o_c2 rx_eq (vX13_find_114 j) (vX13_find_100 j))))
set_option maxRecDepth 20000 in
theorem wX13_find_91 (hZ : zO b e D A X) (j : Nat → rx_K) (hj : ∀ k pc, [67][k]? = some pc → rx_OK (zV b e D A X) mX13_find 1 pc (j k)) : rx_OK (zV b e D A X) mX13_find 1 91 (vX13_find_91 j) := by
  unfold vX13_find_91
  refine s_aload_n hZ.1 dX13_find_91 rfl ?_
  refine yg13_91 dX13_find_92 zw4212 ?_
  refine s_bipush dX13_find_95 (by decide +kernel) ?_
  exact s_icmp_eq dX13_find_97 (by decide) (wX13_find_114 hZ j hj) (wX13_find_100 hZ j hj)
noncomputable def vX13_find_79 (j : Nat → rx_K) : rx_K := o_ld rx_isR 0 (o_getf 13 90 (o_ld rx_isI 4 (o_ald 0 (o_const 34359738352 (o_c2 rx_eq (vX13_find_118 j) (vX13_find_91 j))))))
set_option maxRecDepth 20000 in
theorem wX13_find_79 (hZ : zO b e D A X) (j : Nat → rx_K) (hj : ∀ k pc, [67][k]? = some pc → rx_OK (zV b e D A X) mX13_find 1 pc (j k)) : rx_OK (zV b e D A X) mX13_find 1 79 (vX13_find_79 j) := by
  unfold vX13_find_79
  refine s_aload_n hZ.1 dX13_find_79 rfl ?_
  refine yg13_90 dX13_find_80 zw4211 ?_
  refine s_iload hZ.1 dX13_find_83 ?_
  refine s_iald (tt := 0) rfl dX13_find_85 ?_
  refine s_bipush dX13_find_86 (by decide +kernel) ?_
  exact s_icmp_eq dX13_find_88 (by decide) (wX13_find_118 hZ j hj) (wX13_find_91 hZ j hj)
noncomputable def vX13_find_73 (j : Nat → rx_K) : rx_K := o_ld rx_isI 3 (o_const 34359738352 (o_c2 rx_eq (vX13_find_79 j) (vX13_find_150 j)))
set_option maxRecDepth 20000 in
theorem wX13_find_73 (hZ : zO b e D A X) (j : Nat → rx_K) (hj : ∀ k pc, [67][k]? = some pc → rx_OK (zV b e D A X) mX13_find 1 pc (j k)) : rx_OK (zV b e D A X) mX13_find 1 73 (vX13_find_73 j) := by
  unfold vX13_find_73
  refine s_iload_n hZ.1 dX13_find_73 rfl ?_
  refine s_bipush dX13_find_74 (by decide +kernel) ?_
  exact s_icmp_ne dX13_find_76 (by decide) (wX13_find_150 hZ j hj) (wX13_find_79 hZ j hj)
noncomputable def vX13_find_67 (j : Nat → rx_K) : rx_K := o_ld rx_isI 4 (o_const 40 (o_c2 rx_lt (vX13_find_73 j) (vX13_find_150 j)))
set_option maxRecDepth 20000 in
theorem wX13_find_67 (hZ : zO b e D A X) (j : Nat → rx_K) (hj : ∀ k pc, [67][k]? = some pc → rx_OK (zV b e D A X) mX13_find 1 pc (j k)) : rx_OK (zV b e D A X) mX13_find 1 67 (vX13_find_67 j) := by
  unfold vX13_find_67
  refine s_iload hZ.1 dX13_find_67 ?_
  refine s_iconst dX13_find_69 (by decide +kernel) ?_
  exact s_icmp_ge dX13_find_70 (by decide) (wX13_find_150 hZ j hj) (wX13_find_73 hZ j hj)
noncomputable def vX13_find_64 (j : Nat → rx_K) : rx_K := o_const 0 (o_st rx_isI 4 ((vX13_find_67 j)))
set_option maxRecDepth 20000 in
theorem wX13_find_64 (hZ : zO b e D A X) (j : Nat → rx_K) (hj : ∀ k pc, [67][k]? = some pc → rx_OK (zV b e D A X) mX13_find 1 pc (j k)) : rx_OK (zV b e D A X) mX13_find 1 64 (vX13_find_64 j) := by
  unfold vX13_find_64
  refine s_iconst dX13_find_64 (by decide +kernel) ?_
  refine s_istore hZ.1 dX13_find_65 (Nat.le_of_ble_eq_true rfl) ?_
  exact (wX13_find_67 hZ j hj)
noncomputable def vX13_find_63 (j : Nat → rx_K) : rx_K := o_ret1 rx_isI
set_option maxRecDepth 20000 in
theorem wX13_find_63 (hZ : zO b e D A X) (j : Nat → rx_K) (hj : ∀ k pc, [67][k]? = some pc → rx_OK (zV b e D A X) mX13_find 1 pc (j k)) : rx_OK (zV b e D A X) mX13_find 1 63 (vX13_find_63 j) := by
  unfold vX13_find_63
  exact s_iret hZ.1 rfl dX13_find_63
noncomputable def vX13_find_60 (j : Nat → rx_K) : rx_K := o_const 1640 ((vX13_find_63 j))
set_option maxRecDepth 20000 in
theorem wX13_find_60 (hZ : zO b e D A X) (j : Nat → rx_K) (hj : ∀ k pc, [67][k]? = some pc → rx_OK (zV b e D A X) mX13_find 1 pc (j k)) : rx_OK (zV b e D A X) mX13_find 1 60 (vX13_find_60 j) := by
  unfold vX13_find_60
  refine s_sipush dX13_find_60 (by decide +kernel) ?_
  exact (wX13_find_63 hZ j hj)
noncomputable def vX13_find_54 (j : Nat → rx_K) : rx_K := o_const 1632 ((vX13_find_63 j))
set_option maxRecDepth 20000 in
theorem wX13_find_54 (hZ : zO b e D A X) (j : Nat → rx_K) (hj : ∀ k pc, [67][k]? = some pc → rx_OK (zV b e D A X) mX13_find 1 pc (j k)) : rx_OK (zV b e D A X) mX13_find 1 54 (vX13_find_54 j) := by
  unfold vX13_find_54
  refine s_sipush dX13_find_54 (by decide +kernel) ?_
  exact s_goto dX13_find_57 (by decide) (wX13_find_63 hZ j hj)
noncomputable def vX13_find_46 (j : Nat → rx_K) : rx_K := o_ld rx_isL 1 (o_const 18446744073764969673 (o_bc (fun x y => lg_cmp x y) (o_c1 rx_eq (vX13_find_54 j) (vX13_find_60 j))))
set_option maxRecDepth 20000 in
theorem wX13_find_46 (hZ : zO b e D A X) (j : Nat → rx_K) (hj : ∀ k pc, [67][k]? = some pc → rx_OK (zV b e D A X) mX13_find 1 pc (j k)) : rx_OK (zV b e D A X) mX13_find 1 46 (vX13_find_46 j) := by
  unfold vX13_find_46
  refine s_lload_n hZ.1 dX13_find_46 rfl ?_
  refine s_ldc2 dX13_find_47 zw3188 (by decide +kernel) ?_
  refine s_lcmp dX13_find_50 ?_
  exact s_if_ne dX13_find_51 (by decide) (wX13_find_60 hZ j hj) (wX13_find_54 hZ j hj)
noncomputable def vX13_find_38 (j : Nat → rx_K) : rx_K := o_ld rx_isL 1 (o_const 18446744073765230689 (o_bc (fun x y => lg_cmp x y) (o_c1 rx_eq (vX13_find_46 j) (vX13_find_64 j))))
set_option maxRecDepth 20000 in
theorem wX13_find_38 (hZ : zO b e D A X) (j : Nat → rx_K) (hj : ∀ k pc, [67][k]? = some pc → rx_OK (zV b e D A X) mX13_find 1 pc (j k)) : rx_OK (zV b e D A X) mX13_find 1 38 (vX13_find_38 j) := by
  unfold vX13_find_38
  refine s_lload_n hZ.1 dX13_find_38 rfl ?_
  refine s_ldc2 dX13_find_39 zw3189 (by decide +kernel) ?_
  refine s_lcmp dX13_find_42 ?_
  exact s_if_ne dX13_find_43 (by decide) (wX13_find_64 hZ j hj) (wX13_find_46 hZ j hj)
noncomputable def vX13_find_30 (j : Nat → rx_K) : rx_K := o_ld rx_isL 1 (o_const 18446744073764969673 (o_bc (fun x y => lg_cmp x y) (o_c1 rx_eq (vX13_find_46 j) (vX13_find_38 j))))
set_option maxRecDepth 20000 in
theorem wX13_find_30 (hZ : zO b e D A X) (j : Nat → rx_K) (hj : ∀ k pc, [67][k]? = some pc → rx_OK (zV b e D A X) mX13_find 1 pc (j k)) : rx_OK (zV b e D A X) mX13_find 1 30 (vX13_find_30 j) := by
  unfold vX13_find_30
  refine s_lload_n hZ.1 dX13_find_30 rfl ?_
  refine s_ldc2 dX13_find_31 zw3188 (by decide +kernel) ?_
  refine s_lcmp dX13_find_34 ?_
  exact s_if_eq dX13_find_35 (by decide) (wX13_find_46 hZ j hj) (wX13_find_38 hZ j hj)
noncomputable def vX13_find_23 (j : Nat → rx_K) : rx_K := o_st rx_isI 3 (o_ld rx_isI 3 (o_const 34359738352 (o_c2 rx_eq (vX13_find_30 j) (vX13_find_64 j))))
set_option maxRecDepth 20000 in
theorem wX13_find_23 (hZ : zO b e D A X) (j : Nat → rx_K) (hj : ∀ k pc, [67][k]? = some pc → rx_OK (zV b e D A X) mX13_find 1 pc (j k)) : rx_OK (zV b e D A X) mX13_find 1 23 (vX13_find_23 j) := by
  unfold vX13_find_23
  refine s_istore_n hZ.1 dX13_find_23 rfl (Nat.le_of_ble_eq_true rfl) ?_
  refine s_iload_n hZ.1 dX13_find_24 rfl ?_
  refine s_bipush dX13_find_25 (by decide +kernel) ?_
  exact s_icmp_ne dX13_find_27 (by decide) (wX13_find_64 hZ j hj) (wX13_find_30 hZ j hj)
noncomputable def vX13_find_14 (j : Nat → rx_K) : rx_K := o_ld rx_isR 0 (o_ld rx_isR 0 (o_getf 13 91 (o_ld rx_isL 1 (o_callV 2 13 FX13_inSlot ((vX13_find_23 j))))))
set_option maxRecDepth 20000 in
theorem wX13_find_14 (hZ : zO b e D A X) (j : Nat → rx_K) (hj : ∀ k pc, [67][k]? = some pc → rx_OK (zV b e D A X) mX13_find 1 pc (j k)) : rx_OK (zV b e D A X) mX13_find 1 14 (vX13_find_14 j) := by
  unfold vX13_find_14
  refine s_aload_n hZ.1 dX13_find_14 rfl ?_
  refine s_aload_n hZ.1 dX13_find_15 rfl ?_
  refine yg13_91 dX13_find_16 zw4212 ?_
  refine s_lload_n hZ.1 dX13_find_19 rfl ?_
  refine s_callV hZ.1 (Met_X13_inSlot hZ) (Nat.le_of_ble_eq_true rfl) vy_X13_inSlot zcl13 zw3174 zw225 (Or.inl zw3172) dX13_find_20 ?_
  exact (wX13_find_23 hZ j hj)
noncomputable def vX13_find_9 (j : Nat → rx_K) : rx_K := o_const 34359738352 ((vX13_find_23 j))
set_option maxRecDepth 20000 in
theorem wX13_find_9 (hZ : zO b e D A X) (j : Nat → rx_K) (hj : ∀ k pc, [67][k]? = some pc → rx_OK (zV b e D A X) mX13_find 1 pc (j k)) : rx_OK (zV b e D A X) mX13_find 1 9 (vX13_find_9 j) := by
  unfold vX13_find_9
  refine s_bipush dX13_find_9 (by decide +kernel) ?_
  exact s_goto dX13_find_11 (by decide) (wX13_find_23 hZ j hj)
noncomputable def vX13_find_0 (j : Nat → rx_K) : rx_K := o_ld rx_isR 0 (o_getf 13 91 (o_const 34359738352 (o_c2 rx_eq (vX13_find_9 j) (vX13_find_14 j))))
set_option maxRecDepth 20000 in
theorem wX13_find_0 (hZ : zO b e D A X) (j : Nat → rx_K) (hj : ∀ k pc, [67][k]? = some pc → rx_OK (zV b e D A X) mX13_find 1 pc (j k)) : rx_OK (zV b e D A X) mX13_find 1 0 (vX13_find_0 j) := by
  unfold vX13_find_0
  refine s_aload_n hZ.1 dX13_find_0 rfl ?_
  refine yg13_91 dX13_find_1 zw4212 ?_
  refine s_bipush dX13_find_4 (by decide +kernel) ?_
  exact s_icmp_ne dX13_find_6 (by decide) (wX13_find_14 hZ j hj) (wX13_find_9 hZ j hj)
noncomputable def vhX13_find (j : Nat → rx_K) : List rx_K := [vX13_find_67 j]
theorem vlX13_find (hZ : zO b e D A X) : ∀ n k pc, [67][k]? = some pc → rx_OK (zV b e D A X) mX13_find 1 pc (rx_J (vhX13_find) n k) := rx_loop fun j hj k pc h => by
  match k, h with
  | 0, h =>
    have e9 := Option.some.inj (show some 67 = some pc from h)
    subst e9
    exact wX13_find_67 hZ j hj
  | _ + 1, h => exact absurd h (by simp)
noncomputable def FX13_find : List Nat → rx_H → Option (Nat × rx_H) := rx_ent 6 (vX13_find_0 (rx_J (vhX13_find) 4000000000))
theorem Met_X13_find (hZ : zO b e D A X) : rx_Met (zV b e D A X) 1 yX13_find mX13_find (FX13_find) := rx_entry hZ.1 (wX13_find_0 hZ _ (vlX13_find hZ 4000000000)) (by decide +kernel) rfl (fun h => by cases h)
abbrev mX13_isFace : rx_M := (RX13, cX13_isFace, 2, (some .boolean), false)
theorem vy_X13_isFace : rx_Y (zV b e D A X) yX13_isFace mX13_isFace 1 := ⟨zw3193, zw431, by decide, by decide +kernel, by decide +kernel, by decide +kernel⟩
noncomputable def vX13_isFace_15 : rx_K := o_ret1 rx_isZ
set_option maxRecDepth 20000 in
theorem wX13_isFace_15 (hZ : zO b e D A X) : rx_OK (zV b e D A X) mX13_isFace 0 15 vX13_isFace_15 := by
  unfold vX13_isFace_15
  exact s_zret rx_z_ok rfl dX13_isFace_15
noncomputable def vX13_isFace_14 : rx_K := o_const 0 (vX13_isFace_15)
set_option maxRecDepth 20000 in
theorem wX13_isFace_14 (hZ : zO b e D A X) : rx_OK (zV b e D A X) mX13_isFace 0 14 vX13_isFace_14 := by
  unfold vX13_isFace_14
  refine s_iconst dX13_isFace_14 (by decide +kernel) ?_
  exact (wX13_isFace_15 hZ)
noncomputable def vX13_isFace_10 : rx_K := o_const 8 (vX13_isFace_15)
set_option maxRecDepth 20000 in
theorem wX13_isFace_10 (hZ : zO b e D A X) : rx_OK (zV b e D A X) mX13_isFace 0 10 vX13_isFace_10 := by
  unfold vX13_isFace_10
  refine s_iconst dX13_isFace_10 (by decide +kernel) ?_
  exact s_goto dX13_isFace_11 (by decide) (wX13_isFace_15 hZ)
noncomputable def vX13_isFace_0 : rx_K := o_ld rx_isR 0 (o_getf 13 27 (o_ld rx_isI 1 (o_ald 0 (o_const 24 (o_c2 rx_eq vX13_isFace_10 vX13_isFace_14)))))
set_option maxRecDepth 20000 in
theorem wX13_isFace_0 (hZ : zO b e D A X) : rx_OK (zV b e D A X) mX13_isFace 0 0 vX13_isFace_0 := by
  unfold vX13_isFace_0
  refine s_aload_n hZ.1 dX13_isFace_0 rfl ?_
  refine yg13_27 dX13_isFace_1 zw4148 ?_
  refine s_iload_n hZ.1 dX13_isFace_4 rfl ?_
  refine s_iald (tt := 0) rfl dX13_isFace_5 ?_
  refine s_iconst dX13_isFace_6 (by decide +kernel) ?_
  exact s_icmp_ne dX13_isFace_7 (by decide) (wX13_isFace_14 hZ) (wX13_isFace_10 hZ)
noncomputable def FX13_isFace : List Nat → rx_H → Option (Nat × rx_H) := rx_ent 2 vX13_isFace_0
theorem Met_X13_isFace (hZ : zO b e D A X) : rx_Met (zV b e D A X) 0 yX13_isFace mX13_isFace (FX13_isFace) := rx_entry hZ.1 (wX13_isFace_0 hZ) (by decide +kernel) rfl (fun h => by cases h)
abbrev mX13_classOfMember : rx_M := (RX13, cX13_classOfMember, 2, (some .int), false)
theorem vy_X13_classOfMember : rx_Y (zV b e D A X) yX13_classOfMember mX13_classOfMember 1 := ⟨zw3256, zw431, by decide, by decide +kernel, by decide +kernel, by decide +kernel⟩
noncomputable def vX13_classOfMember_0 : rx_K := o_ld rx_isI 1 (o_const 272 (o_bin (fun x y => x / y) (o_ret1 rx_isI)))
set_option maxRecDepth 20000 in
theorem wX13_classOfMember_0 (hZ : zO b e D A X) : rx_OK (zV b e D A X) mX13_classOfMember 0 0 vX13_classOfMember_0 := by
  unfold vX13_classOfMember_0
  refine s_iload_n hZ.1 dX13_classOfMember_0 rfl ?_
  refine s_bipush dX13_classOfMember_1 (by decide +kernel) ?_
  refine s_idiv dX13_classOfMember_3 ?_
  exact s_iret hZ.1 rfl dX13_classOfMember_4
noncomputable def FX13_classOfMember : List Nat → rx_H → Option (Nat × rx_H) := rx_ent 2 vX13_classOfMember_0
theorem Met_X13_classOfMember (hZ : zO b e D A X) : rx_Met (zV b e D A X) 0 yX13_classOfMember mX13_classOfMember (FX13_classOfMember) := rx_entry hZ.1 (wX13_classOfMember_0 hZ) (by decide +kernel) rfl (fun h => by cases h)
abbrev mX13_pack : rx_M := (RX13, cX13_pack, 2, (some .int), false)
theorem vy_X13_pack : rx_Y (zV b e D A X) yX13_pack mX13_pack 1 := ⟨zw3178, zw431, by decide, by decide +kernel, by decide +kernel, by decide +kernel⟩
noncomputable def vX13_pack_0 : rx_K := o_ld rx_isL 0 (o_callS 1 FX13_packageOf (o_ret1 rx_isI))
set_option maxRecDepth 20000 in
theorem wX13_pack_0 (hZ : zO b e D A X) : rx_OK (zV b e D A X) mX13_pack 1 0 vX13_pack_0 := by
  unfold vX13_pack_0
  refine s_lload_n hZ.1 dX13_pack_0 rfl ?_
  refine s_callS hZ.1 (Met_X13_packageOf hZ) (Nat.le_of_ble_eq_true rfl) vy_X13_packageOf zw3180 (Or.inl zw3179) dX13_pack_1 ?_
  exact s_iret hZ.1 rfl dX13_pack_4
noncomputable def FX13_pack : List Nat → rx_H → Option (Nat × rx_H) := rx_ent 2 vX13_pack_0
theorem Met_X13_pack (hZ : zO b e D A X) : rx_Met (zV b e D A X) 1 yX13_pack mX13_pack (FX13_pack) := rx_entry hZ.1 (wX13_pack_0 hZ) (by decide +kernel) rfl (fun h => by cases h)
abbrev mX13_onePackage : rx_M := (RX13, cX13_onePackage, 3, (some .boolean), false)
theorem vy_X13_onePackage : rx_Y (zV b e D A X) yX13_onePackage mX13_onePackage 2 := ⟨zw3205, zw431, by decide, by decide +kernel, by decide +kernel, by decide +kernel⟩
noncomputable def vX13_onePackage_26 : rx_K := o_ret1 rx_isZ
set_option maxRecDepth 20000 in
theorem wX13_onePackage_26 (hZ : zO b e D A X) : rx_OK (zV b e D A X) mX13_onePackage 2 26 vX13_onePackage_26 := by
  unfold vX13_onePackage_26
  exact s_zret rx_z_ok rfl dX13_onePackage_26
noncomputable def vX13_onePackage_25 : rx_K := o_const 0 (vX13_onePackage_26)
set_option maxRecDepth 20000 in
theorem wX13_onePackage_25 (hZ : zO b e D A X) : rx_OK (zV b e D A X) mX13_onePackage 2 25 vX13_onePackage_25 := by
  unfold vX13_onePackage_25
  refine s_iconst dX13_onePackage_25 (by decide +kernel) ?_
  exact (wX13_onePackage_26 hZ)
noncomputable def vX13_onePackage_21 : rx_K := o_const 8 (vX13_onePackage_26)
set_option maxRecDepth 20000 in
theorem wX13_onePackage_21 (hZ : zO b e D A X) : rx_OK (zV b e D A X) mX13_onePackage 2 21 vX13_onePackage_21 := by
  unfold vX13_onePackage_21
  refine s_iconst dX13_onePackage_21 (by decide +kernel) ?_
  exact s_goto dX13_onePackage_22 (by decide) (wX13_onePackage_26 hZ)
noncomputable def vX13_onePackage_0 : rx_K := o_ld rx_isR 0 (o_getf 13 24 (o_ld rx_isI 1 (o_ald 1 (o_callS 1 FX13_pack (o_ld rx_isR 0 (o_getf 13 24 (o_ld rx_isI 2 (o_ald 1 (o_callS 1 FX13_pack (o_c2 rx_eq vX13_onePackage_21 vX13_onePackage_25))))))))))
set_option maxRecDepth 20000 in
theorem wX13_onePackage_0 (hZ : zO b e D A X) : rx_OK (zV b e D A X) mX13_onePackage 2 0 vX13_onePackage_0 := by
  unfold vX13_onePackage_0
  refine s_aload_n hZ.1 dX13_onePackage_0 rfl ?_
  refine yg13_24 dX13_onePackage_1 zw4145 ?_
  refine s_iload_n hZ.1 dX13_onePackage_4 rfl ?_
  refine s_lald (tt := 1) rfl dX13_onePackage_5 ?_
  refine s_callS hZ.1 (Met_X13_pack hZ) (Nat.le_of_ble_eq_true rfl) vy_X13_pack zw3177 (Or.inl zw3176) dX13_onePackage_6 ?_
  refine s_aload_n hZ.1 dX13_onePackage_9 rfl ?_
  refine yg13_24 dX13_onePackage_10 zw4145 ?_
  refine s_iload_n hZ.1 dX13_onePackage_13 rfl ?_
  refine s_lald (tt := 1) rfl dX13_onePackage_14 ?_
  refine s_callS hZ.1 (Met_X13_pack hZ) (Nat.le_of_ble_eq_true rfl) vy_X13_pack zw3177 (Or.inl zw3176) dX13_onePackage_15 ?_
  exact s_icmp_ne dX13_onePackage_18 (by decide) (wX13_onePackage_25 hZ) (wX13_onePackage_21 hZ)
noncomputable def FX13_onePackage : List Nat → rx_H → Option (Nat × rx_H) := rx_ent 3 vX13_onePackage_0
theorem Met_X13_onePackage (hZ : zO b e D A X) : rx_Met (zV b e D A X) 2 yX13_onePackage mX13_onePackage (FX13_onePackage) := rx_entry hZ.1 (wX13_onePackage_0 hZ) (by decide +kernel) rfl (fun h => by cases h)
abbrev mX13_parent : rx_M := (RX13, cX13_parent, 2, (some .int), false)
theorem vy_X13_parent : rx_Y (zV b e D A X) yX13_parent mX13_parent 1 := ⟨zw3221, zw431, by decide, by decide +kernel, by decide +kernel, by decide +kernel⟩
noncomputable def vX13_parent_47 : rx_K := o_ret1 rx_isI
set_option maxRecDepth 20000 in
theorem wX13_parent_47 (hZ : zO b e D A X) : rx_OK (zV b e D A X) mX13_parent 2 47 vX13_parent_47 := by
  unfold vX13_parent_47
  exact s_iret hZ.1 rfl dX13_parent_47
noncomputable def vX13_parent_37 : rx_K := o_ld rx_isR 0 (o_ld rx_isR 0 (o_getf 13 28 (o_ld rx_isI 1 (o_ald 1 (o_callV 1 13 FX13_find (vX13_parent_47))))))
set_option maxRecDepth 20000 in
theorem wX13_parent_37 (hZ : zO b e D A X) : rx_OK (zV b e D A X) mX13_parent 2 37 vX13_parent_37 := by
  unfold vX13_parent_37
  refine s_aload_n hZ.1 dX13_parent_37 rfl ?_
  refine s_aload_n hZ.1 dX13_parent_38 rfl ?_
  refine yg13_28 dX13_parent_39 zw4149 ?_
  refine s_iload_n hZ.1 dX13_parent_42 rfl ?_
  refine s_lald (tt := 1) rfl dX13_parent_43 ?_
  refine s_callV hZ.1 (Met_X13_find hZ) (Nat.le_of_ble_eq_true rfl) vy_X13_find zcl13 zw3186 zw226 (Or.inl zw3184) dX13_parent_44 ?_
  exact (wX13_parent_47 hZ)
noncomputable def vX13_parent_31 : rx_K := o_const 1632 (vX13_parent_47)
set_option maxRecDepth 20000 in
theorem wX13_parent_31 (hZ : zO b e D A X) : rx_OK (zV b e D A X) mX13_parent 2 31 vX13_parent_31 := by
  unfold vX13_parent_31
  refine s_sipush dX13_parent_31 (by decide +kernel) ?_
  exact s_goto dX13_parent_34 (by decide) (wX13_parent_47 hZ)
noncomputable def vX13_parent_20 : rx_K := o_ld rx_isR 0 (o_getf 13 28 (o_ld rx_isI 1 (o_ald 1 (o_const 1 (o_bc (fun x y => lg_cmp x y) (o_c1 rx_eq vX13_parent_31 vX13_parent_37))))))
set_option maxRecDepth 20000 in
theorem wX13_parent_20 (hZ : zO b e D A X) : rx_OK (zV b e D A X) mX13_parent 2 20 vX13_parent_20 := by
  unfold vX13_parent_20
  refine s_aload_n hZ.1 dX13_parent_20 rfl ?_
  refine yg13_28 dX13_parent_21 zw4149 ?_
  refine s_iload_n hZ.1 dX13_parent_24 rfl ?_
  refine s_lald (tt := 1) rfl dX13_parent_25 ?_
  refine s_lconst dX13_parent_26 (by decide +kernel) ?_
  refine s_lcmp dX13_parent_27 ?_
  exact s_if_ne dX13_parent_28 (by decide) (wX13_parent_37 hZ) (wX13_parent_31 hZ)
noncomputable def vX13_parent_15 : rx_K := o_const 34359738352 (vX13_parent_47)
set_option maxRecDepth 20000 in
theorem wX13_parent_15 (hZ : zO b e D A X) : rx_OK (zV b e D A X) mX13_parent 2 15 vX13_parent_15 := by
  unfold vX13_parent_15
  refine s_bipush dX13_parent_15 (by decide +kernel) ?_
  exact s_goto dX13_parent_17 (by decide) (wX13_parent_47 hZ)
noncomputable def vX13_parent_8 : rx_K := o_ld rx_isI 1 (o_const 1632 (o_c2 rx_eq vX13_parent_15 vX13_parent_20))
set_option maxRecDepth 20000 in
theorem wX13_parent_8 (hZ : zO b e D A X) : rx_OK (zV b e D A X) mX13_parent 2 8 vX13_parent_8 := by
  unfold vX13_parent_8
  refine s_iload_n hZ.1 dX13_parent_8 rfl ?_
  refine s_sipush dX13_parent_9 (by decide +kernel) ?_
  exact s_icmp_ne dX13_parent_12 (by decide) (wX13_parent_20 hZ) (wX13_parent_15 hZ)
noncomputable def vX13_parent_0 : rx_K := o_ld rx_isR 0 (o_ld rx_isI 1 (o_callV 1 13 FX13_isFace (o_c1 rx_eq vX13_parent_8 vX13_parent_15)))
set_option maxRecDepth 20000 in
theorem wX13_parent_0 (hZ : zO b e D A X) : rx_OK (zV b e D A X) mX13_parent 2 0 vX13_parent_0 := by
  unfold vX13_parent_0
  refine s_aload_n hZ.1 dX13_parent_0 rfl ?_
  refine s_iload_n hZ.1 dX13_parent_1 rfl ?_
  refine s_callV hZ.1 (Met_X13_isFace hZ) (Nat.le_of_ble_eq_true rfl) vy_X13_isFace zcl13 zw3192 zw227 (Or.inl zw3190) dX13_parent_2 ?_
  exact s_if_ne dX13_parent_5 (by decide) (wX13_parent_15 hZ) (wX13_parent_8 hZ)
noncomputable def FX13_parent : List Nat → rx_H → Option (Nat × rx_H) := rx_ent 2 vX13_parent_0
theorem Met_X13_parent (hZ : zO b e D A X) : rx_Met (zV b e D A X) 2 yX13_parent mX13_parent (FX13_parent) := rx_entry hZ.1 (wX13_parent_0 hZ) (by decide +kernel) rfl (fun h => by cases h)
abbrev mX13_stoodBefore : rx_M := (RX13, cX13_stoodBefore, 5, (some .boolean), false)
theorem vy_X13_stoodBefore : rx_Y (zV b e D A X) yX13_stoodBefore mX13_stoodBefore 3 := ⟨zw3263, zw431, by decide, by decide +kernel, by decide +kernel, by decide +kernel⟩
noncomputable def vX13_stoodBefore_35 (j : Nat → rx_K) : rx_K := o_ld rx_isI 3 (o_ret1 rx_isZ)
set_option maxRecDepth 20000 in
theorem wX13_stoodBefore_35 (hZ : zO b e D A X) (j : Nat → rx_K) (hj : ∀ k pc, [5][k]? = some pc → rx_OK (zV b e D A X) mX13_stoodBefore 0 pc (j k)) : rx_OK (zV b e D A X) mX13_stoodBefore 0 35 (vX13_stoodBefore_35 j) := by
  unfold vX13_stoodBefore_35
  refine s_iload_n hZ.1 dX13_stoodBefore_35 rfl ?_
  exact s_zret rx_z_ok rfl dX13_stoodBefore_36
noncomputable def vX13_stoodBefore_28 (j : Nat → rx_K) : rx_K := o_st rx_isI 3 (o_inc 4 (1) ((j 0)))
set_option maxRecDepth 20000 in
theorem wX13_stoodBefore_28 (hZ : zO b e D A X) (j : Nat → rx_K) (hj : ∀ k pc, [5][k]? = some pc → rx_OK (zV b e D A X) mX13_stoodBefore 0 pc (j k)) : rx_OK (zV b e D A X) mX13_stoodBefore 0 28 (vX13_stoodBefore_28 j) := by
  unfold vX13_stoodBefore_28
  refine s_istore_n hZ.1 dX13_stoodBefore_28 rfl (Nat.le_of_ble_eq_true rfl) ?_
  refine s_iinc hZ.1 dX13_stoodBefore_29 (Nat.le_of_ble_eq_true rfl) ?_
  exact s_goto dX13_stoodBefore_32 (by decide) (hj 0 5 rfl)
noncomputable def vX13_stoodBefore_27 (j : Nat → rx_K) : rx_K := o_const 0 ((vX13_stoodBefore_28 j))
set_option maxRecDepth 20000 in
theorem wX13_stoodBefore_27 (hZ : zO b e D A X) (j : Nat → rx_K) (hj : ∀ k pc, [5][k]? = some pc → rx_OK (zV b e D A X) mX13_stoodBefore 0 pc (j k)) : rx_OK (zV b e D A X) mX13_stoodBefore 0 27 (vX13_stoodBefore_27 j) := by
  unfold vX13_stoodBefore_27
  refine s_iconst dX13_stoodBefore_27 (by decide +kernel) ?_
  exact (wX13_stoodBefore_28 hZ j hj)
noncomputable def vX13_stoodBefore_23 (j : Nat → rx_K) : rx_K := o_const 8 ((vX13_stoodBefore_28 j))
set_option maxRecDepth 20000 in
theorem wX13_stoodBefore_23 (hZ : zO b e D A X) (j : Nat → rx_K) (hj : ∀ k pc, [5][k]? = some pc → rx_OK (zV b e D A X) mX13_stoodBefore 0 pc (j k)) : rx_OK (zV b e D A X) mX13_stoodBefore 0 23 (vX13_stoodBefore_23 j) := by
  unfold vX13_stoodBefore_23
  refine s_iconst dX13_stoodBefore_23 (by decide +kernel) ?_
  exact s_goto dX13_stoodBefore_24 (by decide) (wX13_stoodBefore_28 hZ j hj)
noncomputable def vX13_stoodBefore_15 (j : Nat → rx_K) : rx_K := o_ld rx_isR 0 (o_ld rx_isI 4 (o_ald 0 (o_ld rx_isI 2 (o_c2 rx_eq (vX13_stoodBefore_23 j) (vX13_stoodBefore_27 j)))))
set_option maxRecDepth 20000 in
theorem wX13_stoodBefore_15 (hZ : zO b e D A X) (j : Nat → rx_K) (hj : ∀ k pc, [5][k]? = some pc → rx_OK (zV b e D A X) mX13_stoodBefore 0 pc (j k)) : rx_OK (zV b e D A X) mX13_stoodBefore 0 15 (vX13_stoodBefore_15 j) := by
  unfold vX13_stoodBefore_15
  refine s_aload_n hZ.1 dX13_stoodBefore_15 rfl ?_
  refine s_iload hZ.1 dX13_stoodBefore_16 ?_
  refine s_iald (tt := 0) rfl dX13_stoodBefore_18 ?_
  refine s_iload_n hZ.1 dX13_stoodBefore_19 rfl ?_
  exact s_icmp_ne dX13_stoodBefore_20 (by decide) (wX13_stoodBefore_27 hZ j hj) (wX13_stoodBefore_23 hZ j hj)
noncomputable def vX13_stoodBefore_11 (j : Nat → rx_K) : rx_K := o_ld rx_isI 3 (o_c1 rx_eq (vX13_stoodBefore_15 j) (vX13_stoodBefore_23 j))
set_option maxRecDepth 20000 in
theorem wX13_stoodBefore_11 (hZ : zO b e D A X) (j : Nat → rx_K) (hj : ∀ k pc, [5][k]? = some pc → rx_OK (zV b e D A X) mX13_stoodBefore 0 pc (j k)) : rx_OK (zV b e D A X) mX13_stoodBefore 0 11 (vX13_stoodBefore_11 j) := by
  unfold vX13_stoodBefore_11
  refine s_iload_n hZ.1 dX13_stoodBefore_11 rfl ?_
  exact s_if_ne dX13_stoodBefore_12 (by decide) (wX13_stoodBefore_23 hZ j hj) (wX13_stoodBefore_15 hZ j hj)
noncomputable def vX13_stoodBefore_5 (j : Nat → rx_K) : rx_K := o_ld rx_isI 4 (o_ld rx_isI 1 (o_c2 rx_lt (vX13_stoodBefore_11 j) (vX13_stoodBefore_35 j)))
set_option maxRecDepth 20000 in
theorem wX13_stoodBefore_5 (hZ : zO b e D A X) (j : Nat → rx_K) (hj : ∀ k pc, [5][k]? = some pc → rx_OK (zV b e D A X) mX13_stoodBefore 0 pc (j k)) : rx_OK (zV b e D A X) mX13_stoodBefore 0 5 (vX13_stoodBefore_5 j) := by
  unfold vX13_stoodBefore_5
  refine s_iload hZ.1 dX13_stoodBefore_5 ?_
  refine s_iload_n hZ.1 dX13_stoodBefore_7 rfl ?_
  exact s_icmp_ge dX13_stoodBefore_8 (by decide) (wX13_stoodBefore_35 hZ j hj) (wX13_stoodBefore_11 hZ j hj)
noncomputable def vX13_stoodBefore_0 (j : Nat → rx_K) : rx_K := o_const 0 (o_st rx_isI 3 (o_const 0 (o_st rx_isI 4 ((vX13_stoodBefore_5 j)))))
set_option maxRecDepth 20000 in
theorem wX13_stoodBefore_0 (hZ : zO b e D A X) (j : Nat → rx_K) (hj : ∀ k pc, [5][k]? = some pc → rx_OK (zV b e D A X) mX13_stoodBefore 0 pc (j k)) : rx_OK (zV b e D A X) mX13_stoodBefore 0 0 (vX13_stoodBefore_0 j) := by
  unfold vX13_stoodBefore_0
  refine s_iconst dX13_stoodBefore_0 (by decide +kernel) ?_
  refine s_istore_n hZ.1 dX13_stoodBefore_1 rfl (Nat.le_of_ble_eq_true rfl) ?_
  refine s_iconst dX13_stoodBefore_2 (by decide +kernel) ?_
  refine s_istore hZ.1 dX13_stoodBefore_3 (Nat.le_of_ble_eq_true rfl) ?_
  exact (wX13_stoodBefore_5 hZ j hj)
noncomputable def vhX13_stoodBefore (j : Nat → rx_K) : List rx_K := [vX13_stoodBefore_5 j]
theorem vlX13_stoodBefore (hZ : zO b e D A X) : ∀ n k pc, [5][k]? = some pc → rx_OK (zV b e D A X) mX13_stoodBefore 0 pc (rx_J (vhX13_stoodBefore) n k) := rx_loop fun j hj k pc h => by
  match k, h with
  | 0, h =>
    have e9 := Option.some.inj (show some 5 = some pc from h)
    subst e9
    exact wX13_stoodBefore_5 hZ j hj
  | _ + 1, h => exact absurd h (by simp)
noncomputable def FX13_stoodBefore : List Nat → rx_H → Option (Nat × rx_H) := rx_ent 5 (vX13_stoodBefore_0 (rx_J (vhX13_stoodBefore) 4000000000))
theorem Met_X13_stoodBefore (hZ : zO b e D A X) : rx_Met (zV b e D A X) 0 yX13_stoodBefore mX13_stoodBefore (FX13_stoodBefore) := rx_entry hZ.1 (wX13_stoodBefore_0 hZ _ (vlX13_stoodBefore hZ 4000000000)) (by decide +kernel) rfl (fun h => by cases h)
end ZM44

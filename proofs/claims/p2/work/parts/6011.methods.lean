section ZM11
variable {b : Nat} {e : Nat → Value} {D : va_G} {A : Nat → ClassId} {X : State → Prop}
noncomputable def vX3_statement_426 (g : Nat → List Nat → rx_H → Option (Nat × rx_H)) (j : Nat → rx_K) : rx_K := o_ret0
set_option maxRecDepth 20000 in
theorem wX3_statement_426 {dn : Nat} {g : Nat → List Nat → rx_H → Option (Nat × rx_H)} (hZ : zO b e D A X) (hg : ∀ i y M, vl5[i]? = some (y, M) → rx_Met (zV b e D A X) dn y M (g i)) (hd : 204 ≤ dn) (j : Nat → rx_K) (hj : ∀ k pc, [19][k]? = some pc → rx_OK (zV b e D A X) mX3_statement (dn + 1) pc (j k)) : rx_OK (zV b e D A X) mX3_statement (dn + 1) 426 (vX3_statement_426 g j) := by
  unfold vX3_statement_426
  exact s_vret rfl dX3_statement_426
noncomputable def vX3_statement_408 (g : Nat → List Nat → rx_H → Option (Nat × rx_H)) (j : Nat → rx_K) : rx_K := o_ld rx_isR 0 (o_ld rx_isR 1 (o_getf 8 5 (o_callV 1 3 (q4 200 3) (o_ld rx_isR 0 (o_getf 3 1 (o_const 40 (o_const 0 (o_callV 2 1 FX1_emit (o_pop ((vX3_statement_426 g j)))))))))))
set_option maxRecDepth 20000 in
theorem wX3_statement_408 {dn : Nat} {g : Nat → List Nat → rx_H → Option (Nat × rx_H)} (hZ : zO b e D A X) (hg : ∀ i y M, vl5[i]? = some (y, M) → rx_Met (zV b e D A X) dn y M (g i)) (hd : 204 ≤ dn) (j : Nat → rx_K) (hj : ∀ k pc, [19][k]? = some pc → rx_OK (zV b e D A X) mX3_statement (dn + 1) pc (j k)) : rx_OK (zV b e D A X) mX3_statement (dn + 1) 408 (vX3_statement_408 g j) := by
  unfold vX3_statement_408
  refine s_aload_n hZ.1 dX3_statement_408 rfl ?_
  refine s_aload_n hZ.1 dX3_statement_409 rfl ?_
  refine yg8_5 dX3_statement_410 zw476 ?_
  refine s_callV hZ.1 (q4_ok hZ 200 3 _ _ rfl) (Nat.succ_le_succ (Nat.le_trans (Nat.le_of_ble_eq_true rfl) hd)) vy_X3_expr zcl3 zw2251 zw94 (Or.inl zw2249) dX3_statement_413 ?_
  refine s_aload_n hZ.1 dX3_statement_416 rfl ?_
  refine yg3_1 dX3_statement_417 zw722 ?_
  refine s_iconst dX3_statement_420 (by decide +kernel) ?_
  refine s_iconst dX3_statement_421 (by decide +kernel) ?_
  refine s_callV hZ.1 (Met_X1_emit hZ) (Nat.succ_le_succ (Nat.le_trans (Nat.le_of_ble_eq_true rfl) hd)) vy_X1_emit zcl1 zw2254 zw2255 (Or.inl zw2253) dX3_statement_422 ?_
  refine s_pop hZ.1 dX3_statement_425 ?_
  exact (wX3_statement_426 hZ hg hd j hj)
noncomputable def vX3_statement_391 (g : Nat → List Nat → rx_H → Option (Nat × rx_H)) (j : Nat → rx_K) : rx_K := o_ld rx_isR 0 (o_ld rx_isR 1 (o_getf 8 6 (o_callV 1 3 (q4 200 3) (o_ld rx_isR 0 (o_ld rx_isR 1 (o_ld rx_isR 2 (o_callV 2 3 FX3_put ((vX3_statement_426 g j)))))))))
set_option maxRecDepth 20000 in
theorem wX3_statement_391 {dn : Nat} {g : Nat → List Nat → rx_H → Option (Nat × rx_H)} (hZ : zO b e D A X) (hg : ∀ i y M, vl5[i]? = some (y, M) → rx_Met (zV b e D A X) dn y M (g i)) (hd : 204 ≤ dn) (j : Nat → rx_K) (hj : ∀ k pc, [19][k]? = some pc → rx_OK (zV b e D A X) mX3_statement (dn + 1) pc (j k)) : rx_OK (zV b e D A X) mX3_statement (dn + 1) 391 (vX3_statement_391 g j) := by
  unfold vX3_statement_391
  refine s_aload_n hZ.1 dX3_statement_391 rfl ?_
  refine s_aload_n hZ.1 dX3_statement_392 rfl ?_
  refine yg8_6 dX3_statement_393 zw480 ?_
  refine s_callV hZ.1 (q4_ok hZ 200 3 _ _ rfl) (Nat.succ_le_succ (Nat.le_trans (Nat.le_of_ble_eq_true rfl) hd)) vy_X3_expr zcl3 zw2251 zw94 (Or.inl zw2249) dX3_statement_396 ?_
  refine s_aload_n hZ.1 dX3_statement_399 rfl ?_
  refine s_aload_n hZ.1 dX3_statement_400 rfl ?_
  refine s_aload_n hZ.1 dX3_statement_401 rfl ?_
  refine s_callV hZ.1 (Met_X3_put hZ) (Nat.succ_le_succ (Nat.le_trans (Nat.le_of_ble_eq_true rfl) hd)) vy_X3_put zcl3 zw2314 zw107 (Or.inl zw2312) dX3_statement_402 ?_
  exact s_goto dX3_statement_405 (by decide) (wX3_statement_426 hZ hg hd j hj)
noncomputable def vX3_statement_382 (g : Nat → List Nat → rx_H → Option (Nat × rx_H)) (j : Nat → rx_K) : rx_K := o_ld rx_isR 0 (o_ld rx_isR 1 (o_getf 8 5 (o_ld rx_isR 2 (o_callV 2 3 (q4 200 4) ((vX3_statement_391 g j))))))
set_option maxRecDepth 20000 in
theorem wX3_statement_382 {dn : Nat} {g : Nat → List Nat → rx_H → Option (Nat × rx_H)} (hZ : zO b e D A X) (hg : ∀ i y M, vl5[i]? = some (y, M) → rx_Met (zV b e D A X) dn y M (g i)) (hd : 204 ≤ dn) (j : Nat → rx_K) (hj : ∀ k pc, [19][k]? = some pc → rx_OK (zV b e D A X) mX3_statement (dn + 1) pc (j k)) : rx_OK (zV b e D A X) mX3_statement (dn + 1) 382 (vX3_statement_382 g j) := by
  unfold vX3_statement_382
  refine s_aload_n hZ.1 dX3_statement_382 rfl ?_
  refine s_aload_n hZ.1 dX3_statement_383 rfl ?_
  refine yg8_5 dX3_statement_384 zw476 ?_
  refine s_aload_n hZ.1 dX3_statement_387 rfl ?_
  refine s_callV hZ.1 (q4_ok hZ 200 4 _ _ rfl) (Nat.succ_le_succ (Nat.le_trans (Nat.le_of_ble_eq_true rfl) hd)) vy_X3_unit zcl3 zw2267 zw97 (Or.inl zw2265) dX3_statement_388 ?_
  exact (wX3_statement_391 hZ hg hd j hj)
noncomputable def vX3_statement_378 (g : Nat → List Nat → rx_H → Option (Nat × rx_H)) (j : Nat → rx_K) : rx_K := o_ld rx_isI 3 (o_c1 rx_eq (vX3_statement_391 g j) (vX3_statement_382 g j))
set_option maxRecDepth 20000 in
theorem wX3_statement_378 {dn : Nat} {g : Nat → List Nat → rx_H → Option (Nat × rx_H)} (hZ : zO b e D A X) (hg : ∀ i y M, vl5[i]? = some (y, M) → rx_Met (zV b e D A X) dn y M (g i)) (hd : 204 ≤ dn) (j : Nat → rx_K) (hj : ∀ k pc, [19][k]? = some pc → rx_OK (zV b e D A X) mX3_statement (dn + 1) pc (j k)) : rx_OK (zV b e D A X) mX3_statement (dn + 1) 378 (vX3_statement_378 g j) := by
  unfold vX3_statement_378
  refine s_iload_n hZ.1 dX3_statement_378 rfl ?_
  exact s_if_eq dX3_statement_379 (by decide) (wX3_statement_391 hZ hg hd j hj) (wX3_statement_382 hZ hg hd j hj)
noncomputable def vX3_statement_365 (g : Nat → List Nat → rx_H → Option (Nat × rx_H)) (j : Nat → rx_K) : rx_K := o_ld rx_isR 0 (o_getf 3 1 (o_const 24 (o_const 0 (o_callV 2 1 FX1_emit (o_pop ((vX3_statement_391 g j)))))))
set_option maxRecDepth 20000 in
theorem wX3_statement_365 {dn : Nat} {g : Nat → List Nat → rx_H → Option (Nat × rx_H)} (hZ : zO b e D A X) (hg : ∀ i y M, vl5[i]? = some (y, M) → rx_Met (zV b e D A X) dn y M (g i)) (hd : 204 ≤ dn) (j : Nat → rx_K) (hj : ∀ k pc, [19][k]? = some pc → rx_OK (zV b e D A X) mX3_statement (dn + 1) pc (j k)) : rx_OK (zV b e D A X) mX3_statement (dn + 1) 365 (vX3_statement_365 g j) := by
  unfold vX3_statement_365
  refine s_aload_n hZ.1 dX3_statement_365 rfl ?_
  refine yg3_1 dX3_statement_366 zw722 ?_
  refine s_iconst dX3_statement_369 (by decide +kernel) ?_
  refine s_iconst dX3_statement_370 (by decide +kernel) ?_
  refine s_callV hZ.1 (Met_X1_emit hZ) (Nat.succ_le_succ (Nat.le_trans (Nat.le_of_ble_eq_true rfl) hd)) vy_X1_emit zcl1 zw2254 zw2255 (Or.inl zw2253) dX3_statement_371 ?_
  refine s_pop hZ.1 dX3_statement_374 ?_
  exact s_goto dX3_statement_375 (by decide) (wX3_statement_391 hZ hg hd j hj)
noncomputable def vX3_statement_357 (g : Nat → List Nat → rx_H → Option (Nat × rx_H)) (j : Nat → rx_K) : rx_K := o_ld rx_isR 2 (o_ld rx_isR 1 (o_getf 8 5 (o_acmp (vX3_statement_365 g j) (vX3_statement_378 g j))))
set_option maxRecDepth 20000 in
theorem wX3_statement_357 {dn : Nat} {g : Nat → List Nat → rx_H → Option (Nat × rx_H)} (hZ : zO b e D A X) (hg : ∀ i y M, vl5[i]? = some (y, M) → rx_Met (zV b e D A X) dn y M (g i)) (hd : 204 ≤ dn) (j : Nat → rx_K) (hj : ∀ k pc, [19][k]? = some pc → rx_OK (zV b e D A X) mX3_statement (dn + 1) pc (j k)) : rx_OK (zV b e D A X) mX3_statement (dn + 1) 357 (vX3_statement_357 g j) := by
  unfold vX3_statement_357
  refine s_aload_n hZ.1 dX3_statement_357 rfl ?_
  refine s_aload_n hZ.1 dX3_statement_358 rfl ?_
  refine yg8_5 dX3_statement_359 zw476 ?_
  exact s_acmp_ne hZ.1 dX3_statement_362 (by decide) (wX3_statement_378 hZ hg hd j hj) (wX3_statement_365 hZ hg hd j hj)
noncomputable def vX3_statement_352 (g : Nat → List Nat → rx_H → Option (Nat × rx_H)) (j : Nat → rx_K) : rx_K := o_st rx_isI 3 (o_ld rx_isI 3 (o_c1 rx_eq (vX3_statement_378 g j) (vX3_statement_357 g j)))
set_option maxRecDepth 20000 in
theorem wX3_statement_352 {dn : Nat} {g : Nat → List Nat → rx_H → Option (Nat × rx_H)} (hZ : zO b e D A X) (hg : ∀ i y M, vl5[i]? = some (y, M) → rx_Met (zV b e D A X) dn y M (g i)) (hd : 204 ≤ dn) (j : Nat → rx_K) (hj : ∀ k pc, [19][k]? = some pc → rx_OK (zV b e D A X) mX3_statement (dn + 1) pc (j k)) : rx_OK (zV b e D A X) mX3_statement (dn + 1) 352 (vX3_statement_352 g j) := by
  unfold vX3_statement_352
  refine s_istore_n hZ.1 dX3_statement_352 rfl (Nat.le_of_ble_eq_true rfl) ?_
  refine s_iload_n hZ.1 dX3_statement_353 rfl ?_
  exact s_if_eq dX3_statement_354 (by decide) (wX3_statement_378 hZ hg hd j hj) (wX3_statement_357 hZ hg hd j hj)
noncomputable def vX3_statement_351 (g : Nat → List Nat → rx_H → Option (Nat × rx_H)) (j : Nat → rx_K) : rx_K := o_const 0 ((vX3_statement_352 g j))
set_option maxRecDepth 20000 in
theorem wX3_statement_351 {dn : Nat} {g : Nat → List Nat → rx_H → Option (Nat × rx_H)} (hZ : zO b e D A X) (hg : ∀ i y M, vl5[i]? = some (y, M) → rx_Met (zV b e D A X) dn y M (g i)) (hd : 204 ≤ dn) (j : Nat → rx_K) (hj : ∀ k pc, [19][k]? = some pc → rx_OK (zV b e D A X) mX3_statement (dn + 1) pc (j k)) : rx_OK (zV b e D A X) mX3_statement (dn + 1) 351 (vX3_statement_351 g j) := by
  unfold vX3_statement_351
  refine s_iconst dX3_statement_351 (by decide +kernel) ?_
  exact (wX3_statement_352 hZ hg hd j hj)
noncomputable def vX3_statement_347 (g : Nat → List Nat → rx_H → Option (Nat × rx_H)) (j : Nat → rx_K) : rx_K := o_const 8 ((vX3_statement_352 g j))
set_option maxRecDepth 20000 in
theorem wX3_statement_347 {dn : Nat} {g : Nat → List Nat → rx_H → Option (Nat × rx_H)} (hZ : zO b e D A X) (hg : ∀ i y M, vl5[i]? = some (y, M) → rx_Met (zV b e D A X) dn y M (g i)) (hd : 204 ≤ dn) (j : Nat → rx_K) (hj : ∀ k pc, [19][k]? = some pc → rx_OK (zV b e D A X) mX3_statement (dn + 1) pc (j k)) : rx_OK (zV b e D A X) mX3_statement (dn + 1) 347 (vX3_statement_347 g j) := by
  unfold vX3_statement_347
  refine s_iconst dX3_statement_347 (by decide +kernel) ?_
  exact s_goto dX3_statement_348 (by decide) (wX3_statement_352 hZ hg hd j hj)
noncomputable def vX3_statement_337 (g : Nat → List Nat → rx_H → Option (Nat × rx_H)) (j : Nat → rx_K) : rx_K := o_ld rx_isR 2 (o_getf 8 11 (o_getf 7 2 (o_c1 rx_eq (vX3_statement_347 g j) (vX3_statement_351 g j))))
set_option maxRecDepth 20000 in
theorem wX3_statement_337 {dn : Nat} {g : Nat → List Nat → rx_H → Option (Nat × rx_H)} (hZ : zO b e D A X) (hg : ∀ i y M, vl5[i]? = some (y, M) → rx_Met (zV b e D A X) dn y M (g i)) (hd : 204 ≤ dn) (j : Nat → rx_K) (hj : ∀ k pc, [19][k]? = some pc → rx_OK (zV b e D A X) mX3_statement (dn + 1) pc (j k)) : rx_OK (zV b e D A X) mX3_statement (dn + 1) 337 (vX3_statement_337 g j) := by
  unfold vX3_statement_337
  refine s_aload_n hZ.1 dX3_statement_337 rfl ?_
  refine yg8_11 dX3_statement_338 zw499 ?_
  refine yg7_2 dX3_statement_341 zw962 ?_
  exact s_if_ne dX3_statement_344 (by decide) (wX3_statement_351 hZ hg hd j hj) (wX3_statement_347 hZ hg hd j hj)
noncomputable def vX3_statement_330 (g : Nat → List Nat → rx_H → Option (Nat × rx_H)) (j : Nat → rx_K) : rx_K := o_ld rx_isR 2 (o_getf 8 11 (o_nul (vX3_statement_351 g j) (vX3_statement_337 g j)))
set_option maxRecDepth 20000 in
theorem wX3_statement_330 {dn : Nat} {g : Nat → List Nat → rx_H → Option (Nat × rx_H)} (hZ : zO b e D A X) (hg : ∀ i y M, vl5[i]? = some (y, M) → rx_Met (zV b e D A X) dn y M (g i)) (hd : 204 ≤ dn) (j : Nat → rx_K) (hj : ∀ k pc, [19][k]? = some pc → rx_OK (zV b e D A X) mX3_statement (dn + 1) pc (j k)) : rx_OK (zV b e D A X) mX3_statement (dn + 1) 330 (vX3_statement_330 g j) := by
  unfold vX3_statement_330
  refine s_aload_n hZ.1 dX3_statement_330 rfl ?_
  refine yg8_11 dX3_statement_331 zw499 ?_
  exact s_ifnull dX3_statement_334 (by decide) (wX3_statement_351 hZ hg hd j hj) (wX3_statement_337 hZ hg hd j hj)
noncomputable def vX3_statement_318 (g : Nat → List Nat → rx_H → Option (Nat × rx_H)) (j : Nat → rx_K) : rx_K := o_ld rx_isR 1 (o_getf 8 5 (o_callS 1 FX0_target (o_st rx_isR 2 (o_ld rx_isR 2 (o_nul (vX3_statement_351 g j) (vX3_statement_330 g j))))))
set_option maxRecDepth 20000 in
theorem wX3_statement_318 {dn : Nat} {g : Nat → List Nat → rx_H → Option (Nat × rx_H)} (hZ : zO b e D A X) (hg : ∀ i y M, vl5[i]? = some (y, M) → rx_Met (zV b e D A X) dn y M (g i)) (hd : 204 ≤ dn) (j : Nat → rx_K) (hj : ∀ k pc, [19][k]? = some pc → rx_OK (zV b e D A X) mX3_statement (dn + 1) pc (j k)) : rx_OK (zV b e D A X) mX3_statement (dn + 1) 318 (vX3_statement_318 g j) := by
  unfold vX3_statement_318
  refine s_aload_n hZ.1 dX3_statement_318 rfl ?_
  refine yg8_5 dX3_statement_319 zw476 ?_
  refine s_callS hZ.1 (Met_X0_target hZ) (Nat.succ_le_succ (Nat.le_trans (Nat.le_of_ble_eq_true rfl) hd)) vy_X0_target zw2210 (Or.inr ⟨_, zo_N2311 hZ⟩) dX3_statement_322 ?_
  refine s_astore_n hZ.1 dX3_statement_325 rfl (Nat.le_of_ble_eq_true rfl) ?_
  refine s_aload_n hZ.1 dX3_statement_326 rfl ?_
  exact s_ifnull dX3_statement_327 (by decide) (wX3_statement_351 hZ hg hd j hj) (wX3_statement_330 hZ hg hd j hj)
noncomputable def vX3_statement_296 (g : Nat → List Nat → rx_H → Option (Nat × rx_H)) (j : Nat → rx_K) : rx_K := o_ld rx_isR 0 (o_ld rx_isR 1 (o_getf 8 5 (o_callV 1 3 (q4 200 3) (o_ld rx_isR 0 (o_getf 3 1 (o_const 112 (o_const 0 (o_callV 2 1 FX1_emit (o_pop ((vX3_statement_426 g j)))))))))))
set_option maxRecDepth 20000 in
theorem wX3_statement_296 {dn : Nat} {g : Nat → List Nat → rx_H → Option (Nat × rx_H)} (hZ : zO b e D A X) (hg : ∀ i y M, vl5[i]? = some (y, M) → rx_Met (zV b e D A X) dn y M (g i)) (hd : 204 ≤ dn) (j : Nat → rx_K) (hj : ∀ k pc, [19][k]? = some pc → rx_OK (zV b e D A X) mX3_statement (dn + 1) pc (j k)) : rx_OK (zV b e D A X) mX3_statement (dn + 1) 296 (vX3_statement_296 g j) := by
  unfold vX3_statement_296
  refine s_aload_n hZ.1 dX3_statement_296 rfl ?_
  refine s_aload_n hZ.1 dX3_statement_297 rfl ?_
  refine yg8_5 dX3_statement_298 zw476 ?_
  refine s_callV hZ.1 (q4_ok hZ 200 3 _ _ rfl) (Nat.succ_le_succ (Nat.le_trans (Nat.le_of_ble_eq_true rfl) hd)) vy_X3_expr zcl3 zw2251 zw94 (Or.inl zw2249) dX3_statement_301 ?_
  refine s_aload_n hZ.1 dX3_statement_304 rfl ?_
  refine yg3_1 dX3_statement_305 zw722 ?_
  refine s_bipush dX3_statement_308 (by decide +kernel) ?_
  refine s_iconst dX3_statement_310 (by decide +kernel) ?_
  refine s_callV hZ.1 (Met_X1_emit hZ) (Nat.succ_le_succ (Nat.le_trans (Nat.le_of_ble_eq_true rfl) hd)) vy_X1_emit zcl1 zw2254 zw2255 (Or.inl zw2253) dX3_statement_311 ?_
  refine s_pop hZ.1 dX3_statement_314 ?_
  exact s_goto dX3_statement_315 (by decide) (wX3_statement_426 hZ hg hd j hj)
noncomputable def vX3_statement_288 (g : Nat → List Nat → rx_H → Option (Nat × rx_H)) (j : Nat → rx_K) : rx_K := o_ld rx_isR 0 (o_ld rx_isR 1 (o_callV 1 3 (g 3) ((vX3_statement_426 g j))))
set_option maxRecDepth 20000 in
theorem wX3_statement_288 {dn : Nat} {g : Nat → List Nat → rx_H → Option (Nat × rx_H)} (hZ : zO b e D A X) (hg : ∀ i y M, vl5[i]? = some (y, M) → rx_Met (zV b e D A X) dn y M (g i)) (hd : 204 ≤ dn) (j : Nat → rx_K) (hj : ∀ k pc, [19][k]? = some pc → rx_OK (zV b e D A X) mX3_statement (dn + 1) pc (j k)) : rx_OK (zV b e D A X) mX3_statement (dn + 1) 288 (vX3_statement_288 g j) := by
  unfold vX3_statement_288
  refine s_aload_n hZ.1 dX3_statement_288 rfl ?_
  refine s_aload_n hZ.1 dX3_statement_289 rfl ?_
  refine s_callV hZ.1 (hg 3 _ _ rfl) (Nat.le_refl _) vy_X3_tried zcl3 zw2309 zw106 (Or.inl zw2307) dX3_statement_290 ?_
  exact s_goto dX3_statement_293 (by decide) (wX3_statement_426 hZ hg hd j hj)
noncomputable def vX3_statement_266 (g : Nat → List Nat → rx_H → Option (Nat × rx_H)) (j : Nat → rx_K) : rx_K := o_const 3 (o_const 116472515775520833537 (o_callV 4 3 FX3_useOf (o_pop (o_ld rx_isR 0 (o_getf 3 1 (o_const 120 (o_const 0 (o_callV 2 1 FX1_emit (o_pop ((vX3_statement_426 g j)))))))))))
set_option maxRecDepth 20000 in
theorem wX3_statement_266 {dn : Nat} {g : Nat → List Nat → rx_H → Option (Nat × rx_H)} (hZ : zO b e D A X) (hg : ∀ i y M, vl5[i]? = some (y, M) → rx_Met (zV b e D A X) dn y M (g i)) (hd : 204 ≤ dn) (j : Nat → rx_K) (hj : ∀ k pc, [19][k]? = some pc → rx_OK (zV b e D A X) mX3_statement (dn + 1) pc (j k)) : rx_OK (zV b e D A X) mX3_statement (dn + 1) 266 (vX3_statement_266 g j) := by
  unfold vX3_statement_266
  refine s_null dX3_statement_266 ?_
  refine s_ldc2 dX3_statement_267 zw2306 (by decide +kernel) ?_
  refine s_callV hZ.1 (Met_X3_useOf hZ) (Nat.succ_le_succ (Nat.le_trans (Nat.le_of_ble_eq_true rfl) hd)) vy_X3_useOf zcl3 zw2231 zw92 (Or.inl zw2229) dX3_statement_270 ?_
  refine s_pop hZ.1 dX3_statement_273 ?_
  refine s_aload_n hZ.1 dX3_statement_274 rfl ?_
  refine yg3_1 dX3_statement_275 zw722 ?_
  refine s_bipush dX3_statement_278 (by decide +kernel) ?_
  refine s_iconst dX3_statement_280 (by decide +kernel) ?_
  refine s_callV hZ.1 (Met_X1_emit hZ) (Nat.succ_le_succ (Nat.le_trans (Nat.le_of_ble_eq_true rfl) hd)) vy_X1_emit zcl1 zw2254 zw2255 (Or.inl zw2253) dX3_statement_281 ?_
  refine s_pop hZ.1 dX3_statement_284 ?_
  exact s_goto dX3_statement_285 (by decide) (wX3_statement_426 hZ hg hd j hj)
noncomputable def vX3_statement_259 (g : Nat → List Nat → rx_H → Option (Nat × rx_H)) (j : Nat → rx_K) : rx_K := o_ld rx_isR 1 (o_getf 8 5 (o_getf 8 9 ((vX3_statement_266 g j))))
set_option maxRecDepth 20000 in
theorem wX3_statement_259 {dn : Nat} {g : Nat → List Nat → rx_H → Option (Nat × rx_H)} (hZ : zO b e D A X) (hg : ∀ i y M, vl5[i]? = some (y, M) → rx_Met (zV b e D A X) dn y M (g i)) (hd : 204 ≤ dn) (j : Nat → rx_K) (hj : ∀ k pc, [19][k]? = some pc → rx_OK (zV b e D A X) mX3_statement (dn + 1) pc (j k)) : rx_OK (zV b e D A X) mX3_statement (dn + 1) 259 (vX3_statement_259 g j) := by
  unfold vX3_statement_259
  refine s_aload_n hZ.1 dX3_statement_259 rfl ?_
  refine yg8_5 dX3_statement_260 zw476 ?_
  refine yg8_9 dX3_statement_263 zw491 ?_
  exact (wX3_statement_266 hZ hg hd j hj)
noncomputable def vX3_statement_253 (g : Nat → List Nat → rx_H → Option (Nat × rx_H)) (j : Nat → rx_K) : rx_K := o_const 147573952589676412897 ((vX3_statement_266 g j))
set_option maxRecDepth 20000 in
theorem wX3_statement_253 {dn : Nat} {g : Nat → List Nat → rx_H → Option (Nat × rx_H)} (hZ : zO b e D A X) (hg : ∀ i y M, vl5[i]? = some (y, M) → rx_Met (zV b e D A X) dn y M (g i)) (hd : 204 ≤ dn) (j : Nat → rx_K) (hj : ∀ k pc, [19][k]? = some pc → rx_OK (zV b e D A X) mX3_statement (dn + 1) pc (j k)) : rx_OK (zV b e D A X) mX3_statement (dn + 1) 253 (vX3_statement_253 g j) := by
  unfold vX3_statement_253
  refine s_ldc2 dX3_statement_253 zw2228 (by decide +kernel) ?_
  exact s_goto dX3_statement_256 (by decide) (wX3_statement_266 hZ hg hd j hj)
noncomputable def vX3_statement_235 (g : Nat → List Nat → rx_H → Option (Nat × rx_H)) (j : Nat → rx_K) : rx_K := o_ld rx_isR 0 (o_ld rx_isR 1 (o_getf 8 5 (o_callV 1 3 (q4 200 3) (o_ld rx_isR 0 (o_const 136 (o_ld rx_isR 1 (o_getf 8 5 (o_nul (vX3_statement_253 g j) (vX3_statement_259 g j)))))))))
set_option maxRecDepth 20000 in
theorem wX3_statement_235 {dn : Nat} {g : Nat → List Nat → rx_H → Option (Nat × rx_H)} (hZ : zO b e D A X) (hg : ∀ i y M, vl5[i]? = some (y, M) → rx_Met (zV b e D A X) dn y M (g i)) (hd : 204 ≤ dn) (j : Nat → rx_K) (hj : ∀ k pc, [19][k]? = some pc → rx_OK (zV b e D A X) mX3_statement (dn + 1) pc (j k)) : rx_OK (zV b e D A X) mX3_statement (dn + 1) 235 (vX3_statement_235 g j) := by
  unfold vX3_statement_235
  refine s_aload_n hZ.1 dX3_statement_235 rfl ?_
  refine s_aload_n hZ.1 dX3_statement_236 rfl ?_
  refine yg8_5 dX3_statement_237 zw476 ?_
  refine s_callV hZ.1 (q4_ok hZ 200 3 _ _ rfl) (Nat.succ_le_succ (Nat.le_trans (Nat.le_of_ble_eq_true rfl) hd)) vy_X3_expr zcl3 zw2251 zw94 (Or.inl zw2249) dX3_statement_240 ?_
  refine s_aload_n hZ.1 dX3_statement_243 rfl ?_
  refine s_bipush dX3_statement_244 (by decide +kernel) ?_
  refine s_aload_n hZ.1 dX3_statement_246 rfl ?_
  refine yg8_5 dX3_statement_247 zw476 ?_
  exact s_ifnonnull dX3_statement_250 (by decide) (wX3_statement_259 hZ hg hd j hj) (wX3_statement_253 hZ hg hd j hj)
noncomputable def vX3_statement_227 (g : Nat → List Nat → rx_H → Option (Nat × rx_H)) (j : Nat → rx_K) : rx_K := o_const 0 (o_callV 2 1 FX1_emit (o_pop ((vX3_statement_426 g j))))
set_option maxRecDepth 20000 in
theorem wX3_statement_227 {dn : Nat} {g : Nat → List Nat → rx_H → Option (Nat × rx_H)} (hZ : zO b e D A X) (hg : ∀ i y M, vl5[i]? = some (y, M) → rx_Met (zV b e D A X) dn y M (g i)) (hd : 204 ≤ dn) (j : Nat → rx_K) (hj : ∀ k pc, [19][k]? = some pc → rx_OK (zV b e D A X) mX3_statement (dn + 1) pc (j k)) : rx_OK (zV b e D A X) mX3_statement (dn + 1) 227 (vX3_statement_227 g j) := by
  unfold vX3_statement_227
  refine s_iconst dX3_statement_227 (by decide +kernel) ?_
  refine s_callV hZ.1 (Met_X1_emit hZ) (Nat.succ_le_succ (Nat.le_trans (Nat.le_of_ble_eq_true rfl) hd)) vy_X1_emit zcl1 zw2254 zw2255 (Or.inl zw2253) dX3_statement_228 ?_
  refine s_pop hZ.1 dX3_statement_231 ?_
  exact s_goto dX3_statement_232 (by decide) (wX3_statement_426 hZ hg hd j hj)
noncomputable def vX3_statement_225 (g : Nat → List Nat → rx_H → Option (Nat × rx_H)) (j : Nat → rx_K) : rx_K := o_const 152 ((vX3_statement_227 g j))
set_option maxRecDepth 20000 in
theorem wX3_statement_225 {dn : Nat} {g : Nat → List Nat → rx_H → Option (Nat × rx_H)} (hZ : zO b e D A X) (hg : ∀ i y M, vl5[i]? = some (y, M) → rx_Met (zV b e D A X) dn y M (g i)) (hd : 204 ≤ dn) (j : Nat → rx_K) (hj : ∀ k pc, [19][k]? = some pc → rx_OK (zV b e D A X) mX3_statement (dn + 1) pc (j k)) : rx_OK (zV b e D A X) mX3_statement (dn + 1) 225 (vX3_statement_225 g j) := by
  unfold vX3_statement_225
  refine s_bipush dX3_statement_225 (by decide +kernel) ?_
  exact (wX3_statement_227 hZ hg hd j hj)
noncomputable def vX3_statement_220 (g : Nat → List Nat → rx_H → Option (Nat × rx_H)) (j : Nat → rx_K) : rx_K := o_const 144 ((vX3_statement_227 g j))
set_option maxRecDepth 20000 in
theorem wX3_statement_220 {dn : Nat} {g : Nat → List Nat → rx_H → Option (Nat × rx_H)} (hZ : zO b e D A X) (hg : ∀ i y M, vl5[i]? = some (y, M) → rx_Met (zV b e D A X) dn y M (g i)) (hd : 204 ≤ dn) (j : Nat → rx_K) (hj : ∀ k pc, [19][k]? = some pc → rx_OK (zV b e D A X) mX3_statement (dn + 1) pc (j k)) : rx_OK (zV b e D A X) mX3_statement (dn + 1) 220 (vX3_statement_220 g j) := by
  unfold vX3_statement_220
  refine s_bipush dX3_statement_220 (by decide +kernel) ?_
  exact s_goto dX3_statement_222 (by decide) (wX3_statement_227 hZ hg hd j hj)
noncomputable def vX3_statement_209 (g : Nat → List Nat → rx_H → Option (Nat × rx_H)) (j : Nat → rx_K) : rx_K := o_ld rx_isR 0 (o_getf 3 1 (o_ld rx_isR 1 (o_getf 8 5 (o_nul (vX3_statement_220 g j) (vX3_statement_225 g j)))))
set_option maxRecDepth 20000 in
theorem wX3_statement_209 {dn : Nat} {g : Nat → List Nat → rx_H → Option (Nat × rx_H)} (hZ : zO b e D A X) (hg : ∀ i y M, vl5[i]? = some (y, M) → rx_Met (zV b e D A X) dn y M (g i)) (hd : 204 ≤ dn) (j : Nat → rx_K) (hj : ∀ k pc, [19][k]? = some pc → rx_OK (zV b e D A X) mX3_statement (dn + 1) pc (j k)) : rx_OK (zV b e D A X) mX3_statement (dn + 1) 209 (vX3_statement_209 g j) := by
  unfold vX3_statement_209
  refine s_aload_n hZ.1 dX3_statement_209 rfl ?_
  refine yg3_1 dX3_statement_210 zw722 ?_
  refine s_aload_n hZ.1 dX3_statement_213 rfl ?_
  refine yg8_5 dX3_statement_214 zw476 ?_
  exact s_ifnonnull dX3_statement_217 (by decide) (wX3_statement_225 hZ hg hd j hj) (wX3_statement_220 hZ hg hd j hj)
noncomputable def vX3_statement_179 (g : Nat → List Nat → rx_H → Option (Nat × rx_H)) (j : Nat → rx_K) : rx_K := o_ld rx_isR 0 (o_ld rx_isR 1 (o_getf 8 5 (o_callV 1 3 (q4 200 3) (o_ld rx_isR 0 (o_const 136 (o_ld rx_isR 1 (o_getf 8 5 (o_getf 8 9 (o_const 3 (o_ld rx_isR 0 (o_getf 3 4 (o_getf 7 8 (o_callV 4 3 FX3_useOf (o_pop ((vX3_statement_209 g j))))))))))))))))
set_option maxRecDepth 20000 in
theorem wX3_statement_179 {dn : Nat} {g : Nat → List Nat → rx_H → Option (Nat × rx_H)} (hZ : zO b e D A X) (hg : ∀ i y M, vl5[i]? = some (y, M) → rx_Met (zV b e D A X) dn y M (g i)) (hd : 204 ≤ dn) (j : Nat → rx_K) (hj : ∀ k pc, [19][k]? = some pc → rx_OK (zV b e D A X) mX3_statement (dn + 1) pc (j k)) : rx_OK (zV b e D A X) mX3_statement (dn + 1) 179 (vX3_statement_179 g j) := by
  unfold vX3_statement_179
  refine s_aload_n hZ.1 dX3_statement_179 rfl ?_
  refine s_aload_n hZ.1 dX3_statement_180 rfl ?_
  refine yg8_5 dX3_statement_181 zw476 ?_
  refine s_callV hZ.1 (q4_ok hZ 200 3 _ _ rfl) (Nat.succ_le_succ (Nat.le_trans (Nat.le_of_ble_eq_true rfl) hd)) vy_X3_expr zcl3 zw2251 zw94 (Or.inl zw2249) dX3_statement_184 ?_
  refine s_aload_n hZ.1 dX3_statement_187 rfl ?_
  refine s_bipush dX3_statement_188 (by decide +kernel) ?_
  refine s_aload_n hZ.1 dX3_statement_190 rfl ?_
  refine yg8_5 dX3_statement_191 zw476 ?_
  refine yg8_9 dX3_statement_194 zw491 ?_
  refine s_null dX3_statement_197 ?_
  refine s_aload_n hZ.1 dX3_statement_198 rfl ?_
  refine yg3_4 dX3_statement_199 zw725 ?_
  refine yg7_8 dX3_statement_202 zw1014 ?_
  refine s_callV hZ.1 (Met_X3_useOf hZ) (Nat.succ_le_succ (Nat.le_trans (Nat.le_of_ble_eq_true rfl) hd)) vy_X3_useOf zcl3 zw2231 zw92 (Or.inl zw2229) dX3_statement_205 ?_
  refine s_pop hZ.1 dX3_statement_208 ?_
  exact (wX3_statement_209 hZ hg hd j hj)
noncomputable def vX3_statement_172 (g : Nat → List Nat → rx_H → Option (Nat × rx_H)) (j : Nat → rx_K) : rx_K := o_ld rx_isR 1 (o_getf 8 5 (o_nul (vX3_statement_209 g j) (vX3_statement_179 g j)))
set_option maxRecDepth 20000 in
theorem wX3_statement_172 {dn : Nat} {g : Nat → List Nat → rx_H → Option (Nat × rx_H)} (hZ : zO b e D A X) (hg : ∀ i y M, vl5[i]? = some (y, M) → rx_Met (zV b e D A X) dn y M (g i)) (hd : 204 ≤ dn) (j : Nat → rx_K) (hj : ∀ k pc, [19][k]? = some pc → rx_OK (zV b e D A X) mX3_statement (dn + 1) pc (j k)) : rx_OK (zV b e D A X) mX3_statement (dn + 1) 172 (vX3_statement_172 g j) := by
  unfold vX3_statement_172
  refine s_aload_n hZ.1 dX3_statement_172 rfl ?_
  refine yg8_5 dX3_statement_173 zw476 ?_
  exact s_ifnull dX3_statement_176 (by decide) (wX3_statement_209 hZ hg hd j hj) (wX3_statement_179 hZ hg hd j hj)
noncomputable def vX3_statement_164 (g : Nat → List Nat → rx_H → Option (Nat × rx_H)) (j : Nat → rx_K) : rx_K := o_ld rx_isR 0 (o_ld rx_isR 1 (o_callV 1 3 (g 1) ((vX3_statement_426 g j))))
set_option maxRecDepth 20000 in
theorem wX3_statement_164 {dn : Nat} {g : Nat → List Nat → rx_H → Option (Nat × rx_H)} (hZ : zO b e D A X) (hg : ∀ i y M, vl5[i]? = some (y, M) → rx_Met (zV b e D A X) dn y M (g i)) (hd : 204 ≤ dn) (j : Nat → rx_K) (hj : ∀ k pc, [19][k]? = some pc → rx_OK (zV b e D A X) mX3_statement (dn + 1) pc (j k)) : rx_OK (zV b e D A X) mX3_statement (dn + 1) 164 (vX3_statement_164 g j) := by
  unfold vX3_statement_164
  refine s_aload_n hZ.1 dX3_statement_164 rfl ?_
  refine s_aload_n hZ.1 dX3_statement_165 rfl ?_
  refine s_callV hZ.1 (hg 1 _ _ rfl) (Nat.le_refl _) vy_X3_loop zcl3 zw2304 zw105 (Or.inl zw2302) dX3_statement_166 ?_
  exact s_goto dX3_statement_169 (by decide) (wX3_statement_426 hZ hg hd j hj)
noncomputable def vX3_statement_156 (g : Nat → List Nat → rx_H → Option (Nat × rx_H)) (j : Nat → rx_K) : rx_K := o_ld rx_isR 0 (o_ld rx_isR 1 (o_callV 1 3 (g 0) ((vX3_statement_426 g j))))
set_option maxRecDepth 20000 in
theorem wX3_statement_156 {dn : Nat} {g : Nat → List Nat → rx_H → Option (Nat × rx_H)} (hZ : zO b e D A X) (hg : ∀ i y M, vl5[i]? = some (y, M) → rx_Met (zV b e D A X) dn y M (g i)) (hd : 204 ≤ dn) (j : Nat → rx_K) (hj : ∀ k pc, [19][k]? = some pc → rx_OK (zV b e D A X) mX3_statement (dn + 1) pc (j k)) : rx_OK (zV b e D A X) mX3_statement (dn + 1) 156 (vX3_statement_156 g j) := by
  unfold vX3_statement_156
  refine s_aload_n hZ.1 dX3_statement_156 rfl ?_
  refine s_aload_n hZ.1 dX3_statement_157 rfl ?_
  refine s_callV hZ.1 (hg 0 _ _ rfl) (Nat.le_refl _) vy_X3_branch zcl3 zw2300 zw104 (Or.inl zw2298) dX3_statement_158 ?_
  exact s_goto dX3_statement_161 (by decide) (wX3_statement_426 hZ hg hd j hj)
noncomputable def vX3_statement_131 (g : Nat → List Nat → rx_H → Option (Nat × rx_H)) (j : Nat → rx_K) : rx_K := o_const 3 (o_ld rx_isR 1 (o_getf 8 9 (o_callV 4 3 FX3_useOf (o_pop (o_ld rx_isR 0 (o_getf 3 1 (o_const 32 (o_ld rx_isR 1 (o_getf 8 4 (o_callV 2 1 FX1_emit (o_pop ((vX3_statement_426 g j)))))))))))))
set_option maxRecDepth 20000 in
theorem wX3_statement_131 {dn : Nat} {g : Nat → List Nat → rx_H → Option (Nat × rx_H)} (hZ : zO b e D A X) (hg : ∀ i y M, vl5[i]? = some (y, M) → rx_Met (zV b e D A X) dn y M (g i)) (hd : 204 ≤ dn) (j : Nat → rx_K) (hj : ∀ k pc, [19][k]? = some pc → rx_OK (zV b e D A X) mX3_statement (dn + 1) pc (j k)) : rx_OK (zV b e D A X) mX3_statement (dn + 1) 131 (vX3_statement_131 g j) := by
  unfold vX3_statement_131
  refine s_null dX3_statement_131 ?_
  refine s_aload_n hZ.1 dX3_statement_132 rfl ?_
  refine yg8_9 dX3_statement_133 zw491 ?_
  refine s_callV hZ.1 (Met_X3_useOf hZ) (Nat.succ_le_succ (Nat.le_trans (Nat.le_of_ble_eq_true rfl) hd)) vy_X3_useOf zcl3 zw2231 zw92 (Or.inl zw2229) dX3_statement_136 ?_
  refine s_pop hZ.1 dX3_statement_139 ?_
  refine s_aload_n hZ.1 dX3_statement_140 rfl ?_
  refine yg3_1 dX3_statement_141 zw722 ?_
  refine s_iconst dX3_statement_144 (by decide +kernel) ?_
  refine s_aload_n hZ.1 dX3_statement_145 rfl ?_
  refine yg8_4 dX3_statement_146 zw472 ?_
  refine s_callV hZ.1 (Met_X1_emit hZ) (Nat.succ_le_succ (Nat.le_trans (Nat.le_of_ble_eq_true rfl) hd)) vy_X1_emit zcl1 zw2254 zw2255 (Or.inl zw2253) dX3_statement_149 ?_
  refine s_pop hZ.1 dX3_statement_152 ?_
  exact s_goto dX3_statement_153 (by decide) (wX3_statement_426 hZ hg hd j hj)
noncomputable def vX3_statement_124 (g : Nat → List Nat → rx_H → Option (Nat × rx_H)) (j : Nat → rx_K) : rx_K := o_ld rx_isR 1 (o_getf 8 5 (o_getf 8 9 ((vX3_statement_131 g j))))
set_option maxRecDepth 20000 in
theorem wX3_statement_124 {dn : Nat} {g : Nat → List Nat → rx_H → Option (Nat × rx_H)} (hZ : zO b e D A X) (hg : ∀ i y M, vl5[i]? = some (y, M) → rx_Met (zV b e D A X) dn y M (g i)) (hd : 204 ≤ dn) (j : Nat → rx_K) (hj : ∀ k pc, [19][k]? = some pc → rx_OK (zV b e D A X) mX3_statement (dn + 1) pc (j k)) : rx_OK (zV b e D A X) mX3_statement (dn + 1) 124 (vX3_statement_124 g j) := by
  unfold vX3_statement_124
  refine s_aload_n hZ.1 dX3_statement_124 rfl ?_
  refine yg8_5 dX3_statement_125 zw476 ?_
  refine yg8_9 dX3_statement_128 zw491 ?_
  exact (wX3_statement_131 hZ hg hd j hj)
noncomputable def vX3_statement_118 (g : Nat → List Nat → rx_H → Option (Nat × rx_H)) (j : Nat → rx_K) : rx_K := o_const 147573952589676412897 ((vX3_statement_131 g j))
set_option maxRecDepth 20000 in
theorem wX3_statement_118 {dn : Nat} {g : Nat → List Nat → rx_H → Option (Nat × rx_H)} (hZ : zO b e D A X) (hg : ∀ i y M, vl5[i]? = some (y, M) → rx_Met (zV b e D A X) dn y M (g i)) (hd : 204 ≤ dn) (j : Nat → rx_K) (hj : ∀ k pc, [19][k]? = some pc → rx_OK (zV b e D A X) mX3_statement (dn + 1) pc (j k)) : rx_OK (zV b e D A X) mX3_statement (dn + 1) 118 (vX3_statement_118 g j) := by
  unfold vX3_statement_118
  refine s_ldc2 dX3_statement_118 zw2228 (by decide +kernel) ?_
  exact s_goto dX3_statement_121 (by decide) (wX3_statement_131 hZ hg hd j hj)
noncomputable def vX3_statement_100 (g : Nat → List Nat → rx_H → Option (Nat × rx_H)) (j : Nat → rx_K) : rx_K := o_ld rx_isR 0 (o_ld rx_isR 1 (o_getf 8 5 (o_callV 1 3 (q4 200 3) (o_ld rx_isR 0 (o_const 136 (o_ld rx_isR 1 (o_getf 8 5 (o_nul (vX3_statement_118 g j) (vX3_statement_124 g j)))))))))
set_option maxRecDepth 20000 in
theorem wX3_statement_100 {dn : Nat} {g : Nat → List Nat → rx_H → Option (Nat × rx_H)} (hZ : zO b e D A X) (hg : ∀ i y M, vl5[i]? = some (y, M) → rx_Met (zV b e D A X) dn y M (g i)) (hd : 204 ≤ dn) (j : Nat → rx_K) (hj : ∀ k pc, [19][k]? = some pc → rx_OK (zV b e D A X) mX3_statement (dn + 1) pc (j k)) : rx_OK (zV b e D A X) mX3_statement (dn + 1) 100 (vX3_statement_100 g j) := by
  unfold vX3_statement_100
  refine s_aload_n hZ.1 dX3_statement_100 rfl ?_
  refine s_aload_n hZ.1 dX3_statement_101 rfl ?_
  refine yg8_5 dX3_statement_102 zw476 ?_
  refine s_callV hZ.1 (q4_ok hZ 200 3 _ _ rfl) (Nat.succ_le_succ (Nat.le_trans (Nat.le_of_ble_eq_true rfl) hd)) vy_X3_expr zcl3 zw2251 zw94 (Or.inl zw2249) dX3_statement_105 ?_
  refine s_aload_n hZ.1 dX3_statement_108 rfl ?_
  refine s_bipush dX3_statement_109 (by decide +kernel) ?_
  refine s_aload_n hZ.1 dX3_statement_111 rfl ?_
  refine yg8_5 dX3_statement_112 zw476 ?_
  exact s_ifnonnull dX3_statement_115 (by decide) (wX3_statement_124 hZ hg hd j hj) (wX3_statement_118 hZ hg hd j hj)
noncomputable def vX3_statement_37 (g : Nat → List Nat → rx_H → Option (Nat × rx_H)) (j : Nat → rx_K) : rx_K := o_ld rx_isR 0 (o_getf 3 1 (o_const 8 (o_const 0 (o_callV 2 1 FX1_emit (o_pop (o_ld rx_isR 1 (o_getf 8 0 (o_sw 31 [100, 156, 164, 172, 235, 288, 296, 408, 318] 408 (rx_pk [(100, (vX3_statement_100 g j)), (156, (vX3_statement_156 g j)), (164, (vX3_statement_164 g j)), (172, (vX3_statement_172 g j)), (235, (vX3_statement_235 g j)), (288, (vX3_statement_288 g j)), (296, (vX3_statement_296 g j)), (318, (vX3_statement_318 g j)), (408, (vX3_statement_408 g j))])))))))))
set_option maxRecDepth 20000 in
theorem wX3_statement_37 {dn : Nat} {g : Nat → List Nat → rx_H → Option (Nat × rx_H)} (hZ : zO b e D A X) (hg : ∀ i y M, vl5[i]? = some (y, M) → rx_Met (zV b e D A X) dn y M (g i)) (hd : 204 ≤ dn) (j : Nat → rx_K) (hj : ∀ k pc, [19][k]? = some pc → rx_OK (zV b e D A X) mX3_statement (dn + 1) pc (j k)) : rx_OK (zV b e D A X) mX3_statement (dn + 1) 37 (vX3_statement_37 g j) := by
  unfold vX3_statement_37
  refine s_aload_n hZ.1 dX3_statement_37 rfl ?_
  refine yg3_1 dX3_statement_38 zw722 ?_
  refine s_iconst dX3_statement_41 (by decide +kernel) ?_
  refine s_iconst dX3_statement_42 (by decide +kernel) ?_
  refine s_callV hZ.1 (Met_X1_emit hZ) (Nat.succ_le_succ (Nat.le_trans (Nat.le_of_ble_eq_true rfl) hd)) vy_X1_emit zcl1 zw2254 zw2255 (Or.inl zw2253) dX3_statement_43 ?_
  refine s_pop hZ.1 dX3_statement_46 ?_
  refine s_aload_n hZ.1 dX3_statement_47 rfl ?_
  refine yg8_0 dX3_statement_48 zw459 ?_
  exact s_sw dX3_statement_51 (by decide) (by decide) (by decide) (by decide) (by decide) (fun b _ => (rx_pk_ok (List.forall_mem_cons.mpr ⟨(wX3_statement_100 hZ hg hd j hj), List.forall_mem_cons.mpr ⟨(wX3_statement_156 hZ hg hd j hj), List.forall_mem_cons.mpr ⟨(wX3_statement_164 hZ hg hd j hj), List.forall_mem_cons.mpr ⟨(wX3_statement_172 hZ hg hd j hj), List.forall_mem_cons.mpr ⟨(wX3_statement_235 hZ hg hd j hj), List.forall_mem_cons.mpr ⟨(wX3_statement_288 hZ hg hd j hj), List.forall_mem_cons.mpr ⟨(wX3_statement_296 hZ hg hd j hj), List.forall_mem_cons.mpr ⟨(wX3_statement_318 hZ hg hd j hj), List.forall_mem_cons.mpr ⟨(wX3_statement_408 hZ hg hd j hj), fun _ h => absurd h List.not_mem_nil⟩⟩⟩⟩⟩⟩⟩⟩⟩)) b)
noncomputable def vX3_statement_36 (g : Nat → List Nat → rx_H → Option (Nat × rx_H)) (j : Nat → rx_K) : rx_K := o_ret0
set_option maxRecDepth 20000 in
theorem wX3_statement_36 {dn : Nat} {g : Nat → List Nat → rx_H → Option (Nat × rx_H)} (hZ : zO b e D A X) (hg : ∀ i y M, vl5[i]? = some (y, M) → rx_Met (zV b e D A X) dn y M (g i)) (hd : 204 ≤ dn) (j : Nat → rx_K) (hj : ∀ k pc, [19][k]? = some pc → rx_OK (zV b e D A X) mX3_statement (dn + 1) pc (j k)) : rx_OK (zV b e D A X) mX3_statement (dn + 1) 36 (vX3_statement_36 g j) := by
  unfold vX3_statement_36
  exact s_vret rfl dX3_statement_36
noncomputable def vX3_statement_23 (g : Nat → List Nat → rx_H → Option (Nat × rx_H)) (j : Nat → rx_K) : rx_K := o_ld rx_isR 0 (o_ld rx_isR 2 (o_callV 1 3 (g 2) (o_ld rx_isR 2 (o_getf 8 8 (o_st rx_isR 2 ((j 0)))))))
set_option maxRecDepth 20000 in
theorem wX3_statement_23 {dn : Nat} {g : Nat → List Nat → rx_H → Option (Nat × rx_H)} (hZ : zO b e D A X) (hg : ∀ i y M, vl5[i]? = some (y, M) → rx_Met (zV b e D A X) dn y M (g i)) (hd : 204 ≤ dn) (j : Nat → rx_K) (hj : ∀ k pc, [19][k]? = some pc → rx_OK (zV b e D A X) mX3_statement (dn + 1) pc (j k)) : rx_OK (zV b e D A X) mX3_statement (dn + 1) 23 (vX3_statement_23 g j) := by
  unfold vX3_statement_23
  refine s_aload_n hZ.1 dX3_statement_23 rfl ?_
  refine s_aload_n hZ.1 dX3_statement_24 rfl ?_
  refine s_callV hZ.1 (hg 2 _ _ rfl) (Nat.le_refl _) vy_X3_statement zcl3 zw2296 zw103 (Or.inl zw2294) dX3_statement_25 ?_
  refine s_aload_n hZ.1 dX3_statement_28 rfl ?_
  refine yg8_8 dX3_statement_29 zw488 ?_
  refine s_astore_n hZ.1 dX3_statement_32 rfl (Nat.le_of_ble_eq_true rfl) ?_
  exact s_goto dX3_statement_33 (by decide) (hj 0 19 rfl)
noncomputable def vX3_statement_19 (g : Nat → List Nat → rx_H → Option (Nat × rx_H)) (j : Nat → rx_K) : rx_K := o_ld rx_isR 2 (o_nul (vX3_statement_36 g j) (vX3_statement_23 g j))
set_option maxRecDepth 20000 in
theorem wX3_statement_19 {dn : Nat} {g : Nat → List Nat → rx_H → Option (Nat × rx_H)} (hZ : zO b e D A X) (hg : ∀ i y M, vl5[i]? = some (y, M) → rx_Met (zV b e D A X) dn y M (g i)) (hd : 204 ≤ dn) (j : Nat → rx_K) (hj : ∀ k pc, [19][k]? = some pc → rx_OK (zV b e D A X) mX3_statement (dn + 1) pc (j k)) : rx_OK (zV b e D A X) mX3_statement (dn + 1) 19 (vX3_statement_19 g j) := by
  unfold vX3_statement_19
  refine s_aload_n hZ.1 dX3_statement_19 rfl ?_
  exact s_ifnull dX3_statement_20 (by decide) (wX3_statement_36 hZ hg hd j hj) (wX3_statement_23 hZ hg hd j hj)
noncomputable def vX3_statement_14 (g : Nat → List Nat → rx_H → Option (Nat × rx_H)) (j : Nat → rx_K) : rx_K := o_ld rx_isR 1 (o_getf 8 5 (o_st rx_isR 2 ((vX3_statement_19 g j))))
set_option maxRecDepth 20000 in
theorem wX3_statement_14 {dn : Nat} {g : Nat → List Nat → rx_H → Option (Nat × rx_H)} (hZ : zO b e D A X) (hg : ∀ i y M, vl5[i]? = some (y, M) → rx_Met (zV b e D A X) dn y M (g i)) (hd : 204 ≤ dn) (j : Nat → rx_K) (hj : ∀ k pc, [19][k]? = some pc → rx_OK (zV b e D A X) mX3_statement (dn + 1) pc (j k)) : rx_OK (zV b e D A X) mX3_statement (dn + 1) 14 (vX3_statement_14 g j) := by
  unfold vX3_statement_14
  refine s_aload_n hZ.1 dX3_statement_14 rfl ?_
  refine yg8_5 dX3_statement_15 zw476 ?_
  refine s_astore_n hZ.1 dX3_statement_18 rfl (Nat.le_of_ble_eq_true rfl) ?_
  exact (wX3_statement_19 hZ hg hd j hj)
noncomputable def vX3_statement_5 (g : Nat → List Nat → rx_H → Option (Nat × rx_H)) (j : Nat → rx_K) : rx_K := o_ld rx_isR 1 (o_getf 8 0 (o_const 240 (o_c2 rx_eq (vX3_statement_14 g j) (vX3_statement_37 g j))))
set_option maxRecDepth 20000 in
theorem wX3_statement_5 {dn : Nat} {g : Nat → List Nat → rx_H → Option (Nat × rx_H)} (hZ : zO b e D A X) (hg : ∀ i y M, vl5[i]? = some (y, M) → rx_Met (zV b e D A X) dn y M (g i)) (hd : 204 ≤ dn) (j : Nat → rx_K) (hj : ∀ k pc, [19][k]? = some pc → rx_OK (zV b e D A X) mX3_statement (dn + 1) pc (j k)) : rx_OK (zV b e D A X) mX3_statement (dn + 1) 5 (vX3_statement_5 g j) := by
  unfold vX3_statement_5
  refine s_aload_n hZ.1 dX3_statement_5 rfl ?_
  refine yg8_0 dX3_statement_6 zw459 ?_
  refine s_bipush dX3_statement_9 (by decide +kernel) ?_
  exact s_icmp_ne dX3_statement_11 (by decide) (wX3_statement_37 hZ hg hd j hj) (wX3_statement_14 hZ hg hd j hj)
noncomputable def vX3_statement_4 (g : Nat → List Nat → rx_H → Option (Nat × rx_H)) (j : Nat → rx_K) : rx_K := o_ret0
set_option maxRecDepth 20000 in
theorem wX3_statement_4 {dn : Nat} {g : Nat → List Nat → rx_H → Option (Nat × rx_H)} (hZ : zO b e D A X) (hg : ∀ i y M, vl5[i]? = some (y, M) → rx_Met (zV b e D A X) dn y M (g i)) (hd : 204 ≤ dn) (j : Nat → rx_K) (hj : ∀ k pc, [19][k]? = some pc → rx_OK (zV b e D A X) mX3_statement (dn + 1) pc (j k)) : rx_OK (zV b e D A X) mX3_statement (dn + 1) 4 (vX3_statement_4 g j) := by
  unfold vX3_statement_4
  exact s_vret rfl dX3_statement_4
noncomputable def vX3_statement_0 (g : Nat → List Nat → rx_H → Option (Nat × rx_H)) (j : Nat → rx_K) : rx_K := o_ld rx_isR 1 (o_nul (vX3_statement_4 g j) (vX3_statement_5 g j))
set_option maxRecDepth 20000 in
theorem wX3_statement_0 {dn : Nat} {g : Nat → List Nat → rx_H → Option (Nat × rx_H)} (hZ : zO b e D A X) (hg : ∀ i y M, vl5[i]? = some (y, M) → rx_Met (zV b e D A X) dn y M (g i)) (hd : 204 ≤ dn) (j : Nat → rx_K) (hj : ∀ k pc, [19][k]? = some pc → rx_OK (zV b e D A X) mX3_statement (dn + 1) pc (j k)) : rx_OK (zV b e D A X) mX3_statement (dn + 1) 0 (vX3_statement_0 g j) := by
  unfold vX3_statement_0
  refine s_aload_n hZ.1 dX3_statement_0 rfl ?_
  exact s_ifnonnull dX3_statement_1 (by decide) (wX3_statement_5 hZ hg hd j hj) (wX3_statement_4 hZ hg hd j hj)
noncomputable def vhX3_statement (g : Nat → List Nat → rx_H → Option (Nat × rx_H)) (j : Nat → rx_K) : List rx_K := [vX3_statement_19 g j]
theorem vlX3_statement {dn : Nat} {g : Nat → List Nat → rx_H → Option (Nat × rx_H)} (hZ : zO b e D A X) (hg : ∀ i y M, vl5[i]? = some (y, M) → rx_Met (zV b e D A X) dn y M (g i)) (hd : 204 ≤ dn) : ∀ n k pc, [19][k]? = some pc → rx_OK (zV b e D A X) mX3_statement (dn + 1) pc (rx_J (vhX3_statement g) n k) := rx_loop fun j hj k pc h => by
  match k, h with
  | 0, h =>
    have e9 := Option.some.inj (show some 19 = some pc from h)
    subst e9
    exact wX3_statement_19 hZ hg hd j hj
  | _ + 1, h => exact absurd h (by simp)
noncomputable def FX3_statement (g : Nat → List Nat → rx_H → Option (Nat × rx_H)) : List Nat → rx_H → Option (Nat × rx_H) := rx_ent 4 (vX3_statement_0 g (rx_J (vhX3_statement g) 4000000000))
theorem Met_X3_statement {dn : Nat} {g : Nat → List Nat → rx_H → Option (Nat × rx_H)} (hZ : zO b e D A X) (hg : ∀ i y M, vl5[i]? = some (y, M) → rx_Met (zV b e D A X) dn y M (g i)) (hd : 204 ≤ dn) : rx_Met (zV b e D A X) (dn + 1) yX3_statement mX3_statement (FX3_statement g) := rx_entry hZ.1 (wX3_statement_0 hZ hg hd _ (vlX3_statement hZ hg hd 4000000000)) (by decide +kernel) rfl (fun h => by cases h)
noncomputable def vX3_tried_91 (g : Nat → List Nat → rx_H → Option (Nat × rx_H)) : rx_K := o_callV 1 3 (g 2) (o_ld rx_isR 0 (o_getf 3 1 (o_ld rx_isI 3 (o_callV 1 1 FX1_patch (o_ret0)))))
set_option maxRecDepth 20000 in
theorem wX3_tried_91 {dn : Nat} {g : Nat → List Nat → rx_H → Option (Nat × rx_H)} (hZ : zO b e D A X) (hg : ∀ i y M, vl5[i]? = some (y, M) → rx_Met (zV b e D A X) dn y M (g i)) (hd : 204 ≤ dn) : rx_OK (zV b e D A X) mX3_tried (dn + 1) 91 (vX3_tried_91 g) := by
  unfold vX3_tried_91
  refine s_callV hZ.1 (hg 2 _ _ rfl) (Nat.le_refl _) vy_X3_statement zcl3 zw2296 zw103 (Or.inl zw2294) dX3_tried_91 ?_
  refine s_aload_n hZ.1 dX3_tried_94 rfl ?_
  refine yg3_1 dX3_tried_95 zw722 ?_
  refine s_iload_n hZ.1 dX3_tried_98 rfl ?_
  refine s_callV hZ.1 (Met_X1_patch hZ) (Nat.succ_le_succ (Nat.le_trans (Nat.le_of_ble_eq_true rfl) hd)) vy_X1_patch zcl1 zw2287 zw2288 (Or.inl zw2286) dX3_tried_99 ?_
  exact s_vret rfl dX3_tried_102
noncomputable def vX3_tried_45 (g : Nat → List Nat → rx_H → Option (Nat × rx_H)) : rx_K := o_ld rx_isI 2 (o_callV 1 1 FX1_patch (o_ld rx_isR 0 (o_getf 3 1 (o_const 312 (o_ld rx_isR 0 (o_const 120 (o_ld rx_isR 1 (o_getf 8 10 (o_const 3 (o_const 147573952589676412897 (o_callV 4 3 FX3_useOf (o_callV 2 1 FX1_emit (o_pop (o_ld rx_isR 0 (o_getf 3 1 (o_const 32 (o_ld rx_isR 1 (o_getf 8 4 (o_callV 2 1 FX1_emit (o_pop (o_ld rx_isR 0 (o_ld rx_isR 1 (o_getf 8 6 ((vX3_tried_91 g)))))))))))))))))))))))))
set_option maxRecDepth 20000 in
theorem wX3_tried_45 {dn : Nat} {g : Nat → List Nat → rx_H → Option (Nat × rx_H)} (hZ : zO b e D A X) (hg : ∀ i y M, vl5[i]? = some (y, M) → rx_Met (zV b e D A X) dn y M (g i)) (hd : 204 ≤ dn) : rx_OK (zV b e D A X) mX3_tried (dn + 1) 45 (vX3_tried_45 g) := by
  unfold vX3_tried_45
  refine s_iload_n hZ.1 dX3_tried_45 rfl ?_
  refine s_callV hZ.1 (Met_X1_patch hZ) (Nat.succ_le_succ (Nat.le_trans (Nat.le_of_ble_eq_true rfl) hd)) vy_X1_patch zcl1 zw2287 zw2288 (Or.inl zw2286) dX3_tried_46 ?_
  refine s_aload_n hZ.1 dX3_tried_49 rfl ?_
  refine yg3_1 dX3_tried_50 zw722 ?_
  refine s_bipush dX3_tried_53 (by decide +kernel) ?_
  refine s_aload_n hZ.1 dX3_tried_55 rfl ?_
  refine s_bipush dX3_tried_56 (by decide +kernel) ?_
  refine s_aload_n hZ.1 dX3_tried_58 rfl ?_
  refine yg8_10 dX3_tried_59 zw496 ?_
  refine s_null dX3_tried_62 ?_
  refine s_ldc2 dX3_tried_63 zw2228 (by decide +kernel) ?_
  refine s_callV hZ.1 (Met_X3_useOf hZ) (Nat.succ_le_succ (Nat.le_trans (Nat.le_of_ble_eq_true rfl) hd)) vy_X3_useOf zcl3 zw2231 zw92 (Or.inl zw2229) dX3_tried_66 ?_
  refine s_callV hZ.1 (Met_X1_emit hZ) (Nat.succ_le_succ (Nat.le_trans (Nat.le_of_ble_eq_true rfl) hd)) vy_X1_emit zcl1 zw2254 zw2255 (Or.inl zw2253) dX3_tried_69 ?_
  refine s_pop hZ.1 dX3_tried_72 ?_
  refine s_aload_n hZ.1 dX3_tried_73 rfl ?_
  refine yg3_1 dX3_tried_74 zw722 ?_
  refine s_iconst dX3_tried_77 (by decide +kernel) ?_
  refine s_aload_n hZ.1 dX3_tried_78 rfl ?_
  refine yg8_4 dX3_tried_79 zw472 ?_
  refine s_callV hZ.1 (Met_X1_emit hZ) (Nat.succ_le_succ (Nat.le_trans (Nat.le_of_ble_eq_true rfl) hd)) vy_X1_emit zcl1 zw2254 zw2255 (Or.inl zw2253) dX3_tried_82 ?_
  refine s_pop hZ.1 dX3_tried_85 ?_
  refine s_aload_n hZ.1 dX3_tried_86 rfl ?_
  refine s_aload_n hZ.1 dX3_tried_87 rfl ?_
  refine yg8_6 dX3_tried_88 zw480 ?_
  exact (wX3_tried_91 hZ hg hd)
noncomputable def vX3_tried_0 (g : Nat → List Nat → rx_H → Option (Nat × rx_H)) : rx_K := o_ld rx_isR 0 (o_getf 3 1 (o_const 128 (o_const 0 (o_callV 2 1 FX1_emit (o_st rx_isI 2 (o_ld rx_isR 0 (o_ld rx_isR 1 (o_getf 8 5 (o_callV 1 3 (g 2) (o_ld rx_isR 0 (o_getf 3 1 (o_const 136 (o_const 0 (o_callV 2 1 FX1_emit (o_pop (o_ld rx_isR 0 (o_getf 3 1 (o_const 96 (o_const 0 (o_callV 2 1 FX1_emit (o_st rx_isI 3 (o_ld rx_isR 0 (o_getf 3 1 ((vX3_tried_45 g)))))))))))))))))))))))))
set_option maxRecDepth 20000 in
theorem wX3_tried_0 {dn : Nat} {g : Nat → List Nat → rx_H → Option (Nat × rx_H)} (hZ : zO b e D A X) (hg : ∀ i y M, vl5[i]? = some (y, M) → rx_Met (zV b e D A X) dn y M (g i)) (hd : 204 ≤ dn) : rx_OK (zV b e D A X) mX3_tried (dn + 1) 0 (vX3_tried_0 g) := by
  unfold vX3_tried_0
  refine s_aload_n hZ.1 dX3_tried_0 rfl ?_
  refine yg3_1 dX3_tried_1 zw722 ?_
  refine s_bipush dX3_tried_4 (by decide +kernel) ?_
  refine s_iconst dX3_tried_6 (by decide +kernel) ?_
  refine s_callV hZ.1 (Met_X1_emit hZ) (Nat.succ_le_succ (Nat.le_trans (Nat.le_of_ble_eq_true rfl) hd)) vy_X1_emit zcl1 zw2254 zw2255 (Or.inl zw2253) dX3_tried_7 ?_
  refine s_istore_n hZ.1 dX3_tried_10 rfl (Nat.le_of_ble_eq_true rfl) ?_
  refine s_aload_n hZ.1 dX3_tried_11 rfl ?_
  refine s_aload_n hZ.1 dX3_tried_12 rfl ?_
  refine yg8_5 dX3_tried_13 zw476 ?_
  refine s_callV hZ.1 (hg 2 _ _ rfl) (Nat.le_refl _) vy_X3_statement zcl3 zw2296 zw103 (Or.inl zw2294) dX3_tried_16 ?_
  refine s_aload_n hZ.1 dX3_tried_19 rfl ?_
  refine yg3_1 dX3_tried_20 zw722 ?_
  refine s_bipush dX3_tried_23 (by decide +kernel) ?_
  refine s_iconst dX3_tried_25 (by decide +kernel) ?_
  refine s_callV hZ.1 (Met_X1_emit hZ) (Nat.succ_le_succ (Nat.le_trans (Nat.le_of_ble_eq_true rfl) hd)) vy_X1_emit zcl1 zw2254 zw2255 (Or.inl zw2253) dX3_tried_26 ?_
  refine s_pop hZ.1 dX3_tried_29 ?_
  refine s_aload_n hZ.1 dX3_tried_30 rfl ?_
  refine yg3_1 dX3_tried_31 zw722 ?_
  refine s_bipush dX3_tried_34 (by decide +kernel) ?_
  refine s_iconst dX3_tried_36 (by decide +kernel) ?_
  refine s_callV hZ.1 (Met_X1_emit hZ) (Nat.succ_le_succ (Nat.le_trans (Nat.le_of_ble_eq_true rfl) hd)) vy_X1_emit zcl1 zw2254 zw2255 (Or.inl zw2253) dX3_tried_37 ?_
  refine s_istore_n hZ.1 dX3_tried_40 rfl (Nat.le_of_ble_eq_true rfl) ?_
  refine s_aload_n hZ.1 dX3_tried_41 rfl ?_
  refine yg3_1 dX3_tried_42 zw722 ?_
  exact (wX3_tried_45 hZ hg hd)
noncomputable def FX3_tried (g : Nat → List Nat → rx_H → Option (Nat × rx_H)) : List Nat → rx_H → Option (Nat × rx_H) := rx_ent 4 (vX3_tried_0 g)
theorem Met_X3_tried {dn : Nat} {g : Nat → List Nat → rx_H → Option (Nat × rx_H)} (hZ : zO b e D A X) (hg : ∀ i y M, vl5[i]? = some (y, M) → rx_Met (zV b e D A X) dn y M (g i)) (hd : 204 ≤ dn) : rx_Met (zV b e D A X) (dn + 1) yX3_tried mX3_tried (FX3_tried g) := rx_entry hZ.1 (wX3_tried_0 hZ hg hd) (by decide +kernel) rfl (fun h => by cases h)
noncomputable def q5 (n : Nat) : Nat → List Nat → rx_H → Option (Nat × rx_H) := Nat.rec (fun _ _ _ => none) (fun _ ih i => rx_nth [FX3_branch ih, FX3_loop ih, FX3_statement ih, FX3_tried ih] i (fun _ _ => none)) n
theorem q5_ok (hZ : zO b e D A X) : ∀ n i y M, vl5[i]? = some (y, M) → rx_Met (zV b e D A X) (204 + n) y M (q5 n i)
  | 0 => fun i y M _ As h r h2 hf => by cases hf
  | n + 1 => fun i y M h => by
    match i, h with
    | 0, h => cases h; exact Met_X3_branch hZ (q5_ok hZ n) (Nat.le_add_right 204 n)
    | 1, h => cases h; exact Met_X3_loop hZ (q5_ok hZ n) (Nat.le_add_right 204 n)
    | 2, h => cases h; exact Met_X3_statement hZ (q5_ok hZ n) (Nat.le_add_right 204 n)
    | 3, h => cases h; exact Met_X3_tried hZ (q5_ok hZ n) (Nat.le_add_right 204 n)
    | _ + 4, h => exact absurd h (by simp)
abbrev mX3_body : rx_M := (RX3, cX3_body, 2, none, false)
theorem vy_X3_body : rx_Y (zV b e D A X) yX3_body mX3_body 1 := ⟨zw2320, zw422, by decide, by decide +kernel, by decide +kernel, by decide +kernel⟩
noncomputable def vX3_body_94 : rx_K := o_ret0
set_option maxRecDepth 20000 in
theorem wX3_body_94 (hZ : zO b e D A X) : rx_OK (zV b e D A X) mX3_body 405 94 vX3_body_94 := by
  unfold vX3_body_94
  exact s_vret rfl dX3_body_94
noncomputable def vX3_body_64 : rx_K := o_ld rx_isR 1 (o_ld rx_isR 0 (o_getf 3 1 (o_getf 1 17 (o_putf rx_isI 7 17 (o_ld rx_isR 0 (o_ld rx_isR 1 (o_getf 7 14 (o_callV 1 3 (q5 200 2) (o_ld rx_isR 0 (o_getf 3 1 (o_const 144 (o_const 0 (o_callV 2 1 FX1_emit (o_pop (vX3_body_94)))))))))))))))
set_option maxRecDepth 20000 in
theorem wX3_body_64 (hZ : zO b e D A X) : rx_OK (zV b e D A X) mX3_body 405 64 vX3_body_64 := by
  unfold vX3_body_64
  refine s_aload_n hZ.1 dX3_body_64 rfl ?_
  refine s_aload_n hZ.1 dX3_body_65 rfl ?_
  refine yg3_1 dX3_body_66 zw722 ?_
  refine yg1_17 dX3_body_69 zw1172 ?_
  refine yp7_17 hZ.1 dX3_body_72 zw1066 ?_
  refine s_aload_n hZ.1 dX3_body_75 rfl ?_
  refine s_aload_n hZ.1 dX3_body_76 rfl ?_
  refine yg7_14 dX3_body_77 zw1048 ?_
  refine s_callV hZ.1 (q5_ok hZ 200 2 _ _ rfl) (Nat.le_of_ble_eq_true rfl) vy_X3_statement zcl3 zw2296 zw103 (Or.inl zw2294) dX3_body_80 ?_
  refine s_aload_n hZ.1 dX3_body_83 rfl ?_
  refine yg3_1 dX3_body_84 zw722 ?_
  refine s_bipush dX3_body_87 (by decide +kernel) ?_
  refine s_iconst dX3_body_89 (by decide +kernel) ?_
  refine s_callV hZ.1 (Met_X1_emit hZ) (Nat.le_of_ble_eq_true rfl) vy_X1_emit zcl1 zw2254 zw2255 (Or.inl zw2253) dX3_body_90 ?_
  refine s_pop hZ.1 dX3_body_93 ?_
  exact (wX3_body_94 hZ)
noncomputable def vX3_body_61 : rx_K := vX3_body_94
set_option maxRecDepth 20000 in
theorem wX3_body_61 (hZ : zO b e D A X) : rx_OK (zV b e D A X) mX3_body 405 61 vX3_body_61 := by
  unfold vX3_body_61
  exact s_goto dX3_body_61 (by decide) (wX3_body_94 hZ)
noncomputable def vX3_body_8 : rx_K := o_ld rx_isR 0 (o_callV 0 3 FX3_openStart (o_ld rx_isR 0 (o_getf 3 2 (o_getf 10 18 (o_ld rx_isR 0 (o_getf 3 2 (o_getf 10 18 (o_getf 7 18 (o_ld rx_isR 1 (o_getf 7 18 (o_mm z_max (o_putf rx_isI 7 18 (o_ld rx_isR 0 (o_ld rx_isR 1 (o_getf 7 14 (o_callV 1 3 (q5 200 2) (o_ld rx_isR 0 (o_ld rx_isR 0 (o_getf 3 1 (o_const 96 (o_const 0 (o_callV 2 1 FX1_emit (o_putf rx_isI 3 5 (vX3_body_61))))))))))))))))))))))))
set_option maxRecDepth 20000 in
theorem wX3_body_8 (hZ : zO b e D A X) : rx_OK (zV b e D A X) mX3_body 405 8 vX3_body_8 := by
  unfold vX3_body_8
  refine s_aload_n hZ.1 dX3_body_8 rfl ?_
  refine s_callV hZ.1 (Met_X3_openStart hZ) (Nat.le_of_ble_eq_true rfl) vy_X3_openStart zcl3 zw2284 zw101 (Or.inl zw2282) dX3_body_9 ?_
  refine s_aload_n hZ.1 dX3_body_12 rfl ?_
  refine yg3_2 dX3_body_13 zw723 ?_
  refine yg10_18 dX3_body_16 zw884 ?_
  refine s_aload_n hZ.1 dX3_body_19 rfl ?_
  refine yg3_2 dX3_body_20 zw723 ?_
  refine yg10_18 dX3_body_23 zw884 ?_
  refine yg7_18 dX3_body_26 zw1069 ?_
  refine s_aload_n hZ.1 dX3_body_29 rfl ?_
  refine yg7_18 dX3_body_30 zw1069 ?_
  refine s_mmax hZ.1 (Nat.le_of_ble_eq_true rfl) zw2316 zw2179 zw432 zmath_max dX3_body_33 ?_
  refine yp7_18 hZ.1 dX3_body_36 zw1069 ?_
  refine s_aload_n hZ.1 dX3_body_39 rfl ?_
  refine s_aload_n hZ.1 dX3_body_40 rfl ?_
  refine yg7_14 dX3_body_41 zw1048 ?_
  refine s_callV hZ.1 (q5_ok hZ 200 2 _ _ rfl) (Nat.le_of_ble_eq_true rfl) vy_X3_statement zcl3 zw2296 zw103 (Or.inl zw2294) dX3_body_44 ?_
  refine s_aload_n hZ.1 dX3_body_47 rfl ?_
  refine s_aload_n hZ.1 dX3_body_48 rfl ?_
  refine yg3_1 dX3_body_49 zw722 ?_
  refine s_bipush dX3_body_52 (by decide +kernel) ?_
  refine s_iconst dX3_body_54 (by decide +kernel) ?_
  refine s_callV hZ.1 (Met_X1_emit hZ) (Nat.le_of_ble_eq_true rfl) vy_X1_emit zcl1 zw2254 zw2255 (Or.inl zw2253) dX3_body_55 ?_
  refine yp3_5 hZ.1 dX3_body_58 zw726 ?_
  exact (wX3_body_61 hZ)
noncomputable def vX3_body_0 : rx_K := o_ld rx_isR 1 (o_getf 7 0 (o_const 24 (o_c2 rx_eq vX3_body_8 vX3_body_64)))
set_option maxRecDepth 20000 in
theorem wX3_body_0 (hZ : zO b e D A X) : rx_OK (zV b e D A X) mX3_body 405 0 vX3_body_0 := by
  unfold vX3_body_0
  refine s_aload_n hZ.1 dX3_body_0 rfl ?_
  refine yg7_0 dX3_body_1 zw944 ?_
  refine s_iconst dX3_body_4 (by decide +kernel) ?_
  exact s_icmp_ne dX3_body_5 (by decide) (wX3_body_64 hZ) (wX3_body_8 hZ)
noncomputable def FX3_body : List Nat → rx_H → Option (Nat × rx_H) := rx_ent 2 vX3_body_0
theorem Met_X3_body (hZ : zO b e D A X) : rx_Met (zV b e D A X) 405 yX3_body mX3_body (FX3_body) := rx_entry hZ.1 (wX3_body_0 hZ) (by decide +kernel) rfl (fun h => by cases h)
abbrev mX3_bridge : rx_M := (RX3, cX3_bridge, 4, none, false)
theorem vy_X3_bridge : rx_Y (zV b e D A X) yX3_bridge mX3_bridge 2 := ⟨zw2325, zw422, by decide, by decide +kernel, by decide +kernel, by decide +kernel⟩
noncomputable def vX3_bridge_102 (j : Nat → rx_K) : rx_K := o_ld rx_isR 0 (o_getf 3 2 (o_getf 10 1 (o_ld rx_isR 2 (o_const 147573952589676412897 (o_callV 4 3 FX3_useOf (o_callV 2 1 FX1_emit (o_pop (o_ld rx_isR 0 (o_const 136 (o_ld rx_isR 2 (o_getf 7 8 (o_const 3 (o_ld rx_isR 1 (o_getf 7 8 (o_callV 4 3 FX3_useOf (o_pop (o_ld rx_isR 0 (o_getf 3 1 (o_const 152 (o_const 0 (o_callV 2 1 FX1_emit (o_pop (o_ret0)))))))))))))))))))))))
set_option maxRecDepth 20000 in
theorem wX3_bridge_102 (hZ : zO b e D A X) (j : Nat → rx_K) (hj : ∀ k pc, [39][k]? = some pc → rx_OK (zV b e D A X) mX3_bridge 2 pc (j k)) : rx_OK (zV b e D A X) mX3_bridge 2 102 (vX3_bridge_102 j) := by
  unfold vX3_bridge_102
  refine s_aload_n hZ.1 dX3_bridge_102 rfl ?_
  refine yg3_2 dX3_bridge_103 zw723 ?_
  refine yg10_1 dX3_bridge_106 zw774 ?_
  refine s_aload_n hZ.1 dX3_bridge_109 rfl ?_
  refine s_ldc2 dX3_bridge_110 zw2228 (by decide +kernel) ?_
  refine s_callV hZ.1 (Met_X3_useOf hZ) (Nat.le_of_ble_eq_true rfl) vy_X3_useOf zcl3 zw2231 zw92 (Or.inl zw2229) dX3_bridge_113 ?_
  refine s_callV hZ.1 (Met_X1_emit hZ) (Nat.le_of_ble_eq_true rfl) vy_X1_emit zcl1 zw2254 zw2255 (Or.inl zw2253) dX3_bridge_116 ?_
  refine s_pop hZ.1 dX3_bridge_119 ?_
  refine s_aload_n hZ.1 dX3_bridge_120 rfl ?_
  refine s_bipush dX3_bridge_121 (by decide +kernel) ?_
  refine s_aload_n hZ.1 dX3_bridge_123 rfl ?_
  refine yg7_8 dX3_bridge_124 zw1014 ?_
  refine s_null dX3_bridge_127 ?_
  refine s_aload_n hZ.1 dX3_bridge_128 rfl ?_
  refine yg7_8 dX3_bridge_129 zw1014 ?_
  refine s_callV hZ.1 (Met_X3_useOf hZ) (Nat.le_of_ble_eq_true rfl) vy_X3_useOf zcl3 zw2231 zw92 (Or.inl zw2229) dX3_bridge_132 ?_
  refine s_pop hZ.1 dX3_bridge_135 ?_
  refine s_aload_n hZ.1 dX3_bridge_136 rfl ?_
  refine yg3_1 dX3_bridge_137 zw722 ?_
  refine s_bipush dX3_bridge_140 (by decide +kernel) ?_
  refine s_iconst dX3_bridge_142 (by decide +kernel) ?_
  refine s_callV hZ.1 (Met_X1_emit hZ) (Nat.le_of_ble_eq_true rfl) vy_X1_emit zcl1 zw2254 zw2255 (Or.inl zw2253) dX3_bridge_143 ?_
  refine s_pop hZ.1 dX3_bridge_146 ?_
  exact s_vret rfl dX3_bridge_147
noncomputable def vX3_bridge_101 (j : Nat → rx_K) : rx_K := o_ld rx_isI 3 ((vX3_bridge_102 j))
set_option maxRecDepth 20000 in
theorem wX3_bridge_101 (hZ : zO b e D A X) (j : Nat → rx_K) (hj : ∀ k pc, [39][k]? = some pc → rx_OK (zV b e D A X) mX3_bridge 2 pc (j k)) : rx_OK (zV b e D A X) mX3_bridge 2 101 (vX3_bridge_101 j) := by
  unfold vX3_bridge_101
  refine s_iload_n hZ.1 dX3_bridge_101 rfl ?_
  exact (wX3_bridge_102 hZ j hj)
noncomputable def vX3_bridge_95 (j : Nat → rx_K) : rx_K := o_ld rx_isI 3 (o_const 8 (o_bi (fun x y => x + y) ((vX3_bridge_102 j))))
set_option maxRecDepth 20000 in
theorem wX3_bridge_95 (hZ : zO b e D A X) (j : Nat → rx_K) (hj : ∀ k pc, [39][k]? = some pc → rx_OK (zV b e D A X) mX3_bridge 2 pc (j k)) : rx_OK (zV b e D A X) mX3_bridge 2 95 (vX3_bridge_95 j) := by
  unfold vX3_bridge_95
  refine s_iload_n hZ.1 dX3_bridge_95 rfl ?_
  refine s_iconst dX3_bridge_96 (by decide +kernel) ?_
  refine s_iadd dX3_bridge_97 ?_
  exact s_goto dX3_bridge_98 (by decide) (wX3_bridge_102 hZ j hj)
noncomputable def vX3_bridge_77 (j : Nat → rx_K) : rx_K := o_st rx_isI 3 (o_ld rx_isR 0 (o_getf 3 1 (o_const 272 (o_ld rx_isR 0 (o_ld rx_isR 0 (o_getf 3 2 (o_getf 10 4 (o_c1 rx_eq (vX3_bridge_101 j) (vX3_bridge_95 j)))))))))
set_option maxRecDepth 20000 in
theorem wX3_bridge_77 (hZ : zO b e D A X) (j : Nat → rx_K) (hj : ∀ k pc, [39][k]? = some pc → rx_OK (zV b e D A X) mX3_bridge 2 pc (j k)) : rx_OK (zV b e D A X) mX3_bridge 2 77 (vX3_bridge_77 j) := by
  unfold vX3_bridge_77
  refine s_istore_n hZ.1 dX3_bridge_77 rfl (Nat.le_of_ble_eq_true rfl) ?_
  refine s_aload_n hZ.1 dX3_bridge_78 rfl ?_
  refine yg3_1 dX3_bridge_79 zw722 ?_
  refine s_bipush dX3_bridge_82 (by decide +kernel) ?_
  refine s_aload_n hZ.1 dX3_bridge_84 rfl ?_
  refine s_aload_n hZ.1 dX3_bridge_85 rfl ?_
  refine yg3_2 dX3_bridge_86 zw723 ?_
  refine yg10_4 dX3_bridge_89 zw795 ?_
  exact s_if_eq dX3_bridge_92 (by decide) (wX3_bridge_101 hZ j hj) (wX3_bridge_95 hZ j hj)
noncomputable def vX3_bridge_75 (j : Nat → rx_K) : rx_K := o_const 56 ((vX3_bridge_77 j))
set_option maxRecDepth 20000 in
theorem wX3_bridge_75 (hZ : zO b e D A X) (j : Nat → rx_K) (hj : ∀ k pc, [39][k]? = some pc → rx_OK (zV b e D A X) mX3_bridge 2 pc (j k)) : rx_OK (zV b e D A X) mX3_bridge 2 75 (vX3_bridge_75 j) := by
  unfold vX3_bridge_75
  refine s_bipush dX3_bridge_75 (by decide +kernel) ?_
  exact (wX3_bridge_77 hZ j hj)
noncomputable def vX3_bridge_70 (j : Nat → rx_K) : rx_K := o_const 72 ((vX3_bridge_77 j))
set_option maxRecDepth 20000 in
theorem wX3_bridge_70 (hZ : zO b e D A X) (j : Nat → rx_K) (hj : ∀ k pc, [39][k]? = some pc → rx_OK (zV b e D A X) mX3_bridge 2 pc (j k)) : rx_OK (zV b e D A X) mX3_bridge 2 70 (vX3_bridge_70 j) := by
  unfold vX3_bridge_70
  refine s_bipush dX3_bridge_70 (by decide +kernel) ?_
  exact s_goto dX3_bridge_72 (by decide) (wX3_bridge_77 hZ j hj)
noncomputable def vX3_bridge_63 (j : Nat → rx_K) : rx_K := o_ld rx_isR 1 (o_getf 7 2 (o_c1 rx_eq (vX3_bridge_75 j) (vX3_bridge_70 j)))
set_option maxRecDepth 20000 in
theorem wX3_bridge_63 (hZ : zO b e D A X) (j : Nat → rx_K) (hj : ∀ k pc, [39][k]? = some pc → rx_OK (zV b e D A X) mX3_bridge 2 pc (j k)) : rx_OK (zV b e D A X) mX3_bridge 2 63 (vX3_bridge_63 j) := by
  unfold vX3_bridge_63
  refine s_aload_n hZ.1 dX3_bridge_63 rfl ?_
  refine yg7_2 dX3_bridge_64 zw962 ?_
  exact s_if_eq dX3_bridge_67 (by decide) (wX3_bridge_75 hZ j hj) (wX3_bridge_70 hZ j hj)
noncomputable def vX3_bridge_47 (j : Nat → rx_K) : rx_K := o_ld rx_isR 0 (o_getf 3 1 (o_const 24 (o_ld rx_isI 3 (o_callV 2 1 FX1_emit (o_pop (o_inc 3 (1) ((j 0))))))))
set_option maxRecDepth 20000 in
theorem wX3_bridge_47 (hZ : zO b e D A X) (j : Nat → rx_K) (hj : ∀ k pc, [39][k]? = some pc → rx_OK (zV b e D A X) mX3_bridge 2 pc (j k)) : rx_OK (zV b e D A X) mX3_bridge 2 47 (vX3_bridge_47 j) := by
  unfold vX3_bridge_47
  refine s_aload_n hZ.1 dX3_bridge_47 rfl ?_
  refine yg3_1 dX3_bridge_48 zw722 ?_
  refine s_iconst dX3_bridge_51 (by decide +kernel) ?_
  refine s_iload_n hZ.1 dX3_bridge_52 rfl ?_
  refine s_callV hZ.1 (Met_X1_emit hZ) (Nat.le_of_ble_eq_true rfl) vy_X1_emit zcl1 zw2254 zw2255 (Or.inl zw2253) dX3_bridge_53 ?_
  refine s_pop hZ.1 dX3_bridge_56 ?_
  refine s_iinc hZ.1 dX3_bridge_57 (Nat.le_of_ble_eq_true rfl) ?_
  exact s_goto dX3_bridge_60 (by decide) (hj 0 39 rfl)
noncomputable def vX3_bridge_39 (j : Nat → rx_K) : rx_K := o_ld rx_isI 3 (o_ld rx_isR 1 (o_getf 7 18 (o_c2 rx_lt (vX3_bridge_47 j) (vX3_bridge_63 j))))
set_option maxRecDepth 20000 in
theorem wX3_bridge_39 (hZ : zO b e D A X) (j : Nat → rx_K) (hj : ∀ k pc, [39][k]? = some pc → rx_OK (zV b e D A X) mX3_bridge 2 pc (j k)) : rx_OK (zV b e D A X) mX3_bridge 2 39 (vX3_bridge_39 j) := by
  unfold vX3_bridge_39
  refine s_iload_n hZ.1 dX3_bridge_39 rfl ?_
  refine s_aload_n hZ.1 dX3_bridge_40 rfl ?_
  refine yg7_18 dX3_bridge_41 zw1069 ?_
  exact s_icmp_ge dX3_bridge_44 (by decide) (wX3_bridge_63 hZ j hj) (wX3_bridge_47 hZ j hj)
noncomputable def vX3_bridge_33 (j : Nat → rx_K) : rx_K := o_bi (fun x y => x + y) (o_putf rx_isI 7 18 (o_const 0 (o_st rx_isI 3 ((vX3_bridge_39 j)))))
set_option maxRecDepth 20000 in
theorem wX3_bridge_33 (hZ : zO b e D A X) (j : Nat → rx_K) (hj : ∀ k pc, [39][k]? = some pc → rx_OK (zV b e D A X) mX3_bridge 2 pc (j k)) : rx_OK (zV b e D A X) mX3_bridge 2 33 (vX3_bridge_33 j) := by
  unfold vX3_bridge_33
  refine s_iadd dX3_bridge_33 ?_
  refine yp7_18 hZ.1 dX3_bridge_34 zw1069 ?_
  refine s_iconst dX3_bridge_37 (by decide +kernel) ?_
  refine s_istore_n hZ.1 dX3_bridge_38 rfl (Nat.le_of_ble_eq_true rfl) ?_
  exact (wX3_bridge_39 hZ j hj)
noncomputable def vX3_bridge_32 (j : Nat → rx_K) : rx_K := o_const 8 ((vX3_bridge_33 j))
set_option maxRecDepth 20000 in
theorem wX3_bridge_32 (hZ : zO b e D A X) (j : Nat → rx_K) (hj : ∀ k pc, [39][k]? = some pc → rx_OK (zV b e D A X) mX3_bridge 2 pc (j k)) : rx_OK (zV b e D A X) mX3_bridge 2 32 (vX3_bridge_32 j) := by
  unfold vX3_bridge_32
  refine s_iconst dX3_bridge_32 (by decide +kernel) ?_
  exact (wX3_bridge_33 hZ j hj)
noncomputable def vX3_bridge_28 (j : Nat → rx_K) : rx_K := o_const 0 ((vX3_bridge_33 j))
set_option maxRecDepth 20000 in
theorem wX3_bridge_28 (hZ : zO b e D A X) (j : Nat → rx_K) (hj : ∀ k pc, [39][k]? = some pc → rx_OK (zV b e D A X) mX3_bridge 2 pc (j k)) : rx_OK (zV b e D A X) mX3_bridge 2 28 (vX3_bridge_28 j) := by
  unfold vX3_bridge_28
  refine s_iconst dX3_bridge_28 (by decide +kernel) ?_
  exact s_goto dX3_bridge_29 (by decide) (wX3_bridge_33 hZ j hj)
noncomputable def vX3_bridge_5 (j : Nat → rx_K) : rx_K := o_ld rx_isR 1 (o_ld rx_isR 0 (o_getf 3 1 (o_getf 1 17 (o_putf rx_isI 7 17 (o_ld rx_isR 1 (o_ld rx_isR 1 (o_getf 7 9 (o_ld rx_isR 1 (o_getf 7 2 (o_c1 rx_eq (vX3_bridge_32 j) (vX3_bridge_28 j)))))))))))
set_option maxRecDepth 20000 in
theorem wX3_bridge_5 (hZ : zO b e D A X) (j : Nat → rx_K) (hj : ∀ k pc, [39][k]? = some pc → rx_OK (zV b e D A X) mX3_bridge 2 pc (j k)) : rx_OK (zV b e D A X) mX3_bridge 2 5 (vX3_bridge_5 j) := by
  unfold vX3_bridge_5
  refine s_aload_n hZ.1 dX3_bridge_5 rfl ?_
  refine s_aload_n hZ.1 dX3_bridge_6 rfl ?_
  refine yg3_1 dX3_bridge_7 zw722 ?_
  refine yg1_17 dX3_bridge_10 zw1172 ?_
  refine yp7_17 hZ.1 dX3_bridge_13 zw1066 ?_
  refine s_aload_n hZ.1 dX3_bridge_16 rfl ?_
  refine s_aload_n hZ.1 dX3_bridge_17 rfl ?_
  refine yg7_9 dX3_bridge_18 zw1023 ?_
  refine s_aload_n hZ.1 dX3_bridge_21 rfl ?_
  refine yg7_2 dX3_bridge_22 zw962 ?_
  exact s_if_eq dX3_bridge_25 (by decide) (wX3_bridge_32 hZ j hj) (wX3_bridge_28 hZ j hj)
noncomputable def vX3_bridge_4 (j : Nat → rx_K) : rx_K := o_ret0
set_option maxRecDepth 20000 in
theorem wX3_bridge_4 (hZ : zO b e D A X) (j : Nat → rx_K) (hj : ∀ k pc, [39][k]? = some pc → rx_OK (zV b e D A X) mX3_bridge 2 pc (j k)) : rx_OK (zV b e D A X) mX3_bridge 2 4 (vX3_bridge_4 j) := by
  unfold vX3_bridge_4
  exact s_vret rfl dX3_bridge_4
noncomputable def vX3_bridge_0 (j : Nat → rx_K) : rx_K := o_ld rx_isR 2 (o_nul (vX3_bridge_4 j) (vX3_bridge_5 j))
set_option maxRecDepth 20000 in
theorem wX3_bridge_0 (hZ : zO b e D A X) (j : Nat → rx_K) (hj : ∀ k pc, [39][k]? = some pc → rx_OK (zV b e D A X) mX3_bridge 2 pc (j k)) : rx_OK (zV b e D A X) mX3_bridge 2 0 (vX3_bridge_0 j) := by
  unfold vX3_bridge_0
  refine s_aload_n hZ.1 dX3_bridge_0 rfl ?_
  exact s_ifnonnull dX3_bridge_1 (by decide) (wX3_bridge_5 hZ j hj) (wX3_bridge_4 hZ j hj)
noncomputable def vhX3_bridge (j : Nat → rx_K) : List rx_K := [vX3_bridge_39 j]
theorem vlX3_bridge (hZ : zO b e D A X) : ∀ n k pc, [39][k]? = some pc → rx_OK (zV b e D A X) mX3_bridge 2 pc (rx_J (vhX3_bridge) n k) := rx_loop fun j hj k pc h => by
  match k, h with
  | 0, h =>
    have e9 := Option.some.inj (show some 39 = some pc from h)
    subst e9
    exact wX3_bridge_39 hZ j hj
  | _ + 1, h => exact absurd h (by simp)
noncomputable def FX3_bridge : List Nat → rx_H → Option (Nat × rx_H) := rx_ent 4 (vX3_bridge_0 (rx_J (vhX3_bridge) 4000000000))
theorem Met_X3_bridge (hZ : zO b e D A X) : rx_Met (zV b e D A X) 2 yX3_bridge mX3_bridge (FX3_bridge) := rx_entry hZ.1 (wX3_bridge_0 hZ _ (vlX3_bridge hZ 4000000000)) (by decide +kernel) rfl (fun h => by cases h)
abbrev mX3_closeRow : rx_M := (RX3, cX3_closeRow, 1, none, false)
theorem vy_X3_closeRow : rx_Y (zV b e D A X) yX3_closeRow mX3_closeRow 0 := ⟨zw2329, zw422, by decide, by decide +kernel, by decide +kernel, by decide +kernel⟩
noncomputable def vX3_closeRow_98 : rx_K := o_ld rx_isR 0 (o_getf 3 1 (o_ld rx_isR 0 (o_getf 3 6 (o_callV 1 1 FX1_patch (o_ld rx_isR 0 (o_getf 3 1 (o_const 168 (o_const 0 (o_callV 2 1 FX1_emit (o_pop (o_ret0)))))))))))
set_option maxRecDepth 20000 in
theorem wX3_closeRow_98 (hZ : zO b e D A X) : rx_OK (zV b e D A X) mX3_closeRow 1 98 vX3_closeRow_98 := by
  unfold vX3_closeRow_98
  refine s_aload_n hZ.1 dX3_closeRow_98 rfl ?_
  refine yg3_1 dX3_closeRow_99 zw722 ?_
  refine s_aload_n hZ.1 dX3_closeRow_102 rfl ?_
  refine yg3_6 dX3_closeRow_103 zw727 ?_
  refine s_callV hZ.1 (Met_X1_patch hZ) (Nat.le_of_ble_eq_true rfl) vy_X1_patch zcl1 zw2287 zw2288 (Or.inl zw2286) dX3_closeRow_106 ?_
  refine s_aload_n hZ.1 dX3_closeRow_109 rfl ?_
  refine yg3_1 dX3_closeRow_110 zw722 ?_
  refine s_bipush dX3_closeRow_113 (by decide +kernel) ?_
  refine s_iconst dX3_closeRow_115 (by decide +kernel) ?_
  refine s_callV hZ.1 (Met_X1_emit hZ) (Nat.le_of_ble_eq_true rfl) vy_X1_emit zcl1 zw2254 zw2255 (Or.inl zw2253) dX3_closeRow_116 ?_
  refine s_pop hZ.1 dX3_closeRow_119 ?_
  exact s_vret rfl dX3_closeRow_120
noncomputable def vX3_closeRow_84 : rx_K := o_ld rx_isR 0 (o_getf 3 2 (o_ld rx_isR 0 (o_getf 3 1 (o_getf 1 17 (o_putf rx_isI 10 19 (vX3_closeRow_98))))))
set_option maxRecDepth 20000 in
theorem wX3_closeRow_84 (hZ : zO b e D A X) : rx_OK (zV b e D A X) mX3_closeRow 1 84 vX3_closeRow_84 := by
  unfold vX3_closeRow_84
  refine s_aload_n hZ.1 dX3_closeRow_84 rfl ?_
  refine yg3_2 dX3_closeRow_85 zw723 ?_
  refine s_aload_n hZ.1 dX3_closeRow_88 rfl ?_
  refine yg3_1 dX3_closeRow_89 zw722 ?_
  refine yg1_17 dX3_closeRow_92 zw1172 ?_
  refine yp10_19 hZ.1 dX3_closeRow_95 zw887 ?_
  exact (wX3_closeRow_98 hZ)
noncomputable def vX3_closeRow_52 : rx_K := o_ld rx_isR 0 (o_getf 3 1 (o_ld rx_isR 0 (o_getf 3 5 (o_callV 1 1 FX1_patch (o_ld rx_isR 0 (o_getf 3 1 (o_const 176 (o_const 0 (o_callV 2 1 FX1_emit (o_pop (o_ld rx_isR 0 (o_getf 3 2 (o_getf 10 19 (o_c1 rx_lt vX3_closeRow_84 vX3_closeRow_98))))))))))))))
set_option maxRecDepth 20000 in
theorem wX3_closeRow_52 (hZ : zO b e D A X) : rx_OK (zV b e D A X) mX3_closeRow 1 52 vX3_closeRow_52 := by
  unfold vX3_closeRow_52
  refine s_aload_n hZ.1 dX3_closeRow_52 rfl ?_
  refine yg3_1 dX3_closeRow_53 zw722 ?_
  refine s_aload_n hZ.1 dX3_closeRow_56 rfl ?_
  refine yg3_5 dX3_closeRow_57 zw726 ?_
  refine s_callV hZ.1 (Met_X1_patch hZ) (Nat.le_of_ble_eq_true rfl) vy_X1_patch zcl1 zw2287 zw2288 (Or.inl zw2286) dX3_closeRow_60 ?_
  refine s_aload_n hZ.1 dX3_closeRow_63 rfl ?_
  refine yg3_1 dX3_closeRow_64 zw722 ?_
  refine s_bipush dX3_closeRow_67 (by decide +kernel) ?_
  refine s_iconst dX3_closeRow_69 (by decide +kernel) ?_
  refine s_callV hZ.1 (Met_X1_emit hZ) (Nat.le_of_ble_eq_true rfl) vy_X1_emit zcl1 zw2254 zw2255 (Or.inl zw2253) dX3_closeRow_70 ?_
  refine s_pop hZ.1 dX3_closeRow_73 ?_
  refine s_aload_n hZ.1 dX3_closeRow_74 rfl ?_
  refine yg3_2 dX3_closeRow_75 zw723 ?_
  refine yg10_19 dX3_closeRow_78 zw887 ?_
  exact s_if_ge dX3_closeRow_81 (by decide) (wX3_closeRow_98 hZ) (wX3_closeRow_84 hZ)
noncomputable def vX3_closeRow_35 : rx_K := o_ld rx_isR 0 (o_getf 3 2 (o_getf 10 18 (o_ld rx_isR 0 (o_getf 3 1 (o_getf 1 17 (o_putf rx_isI 7 17 (vX3_closeRow_52)))))))
set_option maxRecDepth 20000 in
theorem wX3_closeRow_35 (hZ : zO b e D A X) : rx_OK (zV b e D A X) mX3_closeRow 1 35 vX3_closeRow_35 := by
  unfold vX3_closeRow_35
  refine s_aload_n hZ.1 dX3_closeRow_35 rfl ?_
  refine yg3_2 dX3_closeRow_36 zw723 ?_
  refine yg10_18 dX3_closeRow_39 zw884 ?_
  refine s_aload_n hZ.1 dX3_closeRow_42 rfl ?_
  refine yg3_1 dX3_closeRow_43 zw722 ?_
  refine yg1_17 dX3_closeRow_46 zw1172 ?_
  refine yp7_17 hZ.1 dX3_closeRow_49 zw1066 ?_
  exact (wX3_closeRow_52 hZ)
noncomputable def vX3_closeRow_0 : rx_K := o_ld rx_isR 0 (o_getf 3 2 (o_ld rx_isR 0 (o_getf 3 1 (o_getf 1 15 (o_ld rx_isR 0 (o_getf 3 2 (o_getf 10 16 (o_bi (fun x y => x - y) (o_putf rx_isI 10 17 (o_ld rx_isR 0 (o_getf 3 2 (o_getf 10 18 (o_getf 7 17 (o_c1 rx_lt vX3_closeRow_35 vX3_closeRow_52))))))))))))))
set_option maxRecDepth 20000 in
theorem wX3_closeRow_0 (hZ : zO b e D A X) : rx_OK (zV b e D A X) mX3_closeRow 1 0 vX3_closeRow_0 := by
  unfold vX3_closeRow_0
  refine s_aload_n hZ.1 dX3_closeRow_0 rfl ?_
  refine yg3_2 dX3_closeRow_1 zw723 ?_
  refine s_aload_n hZ.1 dX3_closeRow_4 rfl ?_
  refine yg3_1 dX3_closeRow_5 zw722 ?_
  refine yg1_15 dX3_closeRow_8 zw1165 ?_
  refine s_aload_n hZ.1 dX3_closeRow_11 rfl ?_
  refine yg3_2 dX3_closeRow_12 zw723 ?_
  refine yg10_16 dX3_closeRow_15 zw875 ?_
  refine s_isub dX3_closeRow_18 ?_
  refine yp10_17 hZ.1 dX3_closeRow_19 zw881 ?_
  refine s_aload_n hZ.1 dX3_closeRow_22 rfl ?_
  refine yg3_2 dX3_closeRow_23 zw723 ?_
  refine yg10_18 dX3_closeRow_26 zw884 ?_
  refine yg7_17 dX3_closeRow_29 zw1066 ?_
  exact s_if_ge dX3_closeRow_32 (by decide) (wX3_closeRow_52 hZ) (wX3_closeRow_35 hZ)
noncomputable def FX3_closeRow : List Nat → rx_H → Option (Nat × rx_H) := rx_ent 1 vX3_closeRow_0
theorem Met_X3_closeRow (hZ : zO b e D A X) : rx_Met (zV b e D A X) 1 yX3_closeRow mX3_closeRow (FX3_closeRow) := rx_entry hZ.1 (wX3_closeRow_0 hZ) (by decide +kernel) rfl (fun h => by cases h)
abbrev mX3_field : rx_M := (RX3, cX3_field, 3, none, false)
theorem vy_X3_field : rx_Y (zV b e D A X) yX3_field mX3_field 1 := ⟨zw2248, zw422, by decide, by decide +kernel, by decide +kernel, by decide +kernel⟩
noncomputable def vX3_field_184 : rx_K := o_ret0
set_option maxRecDepth 20000 in
theorem wX3_field_184 (hZ : zO b e D A X) : rx_OK (zV b e D A X) mX3_field 204 184 vX3_field_184 := by
  unfold vX3_field_184
  exact s_vret rfl dX3_field_184
noncomputable def vX3_field_170 : rx_K := o_ld rx_isR 0 (o_ld rx_isR 0 (o_getf 3 1 (o_const 96 (o_const 0 (o_callV 2 1 FX1_emit (o_putf rx_isI 3 6 (vX3_field_184)))))))
set_option maxRecDepth 20000 in
theorem wX3_field_170 (hZ : zO b e D A X) : rx_OK (zV b e D A X) mX3_field 204 170 vX3_field_170 := by
  unfold vX3_field_170
  refine s_aload_n hZ.1 dX3_field_170 rfl ?_
  refine s_aload_n hZ.1 dX3_field_171 rfl ?_
  refine yg3_1 dX3_field_172 zw722 ?_
  refine s_bipush dX3_field_175 (by decide +kernel) ?_
  refine s_iconst dX3_field_177 (by decide +kernel) ?_
  refine s_callV hZ.1 (Met_X1_emit hZ) (Nat.le_of_ble_eq_true rfl) vy_X1_emit zcl1 zw2254 zw2255 (Or.inl zw2253) dX3_field_178 ?_
  refine yp3_6 hZ.1 dX3_field_181 zw727 ?_
  exact (wX3_field_184 hZ)
noncomputable def vX3_field_153 : rx_K := o_ld rx_isR 0 (o_ld rx_isR 0 (o_getf 3 1 (o_const 96 (o_const 0 (o_callV 2 1 FX1_emit (o_putf rx_isI 3 5 (vX3_field_184)))))))
set_option maxRecDepth 20000 in
theorem wX3_field_153 (hZ : zO b e D A X) : rx_OK (zV b e D A X) mX3_field 204 153 vX3_field_153 := by
  unfold vX3_field_153
  refine s_aload_n hZ.1 dX3_field_153 rfl ?_
  refine s_aload_n hZ.1 dX3_field_154 rfl ?_
  refine yg3_1 dX3_field_155 zw722 ?_
  refine s_bipush dX3_field_158 (by decide +kernel) ?_
  refine s_iconst dX3_field_160 (by decide +kernel) ?_
  refine s_callV hZ.1 (Met_X1_emit hZ) (Nat.le_of_ble_eq_true rfl) vy_X1_emit zcl1 zw2254 zw2255 (Or.inl zw2253) dX3_field_161 ?_
  refine yp3_5 hZ.1 dX3_field_164 zw726 ?_
  exact s_goto dX3_field_167 (by decide) (wX3_field_184 hZ)
noncomputable def vX3_field_138 : rx_K := o_ld rx_isR 1 (o_getf 7 17 (o_callV 2 1 FX1_emit (o_pop (o_ld rx_isR 1 (o_getf 7 2 (o_c1 rx_eq vX3_field_170 vX3_field_153))))))
set_option maxRecDepth 20000 in
theorem wX3_field_138 (hZ : zO b e D A X) : rx_OK (zV b e D A X) mX3_field 204 138 vX3_field_138 := by
  unfold vX3_field_138
  refine s_aload_n hZ.1 dX3_field_138 rfl ?_
  refine yg7_17 dX3_field_139 zw1066 ?_
  refine s_callV hZ.1 (Met_X1_emit hZ) (Nat.le_of_ble_eq_true rfl) vy_X1_emit zcl1 zw2254 zw2255 (Or.inl zw2253) dX3_field_142 ?_
  refine s_pop hZ.1 dX3_field_145 ?_
  refine s_aload_n hZ.1 dX3_field_146 rfl ?_
  refine yg7_2 dX3_field_147 zw962 ?_
  exact s_if_eq dX3_field_150 (by decide) (wX3_field_170 hZ) (wX3_field_153 hZ)
noncomputable def vX3_field_136 : rx_K := o_const 184 (vX3_field_138)
set_option maxRecDepth 20000 in
theorem wX3_field_136 (hZ : zO b e D A X) : rx_OK (zV b e D A X) mX3_field 204 136 vX3_field_136 := by
  unfold vX3_field_136
  refine s_bipush dX3_field_136 (by decide +kernel) ?_
  exact (wX3_field_138 hZ)
noncomputable def vX3_field_131 : rx_K := o_const 192 (vX3_field_138)
set_option maxRecDepth 20000 in
theorem wX3_field_131 (hZ : zO b e D A X) : rx_OK (zV b e D A X) mX3_field 204 131 vX3_field_131 := by
  unfold vX3_field_131
  refine s_bipush dX3_field_131 (by decide +kernel) ?_
  exact s_goto dX3_field_133 (by decide) (wX3_field_138 hZ)
noncomputable def vX3_field_93 : rx_K := o_ld rx_isR 0 (o_ld rx_isR 1 (o_getf 7 14 (o_callV 1 3 (q4 200 3) (o_ld rx_isR 0 (o_const 136 (o_ld rx_isR 1 (o_getf 7 14 (o_getf 8 9 (o_const 3 (o_ld rx_isR 1 (o_getf 7 8 (o_callV 4 3 FX3_useOf (o_pop (o_ld rx_isR 0 (o_getf 3 1 (o_ld rx_isR 1 (o_getf 7 2 (o_c1 rx_eq vX3_field_136 vX3_field_131))))))))))))))))))
set_option maxRecDepth 20000 in
theorem wX3_field_93 (hZ : zO b e D A X) : rx_OK (zV b e D A X) mX3_field 204 93 vX3_field_93 := by
  unfold vX3_field_93
  refine s_aload_n hZ.1 dX3_field_93 rfl ?_
  refine s_aload_n hZ.1 dX3_field_94 rfl ?_
  refine yg7_14 dX3_field_95 zw1048 ?_
  refine s_callV hZ.1 (q4_ok hZ 200 3 _ _ rfl) (Nat.le_of_ble_eq_true rfl) vy_X3_expr zcl3 zw2251 zw94 (Or.inl zw2249) dX3_field_98 ?_
  refine s_aload_n hZ.1 dX3_field_101 rfl ?_
  refine s_bipush dX3_field_102 (by decide +kernel) ?_
  refine s_aload_n hZ.1 dX3_field_104 rfl ?_
  refine yg7_14 dX3_field_105 zw1048 ?_
  refine yg8_9 dX3_field_108 zw491 ?_
  refine s_null dX3_field_111 ?_
  refine s_aload_n hZ.1 dX3_field_112 rfl ?_
  refine yg7_8 dX3_field_113 zw1014 ?_
  refine s_callV hZ.1 (Met_X3_useOf hZ) (Nat.le_of_ble_eq_true rfl) vy_X3_useOf zcl3 zw2231 zw92 (Or.inl zw2229) dX3_field_116 ?_
  refine s_pop hZ.1 dX3_field_119 ?_
  refine s_aload_n hZ.1 dX3_field_120 rfl ?_
  refine yg3_1 dX3_field_121 zw722 ?_
  refine s_aload_n hZ.1 dX3_field_124 rfl ?_
  refine yg7_2 dX3_field_125 zw962 ?_
  exact s_if_eq dX3_field_128 (by decide) (wX3_field_136 hZ) (wX3_field_131 hZ)
noncomputable def vX3_field_72 : rx_K := o_ld rx_isR 0 (o_getf 3 1 (o_ld rx_isR 0 (o_getf 3 6 (o_callV 1 1 FX1_patch (o_ld rx_isR 0 (o_getf 3 1 (o_const 24 (o_const 0 (o_callV 2 1 FX1_emit (o_pop (vX3_field_93)))))))))))
set_option maxRecDepth 20000 in
theorem wX3_field_72 (hZ : zO b e D A X) : rx_OK (zV b e D A X) mX3_field 204 72 vX3_field_72 := by
  unfold vX3_field_72
  refine s_aload_n hZ.1 dX3_field_72 rfl ?_
  refine yg3_1 dX3_field_73 zw722 ?_
  refine s_aload_n hZ.1 dX3_field_76 rfl ?_
  refine yg3_6 dX3_field_77 zw727 ?_
  refine s_callV hZ.1 (Met_X1_patch hZ) (Nat.le_of_ble_eq_true rfl) vy_X1_patch zcl1 zw2287 zw2288 (Or.inl zw2286) dX3_field_80 ?_
  refine s_aload_n hZ.1 dX3_field_83 rfl ?_
  refine yg3_1 dX3_field_84 zw722 ?_
  refine s_iconst dX3_field_87 (by decide +kernel) ?_
  refine s_iconst dX3_field_88 (by decide +kernel) ?_
  refine s_callV hZ.1 (Met_X1_emit hZ) (Nat.le_of_ble_eq_true rfl) vy_X1_emit zcl1 zw2254 zw2255 (Or.inl zw2253) dX3_field_89 ?_
  refine s_pop hZ.1 dX3_field_92 ?_
  exact (wX3_field_93 hZ)
noncomputable def vX3_field_64 : rx_K := o_ld rx_isR 0 (o_getf 3 2 (o_ld rx_isI 2 (o_putf rx_isI 10 19 (vX3_field_72))))
set_option maxRecDepth 20000 in
theorem wX3_field_64 (hZ : zO b e D A X) : rx_OK (zV b e D A X) mX3_field 204 64 vX3_field_64 := by
  unfold vX3_field_64
  refine s_aload_n hZ.1 dX3_field_64 rfl ?_
  refine yg3_2 dX3_field_65 zw723 ?_
  refine s_iload_n hZ.1 dX3_field_68 rfl ?_
  refine yp10_19 hZ.1 dX3_field_69 zw887 ?_
  exact (wX3_field_72 hZ)
noncomputable def vX3_field_54 : rx_K := o_ld rx_isR 0 (o_getf 3 2 (o_getf 10 19 (o_c1 rx_lt vX3_field_64 vX3_field_72)))
set_option maxRecDepth 20000 in
theorem wX3_field_54 (hZ : zO b e D A X) : rx_OK (zV b e D A X) mX3_field 204 54 vX3_field_54 := by
  unfold vX3_field_54
  refine s_aload_n hZ.1 dX3_field_54 rfl ?_
  refine yg3_2 dX3_field_55 zw723 ?_
  refine yg10_19 dX3_field_58 zw887 ?_
  exact s_if_ge dX3_field_61 (by decide) (wX3_field_72 hZ) (wX3_field_64 hZ)
noncomputable def vX3_field_47 : rx_K := o_ld rx_isR 0 (o_callV 0 3 FX3_openStart (vX3_field_93))
set_option maxRecDepth 20000 in
theorem wX3_field_47 (hZ : zO b e D A X) : rx_OK (zV b e D A X) mX3_field 204 47 vX3_field_47 := by
  unfold vX3_field_47
  refine s_aload_n hZ.1 dX3_field_47 rfl ?_
  refine s_callV hZ.1 (Met_X3_openStart hZ) (Nat.le_of_ble_eq_true rfl) vy_X3_openStart zcl3 zw2284 zw101 (Or.inl zw2282) dX3_field_48 ?_
  exact s_goto dX3_field_51 (by decide) (wX3_field_93 hZ)
noncomputable def vX3_field_40 : rx_K := o_ld rx_isR 1 (o_getf 7 2 (o_c1 rx_eq vX3_field_54 vX3_field_47))
set_option maxRecDepth 20000 in
theorem wX3_field_40 (hZ : zO b e D A X) : rx_OK (zV b e D A X) mX3_field 204 40 vX3_field_40 := by
  unfold vX3_field_40
  refine s_aload_n hZ.1 dX3_field_40 rfl ?_
  refine yg7_2 dX3_field_41 zw962 ?_
  exact s_if_eq dX3_field_44 (by decide) (wX3_field_54 hZ) (wX3_field_47 hZ)
noncomputable def vX3_field_23 : rx_K := o_ld rx_isR 0 (o_ld rx_isR 1 (o_getf 7 14 (o_callV 1 3 (q4 200 3) (o_ld rx_isR 0 (o_getf 3 1 (o_ld rx_isI 2 (o_putf rx_isI 1 17 (o_ret0))))))))
set_option maxRecDepth 20000 in
theorem wX3_field_23 (hZ : zO b e D A X) : rx_OK (zV b e D A X) mX3_field 204 23 vX3_field_23 := by
  unfold vX3_field_23
  refine s_aload_n hZ.1 dX3_field_23 rfl ?_
  refine s_aload_n hZ.1 dX3_field_24 rfl ?_
  refine yg7_14 dX3_field_25 zw1048 ?_
  refine s_callV hZ.1 (q4_ok hZ 200 3 _ _ rfl) (Nat.le_of_ble_eq_true rfl) vy_X3_expr zcl3 zw2251 zw94 (Or.inl zw2249) dX3_field_28 ?_
  refine s_aload_n hZ.1 dX3_field_31 rfl ?_
  refine yg3_1 dX3_field_32 zw722 ?_
  refine s_iload_n hZ.1 dX3_field_35 rfl ?_
  refine yp1_17 hZ.1 dX3_field_36 zw1172 ?_
  exact s_vret rfl dX3_field_39
noncomputable def vX3_field_8 : rx_K := o_ld rx_isR 0 (o_getf 3 1 (o_getf 1 17 (o_st rx_isI 2 (o_ld rx_isR 1 (o_getf 7 15 (o_c1 rx_eq vX3_field_40 vX3_field_23))))))
set_option maxRecDepth 20000 in
theorem wX3_field_8 (hZ : zO b e D A X) : rx_OK (zV b e D A X) mX3_field 204 8 vX3_field_8 := by
  unfold vX3_field_8
  refine s_aload_n hZ.1 dX3_field_8 rfl ?_
  refine yg3_1 dX3_field_9 zw722 ?_
  refine yg1_17 dX3_field_12 zw1172 ?_
  refine s_istore_n hZ.1 dX3_field_15 rfl (Nat.le_of_ble_eq_true rfl) ?_
  refine s_aload_n hZ.1 dX3_field_16 rfl ?_
  refine yg7_15 dX3_field_17 zw1053 ?_
  exact s_if_eq dX3_field_20 (by decide) (wX3_field_40 hZ) (wX3_field_23 hZ)
noncomputable def vX3_field_7 : rx_K := o_ret0
set_option maxRecDepth 20000 in
theorem wX3_field_7 (hZ : zO b e D A X) : rx_OK (zV b e D A X) mX3_field 204 7 vX3_field_7 := by
  unfold vX3_field_7
  exact s_vret rfl dX3_field_7
noncomputable def vX3_field_0 : rx_K := o_ld rx_isR 1 (o_getf 7 14 (o_nul vX3_field_7 vX3_field_8))
set_option maxRecDepth 20000 in
theorem wX3_field_0 (hZ : zO b e D A X) : rx_OK (zV b e D A X) mX3_field 204 0 vX3_field_0 := by
  unfold vX3_field_0
  refine s_aload_n hZ.1 dX3_field_0 rfl ?_
  refine yg7_14 dX3_field_1 zw1048 ?_
  exact s_ifnonnull dX3_field_4 (by decide) (wX3_field_8 hZ) (wX3_field_7 hZ)
noncomputable def FX3_field : List Nat → rx_H → Option (Nat × rx_H) := rx_ent 3 vX3_field_0
theorem Met_X3_field (hZ : zO b e D A X) : rx_Met (zV b e D A X) 204 yX3_field mX3_field (FX3_field) := rx_entry hZ.1 (wX3_field_0 hZ) (by decide +kernel) rfl (fun h => by cases h)
end ZM11

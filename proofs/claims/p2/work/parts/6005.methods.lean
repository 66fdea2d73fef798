section ZM5
variable {b : Nat} {e : Nat → Value} {D : va_G} {A : Nat → ClassId} {X : State → Prop}
noncomputable def vX0_statement_432 (g : Nat → List Nat → rx_H → Option (Nat × rx_H)) (j : Nat → rx_K) : rx_K := o_ret1 rx_isZ
set_option maxRecDepth 20000 in
theorem wX0_statement_432 {dn : Nat} {g : Nat → List Nat → rx_H → Option (Nat × rx_H)} (hZ : zO b e D A X) (hg : ∀ i y M, vl2[i]? = some (y, M) → rx_Met (zV b e D A X) dn y M (g i)) (hd : 204 ≤ dn) (j : Nat → rx_K) (hj : ∀ k pc, [69][k]? = some pc → rx_OK (zV b e D A X) mX0_statement (dn + 1) pc (j k)) : rx_OK (zV b e D A X) mX0_statement (dn + 1) 432 (vX0_statement_432 g j) := by
  unfold vX0_statement_432
  exact s_zret rx_z_ok rfl dX0_statement_432
noncomputable def vX0_statement_431 (g : Nat → List Nat → rx_H → Option (Nat × rx_H)) (j : Nat → rx_K) : rx_K := o_const 0 ((vX0_statement_432 g j))
set_option maxRecDepth 20000 in
theorem wX0_statement_431 {dn : Nat} {g : Nat → List Nat → rx_H → Option (Nat × rx_H)} (hZ : zO b e D A X) (hg : ∀ i y M, vl2[i]? = some (y, M) → rx_Met (zV b e D A X) dn y M (g i)) (hd : 204 ≤ dn) (j : Nat → rx_K) (hj : ∀ k pc, [69][k]? = some pc → rx_OK (zV b e D A X) mX0_statement (dn + 1) pc (j k)) : rx_OK (zV b e D A X) mX0_statement (dn + 1) 431 (vX0_statement_431 g j) := by
  unfold vX0_statement_431
  refine s_iconst dX0_statement_431 (by decide +kernel) ?_
  exact (wX0_statement_432 hZ hg hd j hj)
noncomputable def vX0_statement_427 (g : Nat → List Nat → rx_H → Option (Nat × rx_H)) (j : Nat → rx_K) : rx_K := o_const 8 ((vX0_statement_432 g j))
set_option maxRecDepth 20000 in
theorem wX0_statement_427 {dn : Nat} {g : Nat → List Nat → rx_H → Option (Nat × rx_H)} (hZ : zO b e D A X) (hg : ∀ i y M, vl2[i]? = some (y, M) → rx_Met (zV b e D A X) dn y M (g i)) (hd : 204 ≤ dn) (j : Nat → rx_K) (hj : ∀ k pc, [69][k]? = some pc → rx_OK (zV b e D A X) mX0_statement (dn + 1) pc (j k)) : rx_OK (zV b e D A X) mX0_statement (dn + 1) 427 (vX0_statement_427 g j) := by
  unfold vX0_statement_427
  refine s_iconst dX0_statement_427 (by decide +kernel) ?_
  exact s_goto dX0_statement_428 (by decide) (wX0_statement_432 hZ hg hd j hj)
noncomputable def vX0_statement_414 (g : Nat → List Nat → rx_H → Option (Nat × rx_H)) (j : Nat → rx_K) : rx_K := o_ld rx_isR 0 (o_const 152 (o_ld rx_isR 1 (o_getf 8 1 (o_callV 2 0 FX0_fail (o_c1 rx_eq (vX0_statement_431 g j) (vX0_statement_427 g j))))))
set_option maxRecDepth 20000 in
theorem wX0_statement_414 {dn : Nat} {g : Nat → List Nat → rx_H → Option (Nat × rx_H)} (hZ : zO b e D A X) (hg : ∀ i y M, vl2[i]? = some (y, M) → rx_Met (zV b e D A X) dn y M (g i)) (hd : 204 ≤ dn) (j : Nat → rx_K) (hj : ∀ k pc, [69][k]? = some pc → rx_OK (zV b e D A X) mX0_statement (dn + 1) pc (j k)) : rx_OK (zV b e D A X) mX0_statement (dn + 1) 414 (vX0_statement_414 g j) := by
  unfold vX0_statement_414
  refine s_aload_n hZ.1 dX0_statement_414 rfl ?_
  refine s_bipush dX0_statement_415 (by decide +kernel) ?_
  refine s_aload_n hZ.1 dX0_statement_417 rfl ?_
  refine yg8_1 dX0_statement_418 zw462 ?_
  refine s_callV hZ.1 (Met_X0_fail hZ) (Nat.succ_le_succ (Nat.le_trans (Nat.le_of_ble_eq_true rfl) hd)) vy_X0_fail zcl0 zw2095 zw65 (Or.inl zw2093) dX0_statement_421 ?_
  exact s_if_eq dX0_statement_424 (by decide) (wX0_statement_431 hZ hg hd j hj) (wX0_statement_427 hZ hg hd j hj)
noncomputable def vX0_statement_404 (g : Nat → List Nat → rx_H → Option (Nat × rx_H)) (j : Nat → rx_K) : rx_K := o_ld rx_isR 1 (o_getf 8 5 (o_callS 1 FX0_isCall (o_c1 rx_eq (vX0_statement_414 g j) (vX0_statement_427 g j))))
set_option maxRecDepth 20000 in
theorem wX0_statement_404 {dn : Nat} {g : Nat → List Nat → rx_H → Option (Nat × rx_H)} (hZ : zO b e D A X) (hg : ∀ i y M, vl2[i]? = some (y, M) → rx_Met (zV b e D A X) dn y M (g i)) (hd : 204 ≤ dn) (j : Nat → rx_K) (hj : ∀ k pc, [69][k]? = some pc → rx_OK (zV b e D A X) mX0_statement (dn + 1) pc (j k)) : rx_OK (zV b e D A X) mX0_statement (dn + 1) 404 (vX0_statement_404 g j) := by
  unfold vX0_statement_404
  refine s_aload_n hZ.1 dX0_statement_404 rfl ?_
  refine yg8_5 dX0_statement_405 zw475 ?_
  refine s_callS hZ.1 (Met_X0_isCall hZ) (Nat.succ_le_succ (Nat.le_trans (Nat.le_of_ble_eq_true rfl) hd)) vy_X0_isCall zw2214 (Or.inl zw2213) dX0_statement_408 ?_
  exact s_if_ne dX0_statement_411 (by decide) (wX0_statement_427 hZ hg hd j hj) (wX0_statement_414 hZ hg hd j hj)
noncomputable def vX0_statement_393 (g : Nat → List Nat → rx_H → Option (Nat × rx_H)) (j : Nat → rx_K) : rx_K := o_ld rx_isR 0 (o_ld rx_isR 1 (o_getf 8 5 (o_callV 1 0 (q1 200 3) (o_c1 rx_eq (vX0_statement_431 g j) (vX0_statement_404 g j)))))
set_option maxRecDepth 20000 in
theorem wX0_statement_393 {dn : Nat} {g : Nat → List Nat → rx_H → Option (Nat × rx_H)} (hZ : zO b e D A X) (hg : ∀ i y M, vl2[i]? = some (y, M) → rx_Met (zV b e D A X) dn y M (g i)) (hd : 204 ≤ dn) (j : Nat → rx_K) (hj : ∀ k pc, [69][k]? = some pc → rx_OK (zV b e D A X) mX0_statement (dn + 1) pc (j k)) : rx_OK (zV b e D A X) mX0_statement (dn + 1) 393 (vX0_statement_393 g j) := by
  unfold vX0_statement_393
  refine s_aload_n hZ.1 dX0_statement_393 rfl ?_
  refine s_aload_n hZ.1 dX0_statement_394 rfl ?_
  refine yg8_5 dX0_statement_395 zw475 ?_
  refine s_callV hZ.1 (q1_ok hZ 200 3 _ _ rfl) (Nat.succ_le_succ (Nat.le_trans (Nat.le_of_ble_eq_true rfl) hd)) vy_X0_expr zcl0 zw2090 zw64 (Or.inl zw2088) dX0_statement_398 ?_
  exact s_if_eq dX0_statement_401 (by decide) (wX0_statement_431 hZ hg hd j hj) (wX0_statement_404 hZ hg hd j hj)
noncomputable def vX0_statement_392 (g : Nat → List Nat → rx_H → Option (Nat × rx_H)) (j : Nat → rx_K) : rx_K := o_ret1 rx_isZ
set_option maxRecDepth 20000 in
theorem wX0_statement_392 {dn : Nat} {g : Nat → List Nat → rx_H → Option (Nat × rx_H)} (hZ : zO b e D A X) (hg : ∀ i y M, vl2[i]? = some (y, M) → rx_Met (zV b e D A X) dn y M (g i)) (hd : 204 ≤ dn) (j : Nat → rx_K) (hj : ∀ k pc, [69][k]? = some pc → rx_OK (zV b e D A X) mX0_statement (dn + 1) pc (j k)) : rx_OK (zV b e D A X) mX0_statement (dn + 1) 392 (vX0_statement_392 g j) := by
  unfold vX0_statement_392
  exact s_zret rx_z_ok rfl dX0_statement_392
noncomputable def vX0_statement_391 (g : Nat → List Nat → rx_H → Option (Nat × rx_H)) (j : Nat → rx_K) : rx_K := o_const 0 ((vX0_statement_392 g j))
set_option maxRecDepth 20000 in
theorem wX0_statement_391 {dn : Nat} {g : Nat → List Nat → rx_H → Option (Nat × rx_H)} (hZ : zO b e D A X) (hg : ∀ i y M, vl2[i]? = some (y, M) → rx_Met (zV b e D A X) dn y M (g i)) (hd : 204 ≤ dn) (j : Nat → rx_K) (hj : ∀ k pc, [69][k]? = some pc → rx_OK (zV b e D A X) mX0_statement (dn + 1) pc (j k)) : rx_OK (zV b e D A X) mX0_statement (dn + 1) 391 (vX0_statement_391 g j) := by
  unfold vX0_statement_391
  refine s_iconst dX0_statement_391 (by decide +kernel) ?_
  exact (wX0_statement_392 hZ hg hd j hj)
noncomputable def vX0_statement_387 (g : Nat → List Nat → rx_H → Option (Nat × rx_H)) (j : Nat → rx_K) : rx_K := o_const 8 ((vX0_statement_392 g j))
set_option maxRecDepth 20000 in
theorem wX0_statement_387 {dn : Nat} {g : Nat → List Nat → rx_H → Option (Nat × rx_H)} (hZ : zO b e D A X) (hg : ∀ i y M, vl2[i]? = some (y, M) → rx_Met (zV b e D A X) dn y M (g i)) (hd : 204 ≤ dn) (j : Nat → rx_K) (hj : ∀ k pc, [69][k]? = some pc → rx_OK (zV b e D A X) mX0_statement (dn + 1) pc (j k)) : rx_OK (zV b e D A X) mX0_statement (dn + 1) 387 (vX0_statement_387 g j) := by
  unfold vX0_statement_387
  refine s_iconst dX0_statement_387 (by decide +kernel) ?_
  exact s_goto dX0_statement_388 (by decide) (wX0_statement_392 hZ hg hd j hj)
noncomputable def vX0_statement_379 (g : Nat → List Nat → rx_H → Option (Nat × rx_H)) (j : Nat → rx_K) : rx_K := o_ld rx_isR 0 (o_ld rx_isR 1 (o_callV 1 0 FX0_put (o_c1 rx_eq (vX0_statement_391 g j) (vX0_statement_387 g j))))
set_option maxRecDepth 20000 in
theorem wX0_statement_379 {dn : Nat} {g : Nat → List Nat → rx_H → Option (Nat × rx_H)} (hZ : zO b e D A X) (hg : ∀ i y M, vl2[i]? = some (y, M) → rx_Met (zV b e D A X) dn y M (g i)) (hd : 204 ≤ dn) (j : Nat → rx_K) (hj : ∀ k pc, [69][k]? = some pc → rx_OK (zV b e D A X) mX0_statement (dn + 1) pc (j k)) : rx_OK (zV b e D A X) mX0_statement (dn + 1) 379 (vX0_statement_379 g j) := by
  unfold vX0_statement_379
  refine s_aload_n hZ.1 dX0_statement_379 rfl ?_
  refine s_aload_n hZ.1 dX0_statement_380 rfl ?_
  refine s_callV hZ.1 (Met_X0_put hZ) (Nat.succ_le_succ (Nat.le_trans (Nat.le_of_ble_eq_true rfl) hd)) vy_X0_put zcl0 zw2207 zw90 (Or.inl zw2205) dX0_statement_381 ?_
  exact s_if_eq dX0_statement_384 (by decide) (wX0_statement_391 hZ hg hd j hj) (wX0_statement_387 hZ hg hd j hj)
noncomputable def vX0_statement_368 (g : Nat → List Nat → rx_H → Option (Nat × rx_H)) (j : Nat → rx_K) : rx_K := o_ld rx_isR 0 (o_ld rx_isR 1 (o_getf 8 6 (o_callV 1 0 (q1 200 3) (o_c1 rx_eq (vX0_statement_391 g j) (vX0_statement_379 g j)))))
set_option maxRecDepth 20000 in
theorem wX0_statement_368 {dn : Nat} {g : Nat → List Nat → rx_H → Option (Nat × rx_H)} (hZ : zO b e D A X) (hg : ∀ i y M, vl2[i]? = some (y, M) → rx_Met (zV b e D A X) dn y M (g i)) (hd : 204 ≤ dn) (j : Nat → rx_K) (hj : ∀ k pc, [69][k]? = some pc → rx_OK (zV b e D A X) mX0_statement (dn + 1) pc (j k)) : rx_OK (zV b e D A X) mX0_statement (dn + 1) 368 (vX0_statement_368 g j) := by
  unfold vX0_statement_368
  refine s_aload_n hZ.1 dX0_statement_368 rfl ?_
  refine s_aload_n hZ.1 dX0_statement_369 rfl ?_
  refine yg8_6 dX0_statement_370 zw479 ?_
  refine s_callV hZ.1 (q1_ok hZ 200 3 _ _ rfl) (Nat.succ_le_succ (Nat.le_trans (Nat.le_of_ble_eq_true rfl) hd)) vy_X0_expr zcl0 zw2090 zw64 (Or.inl zw2088) dX0_statement_373 ?_
  exact s_if_eq dX0_statement_376 (by decide) (wX0_statement_391 hZ hg hd j hj) (wX0_statement_379 hZ hg hd j hj)
noncomputable def vX0_statement_357 (g : Nat → List Nat → rx_H → Option (Nat × rx_H)) (j : Nat → rx_K) : rx_K := o_ld rx_isR 0 (o_ld rx_isR 1 (o_getf 8 5 (o_callV 1 0 (q1 200 3) (o_c1 rx_eq (vX0_statement_391 g j) (vX0_statement_368 g j)))))
set_option maxRecDepth 20000 in
theorem wX0_statement_357 {dn : Nat} {g : Nat → List Nat → rx_H → Option (Nat × rx_H)} (hZ : zO b e D A X) (hg : ∀ i y M, vl2[i]? = some (y, M) → rx_Met (zV b e D A X) dn y M (g i)) (hd : 204 ≤ dn) (j : Nat → rx_K) (hj : ∀ k pc, [69][k]? = some pc → rx_OK (zV b e D A X) mX0_statement (dn + 1) pc (j k)) : rx_OK (zV b e D A X) mX0_statement (dn + 1) 357 (vX0_statement_357 g j) := by
  unfold vX0_statement_357
  refine s_aload_n hZ.1 dX0_statement_357 rfl ?_
  refine s_aload_n hZ.1 dX0_statement_358 rfl ?_
  refine yg8_5 dX0_statement_359 zw475 ?_
  refine s_callV hZ.1 (q1_ok hZ 200 3 _ _ rfl) (Nat.succ_le_succ (Nat.le_trans (Nat.le_of_ble_eq_true rfl) hd)) vy_X0_expr zcl0 zw2090 zw64 (Or.inl zw2088) dX0_statement_362 ?_
  exact s_if_eq dX0_statement_365 (by decide) (wX0_statement_391 hZ hg hd j hj) (wX0_statement_368 hZ hg hd j hj)
noncomputable def vX0_statement_356 (g : Nat → List Nat → rx_H → Option (Nat × rx_H)) (j : Nat → rx_K) : rx_K := o_ret1 rx_isZ
set_option maxRecDepth 20000 in
theorem wX0_statement_356 {dn : Nat} {g : Nat → List Nat → rx_H → Option (Nat × rx_H)} (hZ : zO b e D A X) (hg : ∀ i y M, vl2[i]? = some (y, M) → rx_Met (zV b e D A X) dn y M (g i)) (hd : 204 ≤ dn) (j : Nat → rx_K) (hj : ∀ k pc, [69][k]? = some pc → rx_OK (zV b e D A X) mX0_statement (dn + 1) pc (j k)) : rx_OK (zV b e D A X) mX0_statement (dn + 1) 356 (vX0_statement_356 g j) := by
  unfold vX0_statement_356
  exact s_zret rx_z_ok rfl dX0_statement_356
noncomputable def vX0_statement_355 (g : Nat → List Nat → rx_H → Option (Nat × rx_H)) (j : Nat → rx_K) : rx_K := o_const 0 ((vX0_statement_356 g j))
set_option maxRecDepth 20000 in
theorem wX0_statement_355 {dn : Nat} {g : Nat → List Nat → rx_H → Option (Nat × rx_H)} (hZ : zO b e D A X) (hg : ∀ i y M, vl2[i]? = some (y, M) → rx_Met (zV b e D A X) dn y M (g i)) (hd : 204 ≤ dn) (j : Nat → rx_K) (hj : ∀ k pc, [69][k]? = some pc → rx_OK (zV b e D A X) mX0_statement (dn + 1) pc (j k)) : rx_OK (zV b e D A X) mX0_statement (dn + 1) 355 (vX0_statement_355 g j) := by
  unfold vX0_statement_355
  refine s_iconst dX0_statement_355 (by decide +kernel) ?_
  exact (wX0_statement_356 hZ hg hd j hj)
noncomputable def vX0_statement_351 (g : Nat → List Nat → rx_H → Option (Nat × rx_H)) (j : Nat → rx_K) : rx_K := o_const 8 ((vX0_statement_356 g j))
set_option maxRecDepth 20000 in
theorem wX0_statement_351 {dn : Nat} {g : Nat → List Nat → rx_H → Option (Nat × rx_H)} (hZ : zO b e D A X) (hg : ∀ i y M, vl2[i]? = some (y, M) → rx_Met (zV b e D A X) dn y M (g i)) (hd : 204 ≤ dn) (j : Nat → rx_K) (hj : ∀ k pc, [69][k]? = some pc → rx_OK (zV b e D A X) mX0_statement (dn + 1) pc (j k)) : rx_OK (zV b e D A X) mX0_statement (dn + 1) 351 (vX0_statement_351 g j) := by
  unfold vX0_statement_351
  refine s_iconst dX0_statement_351 (by decide +kernel) ?_
  exact s_goto dX0_statement_352 (by decide) (wX0_statement_356 hZ hg hd j hj)
noncomputable def vX0_statement_343 (g : Nat → List Nat → rx_H → Option (Nat × rx_H)) (j : Nat → rx_K) : rx_K := o_ld rx_isR 0 (o_ld rx_isR 1 (o_callV 1 0 FX0_superMaker (o_c1 rx_eq (vX0_statement_355 g j) (vX0_statement_351 g j))))
set_option maxRecDepth 20000 in
theorem wX0_statement_343 {dn : Nat} {g : Nat → List Nat → rx_H → Option (Nat × rx_H)} (hZ : zO b e D A X) (hg : ∀ i y M, vl2[i]? = some (y, M) → rx_Met (zV b e D A X) dn y M (g i)) (hd : 204 ≤ dn) (j : Nat → rx_K) (hj : ∀ k pc, [69][k]? = some pc → rx_OK (zV b e D A X) mX0_statement (dn + 1) pc (j k)) : rx_OK (zV b e D A X) mX0_statement (dn + 1) 343 (vX0_statement_343 g j) := by
  unfold vX0_statement_343
  refine s_aload_n hZ.1 dX0_statement_343 rfl ?_
  refine s_aload_n hZ.1 dX0_statement_344 rfl ?_
  refine s_callV hZ.1 (Met_X0_superMaker hZ) (Nat.succ_le_succ (Nat.le_trans (Nat.le_of_ble_eq_true rfl) hd)) vy_X0_superMaker zcl0 zw2203 zw89 (Or.inl zw2201) dX0_statement_345 ?_
  exact s_if_eq dX0_statement_348 (by decide) (wX0_statement_355 hZ hg hd j hj) (wX0_statement_351 hZ hg hd j hj)
noncomputable def vX0_statement_332 (g : Nat → List Nat → rx_H → Option (Nat × rx_H)) (j : Nat → rx_K) : rx_K := o_ld rx_isR 0 (o_ld rx_isR 1 (o_getf 8 5 (o_callV 1 0 (q1 200 4) (o_c1 rx_eq (vX0_statement_355 g j) (vX0_statement_343 g j)))))
set_option maxRecDepth 20000 in
theorem wX0_statement_332 {dn : Nat} {g : Nat → List Nat → rx_H → Option (Nat × rx_H)} (hZ : zO b e D A X) (hg : ∀ i y M, vl2[i]? = some (y, M) → rx_Met (zV b e D A X) dn y M (g i)) (hd : 204 ≤ dn) (j : Nat → rx_K) (hj : ∀ k pc, [69][k]? = some pc → rx_OK (zV b e D A X) mX0_statement (dn + 1) pc (j k)) : rx_OK (zV b e D A X) mX0_statement (dn + 1) 332 (vX0_statement_332 g j) := by
  unfold vX0_statement_332
  refine s_aload_n hZ.1 dX0_statement_332 rfl ?_
  refine s_aload_n hZ.1 dX0_statement_333 rfl ?_
  refine yg8_5 dX0_statement_334 zw475 ?_
  refine s_callV hZ.1 (q1_ok hZ 200 4 _ _ rfl) (Nat.succ_le_succ (Nat.le_trans (Nat.le_of_ble_eq_true rfl) hd)) vy_X0_exprs zcl0 zw2115 zw70 (Or.inl zw2113) dX0_statement_337 ?_
  exact s_if_eq dX0_statement_340 (by decide) (wX0_statement_355 hZ hg hd j hj) (wX0_statement_343 hZ hg hd j hj)
noncomputable def vX0_statement_331 (g : Nat → List Nat → rx_H → Option (Nat × rx_H)) (j : Nat → rx_K) : rx_K := o_ret1 rx_isZ
set_option maxRecDepth 20000 in
theorem wX0_statement_331 {dn : Nat} {g : Nat → List Nat → rx_H → Option (Nat × rx_H)} (hZ : zO b e D A X) (hg : ∀ i y M, vl2[i]? = some (y, M) → rx_Met (zV b e D A X) dn y M (g i)) (hd : 204 ≤ dn) (j : Nat → rx_K) (hj : ∀ k pc, [69][k]? = some pc → rx_OK (zV b e D A X) mX0_statement (dn + 1) pc (j k)) : rx_OK (zV b e D A X) mX0_statement (dn + 1) 331 (vX0_statement_331 g j) := by
  unfold vX0_statement_331
  exact s_zret rx_z_ok rfl dX0_statement_331
noncomputable def vX0_statement_330 (g : Nat → List Nat → rx_H → Option (Nat × rx_H)) (j : Nat → rx_K) : rx_K := o_const 0 ((vX0_statement_331 g j))
set_option maxRecDepth 20000 in
theorem wX0_statement_330 {dn : Nat} {g : Nat → List Nat → rx_H → Option (Nat × rx_H)} (hZ : zO b e D A X) (hg : ∀ i y M, vl2[i]? = some (y, M) → rx_Met (zV b e D A X) dn y M (g i)) (hd : 204 ≤ dn) (j : Nat → rx_K) (hj : ∀ k pc, [69][k]? = some pc → rx_OK (zV b e D A X) mX0_statement (dn + 1) pc (j k)) : rx_OK (zV b e D A X) mX0_statement (dn + 1) 330 (vX0_statement_330 g j) := by
  unfold vX0_statement_330
  refine s_iconst dX0_statement_330 (by decide +kernel) ?_
  exact (wX0_statement_331 hZ hg hd j hj)
noncomputable def vX0_statement_326 (g : Nat → List Nat → rx_H → Option (Nat × rx_H)) (j : Nat → rx_K) : rx_K := o_const 8 ((vX0_statement_331 g j))
set_option maxRecDepth 20000 in
theorem wX0_statement_326 {dn : Nat} {g : Nat → List Nat → rx_H → Option (Nat × rx_H)} (hZ : zO b e D A X) (hg : ∀ i y M, vl2[i]? = some (y, M) → rx_Met (zV b e D A X) dn y M (g i)) (hd : 204 ≤ dn) (j : Nat → rx_K) (hj : ∀ k pc, [69][k]? = some pc → rx_OK (zV b e D A X) mX0_statement (dn + 1) pc (j k)) : rx_OK (zV b e D A X) mX0_statement (dn + 1) 326 (vX0_statement_326 g j) := by
  unfold vX0_statement_326
  refine s_iconst dX0_statement_326 (by decide +kernel) ?_
  exact s_goto dX0_statement_327 (by decide) (wX0_statement_331 hZ hg hd j hj)
noncomputable def vX0_statement_312 (g : Nat → List Nat → rx_H → Option (Nat × rx_H)) (j : Nat → rx_K) : rx_K := o_ld rx_isR 0 (o_ld rx_isR 1 (o_getf 8 5 (o_const 147573952589676412921 (o_callV 2 0 FX0_wanted (o_c1 rx_eq (vX0_statement_330 g j) (vX0_statement_326 g j))))))
set_option maxRecDepth 20000 in
theorem wX0_statement_312 {dn : Nat} {g : Nat → List Nat → rx_H → Option (Nat × rx_H)} (hZ : zO b e D A X) (hg : ∀ i y M, vl2[i]? = some (y, M) → rx_Met (zV b e D A X) dn y M (g i)) (hd : 204 ≤ dn) (j : Nat → rx_K) (hj : ∀ k pc, [69][k]? = some pc → rx_OK (zV b e D A X) mX0_statement (dn + 1) pc (j k)) : rx_OK (zV b e D A X) mX0_statement (dn + 1) 312 (vX0_statement_312 g j) := by
  unfold vX0_statement_312
  refine s_aload_n hZ.1 dX0_statement_312 rfl ?_
  refine s_aload_n hZ.1 dX0_statement_313 rfl ?_
  refine yg8_5 dX0_statement_314 zw475 ?_
  refine s_ldc2 dX0_statement_317 zw2053 (by decide +kernel) ?_
  refine s_callV hZ.1 (Met_X0_wanted hZ) (Nat.succ_le_succ (Nat.le_trans (Nat.le_of_ble_eq_true rfl) hd)) vy_X0_wanted zcl0 zw2168 zw82 (Or.inl zw2166) dX0_statement_320 ?_
  exact s_if_eq dX0_statement_323 (by decide) (wX0_statement_330 hZ hg hd j hj) (wX0_statement_326 hZ hg hd j hj)
noncomputable def vX0_statement_301 (g : Nat → List Nat → rx_H → Option (Nat × rx_H)) (j : Nat → rx_K) : rx_K := o_ld rx_isR 0 (o_ld rx_isR 1 (o_getf 8 5 (o_callV 1 0 (q1 200 3) (o_c1 rx_eq (vX0_statement_330 g j) (vX0_statement_312 g j)))))
set_option maxRecDepth 20000 in
theorem wX0_statement_301 {dn : Nat} {g : Nat → List Nat → rx_H → Option (Nat × rx_H)} (hZ : zO b e D A X) (hg : ∀ i y M, vl2[i]? = some (y, M) → rx_Met (zV b e D A X) dn y M (g i)) (hd : 204 ≤ dn) (j : Nat → rx_K) (hj : ∀ k pc, [69][k]? = some pc → rx_OK (zV b e D A X) mX0_statement (dn + 1) pc (j k)) : rx_OK (zV b e D A X) mX0_statement (dn + 1) 301 (vX0_statement_301 g j) := by
  unfold vX0_statement_301
  refine s_aload_n hZ.1 dX0_statement_301 rfl ?_
  refine s_aload_n hZ.1 dX0_statement_302 rfl ?_
  refine yg8_5 dX0_statement_303 zw475 ?_
  refine s_callV hZ.1 (q1_ok hZ 200 3 _ _ rfl) (Nat.succ_le_succ (Nat.le_trans (Nat.le_of_ble_eq_true rfl) hd)) vy_X0_expr zcl0 zw2090 zw64 (Or.inl zw2088) dX0_statement_306 ?_
  exact s_if_eq dX0_statement_309 (by decide) (wX0_statement_330 hZ hg hd j hj) (wX0_statement_312 hZ hg hd j hj)
noncomputable def vX0_statement_295 (g : Nat → List Nat → rx_H → Option (Nat × rx_H)) (j : Nat → rx_K) : rx_K := o_ld rx_isR 0 (o_ld rx_isR 1 (o_callV 1 0 (g 1) (o_ret1 rx_isZ)))
set_option maxRecDepth 20000 in
theorem wX0_statement_295 {dn : Nat} {g : Nat → List Nat → rx_H → Option (Nat × rx_H)} (hZ : zO b e D A X) (hg : ∀ i y M, vl2[i]? = some (y, M) → rx_Met (zV b e D A X) dn y M (g i)) (hd : 204 ≤ dn) (j : Nat → rx_K) (hj : ∀ k pc, [69][k]? = some pc → rx_OK (zV b e D A X) mX0_statement (dn + 1) pc (j k)) : rx_OK (zV b e D A X) mX0_statement (dn + 1) 295 (vX0_statement_295 g j) := by
  unfold vX0_statement_295
  refine s_aload_n hZ.1 dX0_statement_295 rfl ?_
  refine s_aload_n hZ.1 dX0_statement_296 rfl ?_
  refine s_callV hZ.1 (hg 1 _ _ rfl) (Nat.le_refl _) vy_X0_tried zcl0 zw2199 zw88 (Or.inl zw2197) dX0_statement_297 ?_
  exact s_zret rx_z_ok rfl dX0_statement_300
noncomputable def vX0_statement_294 (g : Nat → List Nat → rx_H → Option (Nat × rx_H)) (j : Nat → rx_K) : rx_K := o_ret1 rx_isZ
set_option maxRecDepth 20000 in
theorem wX0_statement_294 {dn : Nat} {g : Nat → List Nat → rx_H → Option (Nat × rx_H)} (hZ : zO b e D A X) (hg : ∀ i y M, vl2[i]? = some (y, M) → rx_Met (zV b e D A X) dn y M (g i)) (hd : 204 ≤ dn) (j : Nat → rx_K) (hj : ∀ k pc, [69][k]? = some pc → rx_OK (zV b e D A X) mX0_statement (dn + 1) pc (j k)) : rx_OK (zV b e D A X) mX0_statement (dn + 1) 294 (vX0_statement_294 g j) := by
  unfold vX0_statement_294
  exact s_zret rx_z_ok rfl dX0_statement_294
noncomputable def vX0_statement_293 (g : Nat → List Nat → rx_H → Option (Nat × rx_H)) (j : Nat → rx_K) : rx_K := o_const 0 ((vX0_statement_294 g j))
set_option maxRecDepth 20000 in
theorem wX0_statement_293 {dn : Nat} {g : Nat → List Nat → rx_H → Option (Nat × rx_H)} (hZ : zO b e D A X) (hg : ∀ i y M, vl2[i]? = some (y, M) → rx_Met (zV b e D A X) dn y M (g i)) (hd : 204 ≤ dn) (j : Nat → rx_K) (hj : ∀ k pc, [69][k]? = some pc → rx_OK (zV b e D A X) mX0_statement (dn + 1) pc (j k)) : rx_OK (zV b e D A X) mX0_statement (dn + 1) 293 (vX0_statement_293 g j) := by
  unfold vX0_statement_293
  refine s_iconst dX0_statement_293 (by decide +kernel) ?_
  exact (wX0_statement_294 hZ hg hd j hj)
noncomputable def vX0_statement_289 (g : Nat → List Nat → rx_H → Option (Nat × rx_H)) (j : Nat → rx_K) : rx_K := o_const 8 ((vX0_statement_294 g j))
set_option maxRecDepth 20000 in
theorem wX0_statement_289 {dn : Nat} {g : Nat → List Nat → rx_H → Option (Nat × rx_H)} (hZ : zO b e D A X) (hg : ∀ i y M, vl2[i]? = some (y, M) → rx_Met (zV b e D A X) dn y M (g i)) (hd : 204 ≤ dn) (j : Nat → rx_K) (hj : ∀ k pc, [69][k]? = some pc → rx_OK (zV b e D A X) mX0_statement (dn + 1) pc (j k)) : rx_OK (zV b e D A X) mX0_statement (dn + 1) 289 (vX0_statement_289 g j) := by
  unfold vX0_statement_289
  refine s_iconst dX0_statement_289 (by decide +kernel) ?_
  exact s_goto dX0_statement_290 (by decide) (wX0_statement_294 hZ hg hd j hj)
noncomputable def vX0_statement_275 (g : Nat → List Nat → rx_H → Option (Nat × rx_H)) (j : Nat → rx_K) : rx_K := o_ld rx_isR 0 (o_ld rx_isR 1 (o_getf 8 5 (o_const 116472515775520833537 (o_callV 2 0 FX0_wanted (o_c1 rx_eq (vX0_statement_293 g j) (vX0_statement_289 g j))))))
set_option maxRecDepth 20000 in
theorem wX0_statement_275 {dn : Nat} {g : Nat → List Nat → rx_H → Option (Nat × rx_H)} (hZ : zO b e D A X) (hg : ∀ i y M, vl2[i]? = some (y, M) → rx_Met (zV b e D A X) dn y M (g i)) (hd : 204 ≤ dn) (j : Nat → rx_K) (hj : ∀ k pc, [69][k]? = some pc → rx_OK (zV b e D A X) mX0_statement (dn + 1) pc (j k)) : rx_OK (zV b e D A X) mX0_statement (dn + 1) 275 (vX0_statement_275 g j) := by
  unfold vX0_statement_275
  refine s_aload_n hZ.1 dX0_statement_275 rfl ?_
  refine s_aload_n hZ.1 dX0_statement_276 rfl ?_
  refine yg8_5 dX0_statement_277 zw475 ?_
  refine s_ldc2 dX0_statement_280 zw2196 (by decide +kernel) ?_
  refine s_callV hZ.1 (Met_X0_wanted hZ) (Nat.succ_le_succ (Nat.le_trans (Nat.le_of_ble_eq_true rfl) hd)) vy_X0_wanted zcl0 zw2168 zw82 (Or.inl zw2166) dX0_statement_283 ?_
  exact s_if_eq dX0_statement_286 (by decide) (wX0_statement_293 hZ hg hd j hj) (wX0_statement_289 hZ hg hd j hj)
noncomputable def vX0_statement_264 (g : Nat → List Nat → rx_H → Option (Nat × rx_H)) (j : Nat → rx_K) : rx_K := o_ld rx_isR 0 (o_ld rx_isR 1 (o_getf 8 5 (o_callV 1 0 (q1 200 3) (o_c1 rx_eq (vX0_statement_293 g j) (vX0_statement_275 g j)))))
set_option maxRecDepth 20000 in
theorem wX0_statement_264 {dn : Nat} {g : Nat → List Nat → rx_H → Option (Nat × rx_H)} (hZ : zO b e D A X) (hg : ∀ i y M, vl2[i]? = some (y, M) → rx_Met (zV b e D A X) dn y M (g i)) (hd : 204 ≤ dn) (j : Nat → rx_K) (hj : ∀ k pc, [69][k]? = some pc → rx_OK (zV b e D A X) mX0_statement (dn + 1) pc (j k)) : rx_OK (zV b e D A X) mX0_statement (dn + 1) 264 (vX0_statement_264 g j) := by
  unfold vX0_statement_264
  refine s_aload_n hZ.1 dX0_statement_264 rfl ?_
  refine s_aload_n hZ.1 dX0_statement_265 rfl ?_
  refine yg8_5 dX0_statement_266 zw475 ?_
  refine s_callV hZ.1 (q1_ok hZ 200 3 _ _ rfl) (Nat.succ_le_succ (Nat.le_trans (Nat.le_of_ble_eq_true rfl) hd)) vy_X0_expr zcl0 zw2090 zw64 (Or.inl zw2088) dX0_statement_269 ?_
  exact s_if_eq dX0_statement_272 (by decide) (wX0_statement_293 hZ hg hd j hj) (wX0_statement_275 hZ hg hd j hj)
noncomputable def vX0_statement_263 (g : Nat → List Nat → rx_H → Option (Nat × rx_H)) (j : Nat → rx_K) : rx_K := o_ret1 rx_isZ
set_option maxRecDepth 20000 in
theorem wX0_statement_263 {dn : Nat} {g : Nat → List Nat → rx_H → Option (Nat × rx_H)} (hZ : zO b e D A X) (hg : ∀ i y M, vl2[i]? = some (y, M) → rx_Met (zV b e D A X) dn y M (g i)) (hd : 204 ≤ dn) (j : Nat → rx_K) (hj : ∀ k pc, [69][k]? = some pc → rx_OK (zV b e D A X) mX0_statement (dn + 1) pc (j k)) : rx_OK (zV b e D A X) mX0_statement (dn + 1) 263 (vX0_statement_263 g j) := by
  unfold vX0_statement_263
  exact s_zret rx_z_ok rfl dX0_statement_263
noncomputable def vX0_statement_262 (g : Nat → List Nat → rx_H → Option (Nat × rx_H)) (j : Nat → rx_K) : rx_K := o_const 0 ((vX0_statement_263 g j))
set_option maxRecDepth 20000 in
theorem wX0_statement_262 {dn : Nat} {g : Nat → List Nat → rx_H → Option (Nat × rx_H)} (hZ : zO b e D A X) (hg : ∀ i y M, vl2[i]? = some (y, M) → rx_Met (zV b e D A X) dn y M (g i)) (hd : 204 ≤ dn) (j : Nat → rx_K) (hj : ∀ k pc, [69][k]? = some pc → rx_OK (zV b e D A X) mX0_statement (dn + 1) pc (j k)) : rx_OK (zV b e D A X) mX0_statement (dn + 1) 262 (vX0_statement_262 g j) := by
  unfold vX0_statement_262
  refine s_iconst dX0_statement_262 (by decide +kernel) ?_
  exact (wX0_statement_263 hZ hg hd j hj)
noncomputable def vX0_statement_258 (g : Nat → List Nat → rx_H → Option (Nat × rx_H)) (j : Nat → rx_K) : rx_K := o_const 8 ((vX0_statement_263 g j))
set_option maxRecDepth 20000 in
theorem wX0_statement_258 {dn : Nat} {g : Nat → List Nat → rx_H → Option (Nat × rx_H)} (hZ : zO b e D A X) (hg : ∀ i y M, vl2[i]? = some (y, M) → rx_Met (zV b e D A X) dn y M (g i)) (hd : 204 ≤ dn) (j : Nat → rx_K) (hj : ∀ k pc, [69][k]? = some pc → rx_OK (zV b e D A X) mX0_statement (dn + 1) pc (j k)) : rx_OK (zV b e D A X) mX0_statement (dn + 1) 258 (vX0_statement_258 g j) := by
  unfold vX0_statement_258
  refine s_iconst dX0_statement_258 (by decide +kernel) ?_
  exact s_goto dX0_statement_259 (by decide) (wX0_statement_263 hZ hg hd j hj)
noncomputable def vX0_statement_250 (g : Nat → List Nat → rx_H → Option (Nat × rx_H)) (j : Nat → rx_K) : rx_K := o_ld rx_isR 0 (o_ld rx_isR 1 (o_callV 1 0 FX0_returned (o_c1 rx_eq (vX0_statement_262 g j) (vX0_statement_258 g j))))
set_option maxRecDepth 20000 in
theorem wX0_statement_250 {dn : Nat} {g : Nat → List Nat → rx_H → Option (Nat × rx_H)} (hZ : zO b e D A X) (hg : ∀ i y M, vl2[i]? = some (y, M) → rx_Met (zV b e D A X) dn y M (g i)) (hd : 204 ≤ dn) (j : Nat → rx_K) (hj : ∀ k pc, [69][k]? = some pc → rx_OK (zV b e D A X) mX0_statement (dn + 1) pc (j k)) : rx_OK (zV b e D A X) mX0_statement (dn + 1) 250 (vX0_statement_250 g j) := by
  unfold vX0_statement_250
  refine s_aload_n hZ.1 dX0_statement_250 rfl ?_
  refine s_aload_n hZ.1 dX0_statement_251 rfl ?_
  refine s_callV hZ.1 (Met_X0_returned hZ) (Nat.succ_le_succ (Nat.le_trans (Nat.le_of_ble_eq_true rfl) hd)) vy_X0_returned zcl0 zw2194 zw87 (Or.inl zw2192) dX0_statement_252 ?_
  exact s_if_eq dX0_statement_255 (by decide) (wX0_statement_262 hZ hg hd j hj) (wX0_statement_258 hZ hg hd j hj)
noncomputable def vX0_statement_239 (g : Nat → List Nat → rx_H → Option (Nat × rx_H)) (j : Nat → rx_K) : rx_K := o_ld rx_isR 0 (o_ld rx_isR 1 (o_getf 8 5 (o_callV 1 0 (q1 200 3) (o_c1 rx_eq (vX0_statement_262 g j) (vX0_statement_250 g j)))))
set_option maxRecDepth 20000 in
theorem wX0_statement_239 {dn : Nat} {g : Nat → List Nat → rx_H → Option (Nat × rx_H)} (hZ : zO b e D A X) (hg : ∀ i y M, vl2[i]? = some (y, M) → rx_Met (zV b e D A X) dn y M (g i)) (hd : 204 ≤ dn) (j : Nat → rx_K) (hj : ∀ k pc, [69][k]? = some pc → rx_OK (zV b e D A X) mX0_statement (dn + 1) pc (j k)) : rx_OK (zV b e D A X) mX0_statement (dn + 1) 239 (vX0_statement_239 g j) := by
  unfold vX0_statement_239
  refine s_aload_n hZ.1 dX0_statement_239 rfl ?_
  refine s_aload_n hZ.1 dX0_statement_240 rfl ?_
  refine yg8_5 dX0_statement_241 zw475 ?_
  refine s_callV hZ.1 (q1_ok hZ 200 3 _ _ rfl) (Nat.succ_le_succ (Nat.le_trans (Nat.le_of_ble_eq_true rfl) hd)) vy_X0_expr zcl0 zw2090 zw64 (Or.inl zw2088) dX0_statement_244 ?_
  exact s_if_eq dX0_statement_247 (by decide) (wX0_statement_262 hZ hg hd j hj) (wX0_statement_250 hZ hg hd j hj)
noncomputable def vX0_statement_231 (g : Nat → List Nat → rx_H → Option (Nat × rx_H)) (j : Nat → rx_K) : rx_K := o_st rx_isI 3 (o_ld rx_isR 0 (o_ld rx_isI 2 (o_putf rx_isI 0 11 (o_ld rx_isI 3 (o_ret1 rx_isZ)))))
set_option maxRecDepth 20000 in
theorem wX0_statement_231 {dn : Nat} {g : Nat → List Nat → rx_H → Option (Nat × rx_H)} (hZ : zO b e D A X) (hg : ∀ i y M, vl2[i]? = some (y, M) → rx_Met (zV b e D A X) dn y M (g i)) (hd : 204 ≤ dn) (j : Nat → rx_K) (hj : ∀ k pc, [69][k]? = some pc → rx_OK (zV b e D A X) mX0_statement (dn + 1) pc (j k)) : rx_OK (zV b e D A X) mX0_statement (dn + 1) 231 (vX0_statement_231 g j) := by
  unfold vX0_statement_231
  refine s_istore_n hZ.1 dX0_statement_231 rfl (Nat.le_of_ble_eq_true rfl) ?_
  refine s_aload_n hZ.1 dX0_statement_232 rfl ?_
  refine s_iload_n hZ.1 dX0_statement_233 rfl ?_
  refine yp0_11 hZ.1 dX0_statement_234 zw674 ?_
  refine s_iload_n hZ.1 dX0_statement_237 rfl ?_
  exact s_zret rx_z_ok rfl dX0_statement_238
noncomputable def vX0_statement_230 (g : Nat → List Nat → rx_H → Option (Nat × rx_H)) (j : Nat → rx_K) : rx_K := o_const 0 ((vX0_statement_231 g j))
set_option maxRecDepth 20000 in
theorem wX0_statement_230 {dn : Nat} {g : Nat → List Nat → rx_H → Option (Nat × rx_H)} (hZ : zO b e D A X) (hg : ∀ i y M, vl2[i]? = some (y, M) → rx_Met (zV b e D A X) dn y M (g i)) (hd : 204 ≤ dn) (j : Nat → rx_K) (hj : ∀ k pc, [69][k]? = some pc → rx_OK (zV b e D A X) mX0_statement (dn + 1) pc (j k)) : rx_OK (zV b e D A X) mX0_statement (dn + 1) 230 (vX0_statement_230 g j) := by
  unfold vX0_statement_230
  refine s_iconst dX0_statement_230 (by decide +kernel) ?_
  exact (wX0_statement_231 hZ hg hd j hj)
noncomputable def vX0_statement_226 (g : Nat → List Nat → rx_H → Option (Nat × rx_H)) (j : Nat → rx_K) : rx_K := o_const 8 ((vX0_statement_231 g j))
set_option maxRecDepth 20000 in
theorem wX0_statement_226 {dn : Nat} {g : Nat → List Nat → rx_H → Option (Nat × rx_H)} (hZ : zO b e D A X) (hg : ∀ i y M, vl2[i]? = some (y, M) → rx_Met (zV b e D A X) dn y M (g i)) (hd : 204 ≤ dn) (j : Nat → rx_K) (hj : ∀ k pc, [69][k]? = some pc → rx_OK (zV b e D A X) mX0_statement (dn + 1) pc (j k)) : rx_OK (zV b e D A X) mX0_statement (dn + 1) 226 (vX0_statement_226 g j) := by
  unfold vX0_statement_226
  refine s_iconst dX0_statement_226 (by decide +kernel) ?_
  exact s_goto dX0_statement_227 (by decide) (wX0_statement_231 hZ hg hd j hj)
noncomputable def vX0_statement_215 (g : Nat → List Nat → rx_H → Option (Nat × rx_H)) (j : Nat → rx_K) : rx_K := o_ld rx_isR 0 (o_ld rx_isR 1 (o_getf 8 7 (o_callV 1 0 (g 0) (o_c1 rx_eq (vX0_statement_230 g j) (vX0_statement_226 g j)))))
set_option maxRecDepth 20000 in
theorem wX0_statement_215 {dn : Nat} {g : Nat → List Nat → rx_H → Option (Nat × rx_H)} (hZ : zO b e D A X) (hg : ∀ i y M, vl2[i]? = some (y, M) → rx_Met (zV b e D A X) dn y M (g i)) (hd : 204 ≤ dn) (j : Nat → rx_K) (hj : ∀ k pc, [69][k]? = some pc → rx_OK (zV b e D A X) mX0_statement (dn + 1) pc (j k)) : rx_OK (zV b e D A X) mX0_statement (dn + 1) 215 (vX0_statement_215 g j) := by
  unfold vX0_statement_215
  refine s_aload_n hZ.1 dX0_statement_215 rfl ?_
  refine s_aload_n hZ.1 dX0_statement_216 rfl ?_
  refine yg8_7 dX0_statement_217 zw484 ?_
  refine s_callV hZ.1 (hg 0 _ _ rfl) (Nat.le_refl _) vy_X0_statement zcl0 zw2186 zw85 (Or.inl zw2184) dX0_statement_220 ?_
  exact s_if_eq dX0_statement_223 (by decide) (wX0_statement_230 hZ hg hd j hj) (wX0_statement_226 hZ hg hd j hj)
noncomputable def vX0_statement_203 (g : Nat → List Nat → rx_H → Option (Nat × rx_H)) (j : Nat → rx_K) : rx_K := o_ld rx_isR 0 (o_ld rx_isI 2 (o_putf rx_isI 0 11 (o_ld rx_isR 1 (o_getf 8 7 (o_nul (vX0_statement_226 g j) (vX0_statement_215 g j))))))
set_option maxRecDepth 20000 in
theorem wX0_statement_203 {dn : Nat} {g : Nat → List Nat → rx_H → Option (Nat × rx_H)} (hZ : zO b e D A X) (hg : ∀ i y M, vl2[i]? = some (y, M) → rx_Met (zV b e D A X) dn y M (g i)) (hd : 204 ≤ dn) (j : Nat → rx_K) (hj : ∀ k pc, [69][k]? = some pc → rx_OK (zV b e D A X) mX0_statement (dn + 1) pc (j k)) : rx_OK (zV b e D A X) mX0_statement (dn + 1) 203 (vX0_statement_203 g j) := by
  unfold vX0_statement_203
  refine s_aload_n hZ.1 dX0_statement_203 rfl ?_
  refine s_iload_n hZ.1 dX0_statement_204 rfl ?_
  refine yp0_11 hZ.1 dX0_statement_205 zw674 ?_
  refine s_aload_n hZ.1 dX0_statement_208 rfl ?_
  refine yg8_7 dX0_statement_209 zw484 ?_
  exact s_ifnull dX0_statement_212 (by decide) (wX0_statement_226 hZ hg hd j hj) (wX0_statement_215 hZ hg hd j hj)
noncomputable def vX0_statement_201 (g : Nat → List Nat → rx_H → Option (Nat × rx_H)) (j : Nat → rx_K) : rx_K := o_const 0 (o_ret1 rx_isZ)
set_option maxRecDepth 20000 in
theorem wX0_statement_201 {dn : Nat} {g : Nat → List Nat → rx_H → Option (Nat × rx_H)} (hZ : zO b e D A X) (hg : ∀ i y M, vl2[i]? = some (y, M) → rx_Met (zV b e D A X) dn y M (g i)) (hd : 204 ≤ dn) (j : Nat → rx_K) (hj : ∀ k pc, [69][k]? = some pc → rx_OK (zV b e D A X) mX0_statement (dn + 1) pc (j k)) : rx_OK (zV b e D A X) mX0_statement (dn + 1) 201 (vX0_statement_201 g j) := by
  unfold vX0_statement_201
  refine s_iconst dX0_statement_201 (by decide +kernel) ?_
  exact s_zret rx_z_ok rfl dX0_statement_202
noncomputable def vX0_statement_190 (g : Nat → List Nat → rx_H → Option (Nat × rx_H)) (j : Nat → rx_K) : rx_K := o_ld rx_isR 0 (o_ld rx_isR 1 (o_getf 8 6 (o_callV 1 0 (g 0) (o_c1 rx_eq (vX0_statement_201 g j) (vX0_statement_203 g j)))))
set_option maxRecDepth 20000 in
theorem wX0_statement_190 {dn : Nat} {g : Nat → List Nat → rx_H → Option (Nat × rx_H)} (hZ : zO b e D A X) (hg : ∀ i y M, vl2[i]? = some (y, M) → rx_Met (zV b e D A X) dn y M (g i)) (hd : 204 ≤ dn) (j : Nat → rx_K) (hj : ∀ k pc, [69][k]? = some pc → rx_OK (zV b e D A X) mX0_statement (dn + 1) pc (j k)) : rx_OK (zV b e D A X) mX0_statement (dn + 1) 190 (vX0_statement_190 g j) := by
  unfold vX0_statement_190
  refine s_aload_n hZ.1 dX0_statement_190 rfl ?_
  refine s_aload_n hZ.1 dX0_statement_191 rfl ?_
  refine yg8_6 dX0_statement_192 zw479 ?_
  refine s_callV hZ.1 (hg 0 _ _ rfl) (Nat.le_refl _) vy_X0_statement zcl0 zw2186 zw85 (Or.inl zw2184) dX0_statement_195 ?_
  exact s_if_ne dX0_statement_198 (by decide) (wX0_statement_203 hZ hg hd j hj) (wX0_statement_201 hZ hg hd j hj)
noncomputable def vX0_statement_176 (g : Nat → List Nat → rx_H → Option (Nat × rx_H)) (j : Nat → rx_K) : rx_K := o_ld rx_isR 0 (o_ld rx_isR 1 (o_getf 8 5 (o_const 147573952589676412921 (o_callV 2 0 FX0_wanted (o_c1 rx_eq (vX0_statement_201 g j) (vX0_statement_190 g j))))))
set_option maxRecDepth 20000 in
theorem wX0_statement_176 {dn : Nat} {g : Nat → List Nat → rx_H → Option (Nat × rx_H)} (hZ : zO b e D A X) (hg : ∀ i y M, vl2[i]? = some (y, M) → rx_Met (zV b e D A X) dn y M (g i)) (hd : 204 ≤ dn) (j : Nat → rx_K) (hj : ∀ k pc, [69][k]? = some pc → rx_OK (zV b e D A X) mX0_statement (dn + 1) pc (j k)) : rx_OK (zV b e D A X) mX0_statement (dn + 1) 176 (vX0_statement_176 g j) := by
  unfold vX0_statement_176
  refine s_aload_n hZ.1 dX0_statement_176 rfl ?_
  refine s_aload_n hZ.1 dX0_statement_177 rfl ?_
  refine yg8_5 dX0_statement_178 zw475 ?_
  refine s_ldc2 dX0_statement_181 zw2053 (by decide +kernel) ?_
  refine s_callV hZ.1 (Met_X0_wanted hZ) (Nat.succ_le_succ (Nat.le_trans (Nat.le_of_ble_eq_true rfl) hd)) vy_X0_wanted zcl0 zw2168 zw82 (Or.inl zw2166) dX0_statement_184 ?_
  exact s_if_eq dX0_statement_187 (by decide) (wX0_statement_201 hZ hg hd j hj) (wX0_statement_190 hZ hg hd j hj)
noncomputable def vX0_statement_165 (g : Nat → List Nat → rx_H → Option (Nat × rx_H)) (j : Nat → rx_K) : rx_K := o_ld rx_isR 0 (o_ld rx_isR 1 (o_getf 8 5 (o_callV 1 0 (q1 200 3) (o_c1 rx_eq (vX0_statement_201 g j) (vX0_statement_176 g j)))))
set_option maxRecDepth 20000 in
theorem wX0_statement_165 {dn : Nat} {g : Nat → List Nat → rx_H → Option (Nat × rx_H)} (hZ : zO b e D A X) (hg : ∀ i y M, vl2[i]? = some (y, M) → rx_Met (zV b e D A X) dn y M (g i)) (hd : 204 ≤ dn) (j : Nat → rx_K) (hj : ∀ k pc, [69][k]? = some pc → rx_OK (zV b e D A X) mX0_statement (dn + 1) pc (j k)) : rx_OK (zV b e D A X) mX0_statement (dn + 1) 165 (vX0_statement_165 g j) := by
  unfold vX0_statement_165
  refine s_aload_n hZ.1 dX0_statement_165 rfl ?_
  refine s_aload_n hZ.1 dX0_statement_166 rfl ?_
  refine yg8_5 dX0_statement_167 zw475 ?_
  refine s_callV hZ.1 (q1_ok hZ 200 3 _ _ rfl) (Nat.succ_le_succ (Nat.le_trans (Nat.le_of_ble_eq_true rfl) hd)) vy_X0_expr zcl0 zw2090 zw64 (Or.inl zw2088) dX0_statement_170 ?_
  exact s_if_eq dX0_statement_173 (by decide) (wX0_statement_201 hZ hg hd j hj) (wX0_statement_176 hZ hg hd j hj)
noncomputable def vX0_statement_164 (g : Nat → List Nat → rx_H → Option (Nat × rx_H)) (j : Nat → rx_K) : rx_K := o_ret1 rx_isZ
set_option maxRecDepth 20000 in
theorem wX0_statement_164 {dn : Nat} {g : Nat → List Nat → rx_H → Option (Nat × rx_H)} (hZ : zO b e D A X) (hg : ∀ i y M, vl2[i]? = some (y, M) → rx_Met (zV b e D A X) dn y M (g i)) (hd : 204 ≤ dn) (j : Nat → rx_K) (hj : ∀ k pc, [69][k]? = some pc → rx_OK (zV b e D A X) mX0_statement (dn + 1) pc (j k)) : rx_OK (zV b e D A X) mX0_statement (dn + 1) 164 (vX0_statement_164 g j) := by
  unfold vX0_statement_164
  exact s_zret rx_z_ok rfl dX0_statement_164
noncomputable def vX0_statement_163 (g : Nat → List Nat → rx_H → Option (Nat × rx_H)) (j : Nat → rx_K) : rx_K := o_const 0 ((vX0_statement_164 g j))
set_option maxRecDepth 20000 in
theorem wX0_statement_163 {dn : Nat} {g : Nat → List Nat → rx_H → Option (Nat × rx_H)} (hZ : zO b e D A X) (hg : ∀ i y M, vl2[i]? = some (y, M) → rx_Met (zV b e D A X) dn y M (g i)) (hd : 204 ≤ dn) (j : Nat → rx_K) (hj : ∀ k pc, [69][k]? = some pc → rx_OK (zV b e D A X) mX0_statement (dn + 1) pc (j k)) : rx_OK (zV b e D A X) mX0_statement (dn + 1) 163 (vX0_statement_163 g j) := by
  unfold vX0_statement_163
  refine s_iconst dX0_statement_163 (by decide +kernel) ?_
  exact (wX0_statement_164 hZ hg hd j hj)
noncomputable def vX0_statement_159 (g : Nat → List Nat → rx_H → Option (Nat × rx_H)) (j : Nat → rx_K) : rx_K := o_const 8 ((vX0_statement_164 g j))
set_option maxRecDepth 20000 in
theorem wX0_statement_159 {dn : Nat} {g : Nat → List Nat → rx_H → Option (Nat × rx_H)} (hZ : zO b e D A X) (hg : ∀ i y M, vl2[i]? = some (y, M) → rx_Met (zV b e D A X) dn y M (g i)) (hd : 204 ≤ dn) (j : Nat → rx_K) (hj : ∀ k pc, [69][k]? = some pc → rx_OK (zV b e D A X) mX0_statement (dn + 1) pc (j k)) : rx_OK (zV b e D A X) mX0_statement (dn + 1) 159 (vX0_statement_159 g j) := by
  unfold vX0_statement_159
  refine s_iconst dX0_statement_159 (by decide +kernel) ?_
  exact s_goto dX0_statement_160 (by decide) (wX0_statement_164 hZ hg hd j hj)
noncomputable def vX0_statement_151 (g : Nat → List Nat → rx_H → Option (Nat × rx_H)) (j : Nat → rx_K) : rx_K := o_ld rx_isR 0 (o_ld rx_isR 1 (o_callV 1 0 FX0_let (o_c1 rx_eq (vX0_statement_163 g j) (vX0_statement_159 g j))))
set_option maxRecDepth 20000 in
theorem wX0_statement_151 {dn : Nat} {g : Nat → List Nat → rx_H → Option (Nat × rx_H)} (hZ : zO b e D A X) (hg : ∀ i y M, vl2[i]? = some (y, M) → rx_Met (zV b e D A X) dn y M (g i)) (hd : 204 ≤ dn) (j : Nat → rx_K) (hj : ∀ k pc, [69][k]? = some pc → rx_OK (zV b e D A X) mX0_statement (dn + 1) pc (j k)) : rx_OK (zV b e D A X) mX0_statement (dn + 1) 151 (vX0_statement_151 g j) := by
  unfold vX0_statement_151
  refine s_aload_n hZ.1 dX0_statement_151 rfl ?_
  refine s_aload_n hZ.1 dX0_statement_152 rfl ?_
  refine s_callV hZ.1 (Met_X0_let hZ) (Nat.succ_le_succ (Nat.le_trans (Nat.le_of_ble_eq_true rfl) hd)) vy_X0_let zcl0 zw2190 zw86 (Or.inl zw2188) dX0_statement_153 ?_
  exact s_if_eq dX0_statement_156 (by decide) (wX0_statement_163 hZ hg hd j hj) (wX0_statement_159 hZ hg hd j hj)
noncomputable def vX0_statement_140 (g : Nat → List Nat → rx_H → Option (Nat × rx_H)) (j : Nat → rx_K) : rx_K := o_ld rx_isR 0 (o_ld rx_isR 1 (o_getf 8 5 (o_callV 1 0 (q1 200 3) (o_c1 rx_eq (vX0_statement_163 g j) (vX0_statement_151 g j)))))
set_option maxRecDepth 20000 in
theorem wX0_statement_140 {dn : Nat} {g : Nat → List Nat → rx_H → Option (Nat × rx_H)} (hZ : zO b e D A X) (hg : ∀ i y M, vl2[i]? = some (y, M) → rx_Met (zV b e D A X) dn y M (g i)) (hd : 204 ≤ dn) (j : Nat → rx_K) (hj : ∀ k pc, [69][k]? = some pc → rx_OK (zV b e D A X) mX0_statement (dn + 1) pc (j k)) : rx_OK (zV b e D A X) mX0_statement (dn + 1) 140 (vX0_statement_140 g j) := by
  unfold vX0_statement_140
  refine s_aload_n hZ.1 dX0_statement_140 rfl ?_
  refine s_aload_n hZ.1 dX0_statement_141 rfl ?_
  refine yg8_5 dX0_statement_142 zw475 ?_
  refine s_callV hZ.1 (q1_ok hZ 200 3 _ _ rfl) (Nat.succ_le_succ (Nat.le_trans (Nat.le_of_ble_eq_true rfl) hd)) vy_X0_expr zcl0 zw2090 zw64 (Or.inl zw2088) dX0_statement_145 ?_
  exact s_if_eq dX0_statement_148 (by decide) (wX0_statement_163 hZ hg hd j hj) (wX0_statement_151 hZ hg hd j hj)
noncomputable def vX0_statement_123 (g : Nat → List Nat → rx_H → Option (Nat × rx_H)) (j : Nat → rx_K) : rx_K := o_ld rx_isR 0 (o_ld rx_isR 1 (o_getf 8 9 (o_ld rx_isR 1 (o_getf 8 1 (o_const 8 (o_bi (fun x y => x + y) (o_callV 2 0 FX0_named (o_c1 rx_lt (vX0_statement_163 g j) (vX0_statement_140 g j)))))))))
set_option maxRecDepth 20000 in
theorem wX0_statement_123 {dn : Nat} {g : Nat → List Nat → rx_H → Option (Nat × rx_H)} (hZ : zO b e D A X) (hg : ∀ i y M, vl2[i]? = some (y, M) → rx_Met (zV b e D A X) dn y M (g i)) (hd : 204 ≤ dn) (j : Nat → rx_K) (hj : ∀ k pc, [69][k]? = some pc → rx_OK (zV b e D A X) mX0_statement (dn + 1) pc (j k)) : rx_OK (zV b e D A X) mX0_statement (dn + 1) 123 (vX0_statement_123 g j) := by
  unfold vX0_statement_123
  refine s_aload_n hZ.1 dX0_statement_123 rfl ?_
  refine s_aload_n hZ.1 dX0_statement_124 rfl ?_
  refine yg8_9 dX0_statement_125 zw492 ?_
  refine s_aload_n hZ.1 dX0_statement_128 rfl ?_
  refine yg8_1 dX0_statement_129 zw462 ?_
  refine s_iconst dX0_statement_132 (by decide +kernel) ?_
  refine s_iadd dX0_statement_133 ?_
  refine s_callV hZ.1 (Met_X0_named hZ) (Nat.succ_le_succ (Nat.le_trans (Nat.le_of_ble_eq_true rfl) hd)) vy_X0_named zcl0 zw2138 zw75 (Or.inl zw2136) dX0_statement_134 ?_
  exact s_if_lt dX0_statement_137 (by decide) (wX0_statement_163 hZ hg hd j hj) (wX0_statement_140 hZ hg hd j hj)
noncomputable def vX0_statement_112 (g : Nat → List Nat → rx_H → Option (Nat × rx_H)) (j : Nat → rx_K) : rx_K := o_ld rx_isR 1 (o_getf 8 9 (o_const 147573952589676412921 (o_bc (fun x y => lg_cmp x y) (o_c1 rx_eq (vX0_statement_140 g j) (vX0_statement_123 g j)))))
set_option maxRecDepth 20000 in
theorem wX0_statement_112 {dn : Nat} {g : Nat → List Nat → rx_H → Option (Nat × rx_H)} (hZ : zO b e D A X) (hg : ∀ i y M, vl2[i]? = some (y, M) → rx_Met (zV b e D A X) dn y M (g i)) (hd : 204 ≤ dn) (j : Nat → rx_K) (hj : ∀ k pc, [69][k]? = some pc → rx_OK (zV b e D A X) mX0_statement (dn + 1) pc (j k)) : rx_OK (zV b e D A X) mX0_statement (dn + 1) 112 (vX0_statement_112 g j) := by
  unfold vX0_statement_112
  refine s_aload_n hZ.1 dX0_statement_112 rfl ?_
  refine yg8_9 dX0_statement_113 zw492 ?_
  refine s_ldc2 dX0_statement_116 zw2053 (by decide +kernel) ?_
  refine s_lcmp dX0_statement_119 ?_
  exact s_if_eq dX0_statement_120 (by decide) (wX0_statement_140 hZ hg hd j hj) (wX0_statement_123 hZ hg hd j hj)
noncomputable def vX0_statement_111 (g : Nat → List Nat → rx_H → Option (Nat × rx_H)) (j : Nat → rx_K) : rx_K := o_ret1 rx_isZ
set_option maxRecDepth 20000 in
theorem wX0_statement_111 {dn : Nat} {g : Nat → List Nat → rx_H → Option (Nat × rx_H)} (hZ : zO b e D A X) (hg : ∀ i y M, vl2[i]? = some (y, M) → rx_Met (zV b e D A X) dn y M (g i)) (hd : 204 ≤ dn) (j : Nat → rx_K) (hj : ∀ k pc, [69][k]? = some pc → rx_OK (zV b e D A X) mX0_statement (dn + 1) pc (j k)) : rx_OK (zV b e D A X) mX0_statement (dn + 1) 111 (vX0_statement_111 g j) := by
  unfold vX0_statement_111
  exact s_zret rx_z_ok rfl dX0_statement_111
noncomputable def vX0_statement_110 (g : Nat → List Nat → rx_H → Option (Nat × rx_H)) (j : Nat → rx_K) : rx_K := o_const 0 ((vX0_statement_111 g j))
set_option maxRecDepth 20000 in
theorem wX0_statement_110 {dn : Nat} {g : Nat → List Nat → rx_H → Option (Nat × rx_H)} (hZ : zO b e D A X) (hg : ∀ i y M, vl2[i]? = some (y, M) → rx_Met (zV b e D A X) dn y M (g i)) (hd : 204 ≤ dn) (j : Nat → rx_K) (hj : ∀ k pc, [69][k]? = some pc → rx_OK (zV b e D A X) mX0_statement (dn + 1) pc (j k)) : rx_OK (zV b e D A X) mX0_statement (dn + 1) 110 (vX0_statement_110 g j) := by
  unfold vX0_statement_110
  refine s_iconst dX0_statement_110 (by decide +kernel) ?_
  exact (wX0_statement_111 hZ hg hd j hj)
noncomputable def vX0_statement_106 (g : Nat → List Nat → rx_H → Option (Nat × rx_H)) (j : Nat → rx_K) : rx_K := o_const 8 ((vX0_statement_111 g j))
set_option maxRecDepth 20000 in
theorem wX0_statement_106 {dn : Nat} {g : Nat → List Nat → rx_H → Option (Nat × rx_H)} (hZ : zO b e D A X) (hg : ∀ i y M, vl2[i]? = some (y, M) → rx_Met (zV b e D A X) dn y M (g i)) (hd : 204 ≤ dn) (j : Nat → rx_K) (hj : ∀ k pc, [69][k]? = some pc → rx_OK (zV b e D A X) mX0_statement (dn + 1) pc (j k)) : rx_OK (zV b e D A X) mX0_statement (dn + 1) 106 (vX0_statement_106 g j) := by
  unfold vX0_statement_106
  refine s_iconst dX0_statement_106 (by decide +kernel) ?_
  exact s_goto dX0_statement_107 (by decide) (wX0_statement_111 hZ hg hd j hj)
noncomputable def vX0_statement_94 (g : Nat → List Nat → rx_H → Option (Nat × rx_H)) (j : Nat → rx_K) : rx_K := o_ld rx_isR 0 (o_ld rx_isI 2 (o_putf rx_isI 0 11 (o_ld rx_isR 0 (o_getf 0 3 (o_c1 rx_eq (vX0_statement_106 g j) (vX0_statement_110 g j))))))
set_option maxRecDepth 20000 in
theorem wX0_statement_94 {dn : Nat} {g : Nat → List Nat → rx_H → Option (Nat × rx_H)} (hZ : zO b e D A X) (hg : ∀ i y M, vl2[i]? = some (y, M) → rx_Met (zV b e D A X) dn y M (g i)) (hd : 204 ≤ dn) (j : Nat → rx_K) (hj : ∀ k pc, [69][k]? = some pc → rx_OK (zV b e D A X) mX0_statement (dn + 1) pc (j k)) : rx_OK (zV b e D A X) mX0_statement (dn + 1) 94 (vX0_statement_94 g j) := by
  unfold vX0_statement_94
  refine s_aload_n hZ.1 dX0_statement_94 rfl ?_
  refine s_iload_n hZ.1 dX0_statement_95 rfl ?_
  refine yp0_11 hZ.1 dX0_statement_96 zw674 ?_
  refine s_aload_n hZ.1 dX0_statement_99 rfl ?_
  refine yg0_3 dX0_statement_100 zw664 ?_
  exact s_if_ne dX0_statement_103 (by decide) (wX0_statement_110 hZ hg hd j hj) (wX0_statement_106 hZ hg hd j hj)
noncomputable def vX0_statement_80 (g : Nat → List Nat → rx_H → Option (Nat × rx_H)) (j : Nat → rx_K) : rx_K := o_ld rx_isR 0 (o_ld rx_isR 3 (o_callV 1 0 (g 0) (o_pop (o_ld rx_isR 3 (o_getf 8 8 (o_st rx_isR 3 ((j 0))))))))
set_option maxRecDepth 20000 in
theorem wX0_statement_80 {dn : Nat} {g : Nat → List Nat → rx_H → Option (Nat × rx_H)} (hZ : zO b e D A X) (hg : ∀ i y M, vl2[i]? = some (y, M) → rx_Met (zV b e D A X) dn y M (g i)) (hd : 204 ≤ dn) (j : Nat → rx_K) (hj : ∀ k pc, [69][k]? = some pc → rx_OK (zV b e D A X) mX0_statement (dn + 1) pc (j k)) : rx_OK (zV b e D A X) mX0_statement (dn + 1) 80 (vX0_statement_80 g j) := by
  unfold vX0_statement_80
  refine s_aload_n hZ.1 dX0_statement_80 rfl ?_
  refine s_aload_n hZ.1 dX0_statement_81 rfl ?_
  refine s_callV hZ.1 (hg 0 _ _ rfl) (Nat.le_refl _) vy_X0_statement zcl0 zw2186 zw85 (Or.inl zw2184) dX0_statement_82 ?_
  refine s_pop hZ.1 dX0_statement_85 ?_
  refine s_aload_n hZ.1 dX0_statement_86 rfl ?_
  refine yg8_8 dX0_statement_87 zw487 ?_
  refine s_astore_n hZ.1 dX0_statement_90 rfl (Nat.le_of_ble_eq_true rfl) ?_
  exact s_goto dX0_statement_91 (by decide) (hj 0 69 rfl)
noncomputable def vX0_statement_73 (g : Nat → List Nat → rx_H → Option (Nat × rx_H)) (j : Nat → rx_K) : rx_K := o_ld rx_isR 0 (o_getf 0 3 (o_c1 rx_eq (vX0_statement_80 g j) (vX0_statement_94 g j)))
set_option maxRecDepth 20000 in
theorem wX0_statement_73 {dn : Nat} {g : Nat → List Nat → rx_H → Option (Nat × rx_H)} (hZ : zO b e D A X) (hg : ∀ i y M, vl2[i]? = some (y, M) → rx_Met (zV b e D A X) dn y M (g i)) (hd : 204 ≤ dn) (j : Nat → rx_K) (hj : ∀ k pc, [69][k]? = some pc → rx_OK (zV b e D A X) mX0_statement (dn + 1) pc (j k)) : rx_OK (zV b e D A X) mX0_statement (dn + 1) 73 (vX0_statement_73 g j) := by
  unfold vX0_statement_73
  refine s_aload_n hZ.1 dX0_statement_73 rfl ?_
  refine yg0_3 dX0_statement_74 zw664 ?_
  exact s_if_ne dX0_statement_77 (by decide) (wX0_statement_94 hZ hg hd j hj) (wX0_statement_80 hZ hg hd j hj)
noncomputable def vX0_statement_69 (g : Nat → List Nat → rx_H → Option (Nat × rx_H)) (j : Nat → rx_K) : rx_K := o_ld rx_isR 3 (o_nul (vX0_statement_94 g j) (vX0_statement_73 g j))
set_option maxRecDepth 20000 in
theorem wX0_statement_69 {dn : Nat} {g : Nat → List Nat → rx_H → Option (Nat × rx_H)} (hZ : zO b e D A X) (hg : ∀ i y M, vl2[i]? = some (y, M) → rx_Met (zV b e D A X) dn y M (g i)) (hd : 204 ≤ dn) (j : Nat → rx_K) (hj : ∀ k pc, [69][k]? = some pc → rx_OK (zV b e D A X) mX0_statement (dn + 1) pc (j k)) : rx_OK (zV b e D A X) mX0_statement (dn + 1) 69 (vX0_statement_69 g j) := by
  unfold vX0_statement_69
  refine s_aload_n hZ.1 dX0_statement_69 rfl ?_
  exact s_ifnull dX0_statement_70 (by decide) (wX0_statement_94 hZ hg hd j hj) (wX0_statement_73 hZ hg hd j hj)
noncomputable def vX0_statement_64 (g : Nat → List Nat → rx_H → Option (Nat × rx_H)) (j : Nat → rx_K) : rx_K := o_ld rx_isR 1 (o_getf 8 5 (o_st rx_isR 3 ((vX0_statement_69 g j))))
set_option maxRecDepth 20000 in
theorem wX0_statement_64 {dn : Nat} {g : Nat → List Nat → rx_H → Option (Nat × rx_H)} (hZ : zO b e D A X) (hg : ∀ i y M, vl2[i]? = some (y, M) → rx_Met (zV b e D A X) dn y M (g i)) (hd : 204 ≤ dn) (j : Nat → rx_K) (hj : ∀ k pc, [69][k]? = some pc → rx_OK (zV b e D A X) mX0_statement (dn + 1) pc (j k)) : rx_OK (zV b e D A X) mX0_statement (dn + 1) 64 (vX0_statement_64 g j) := by
  unfold vX0_statement_64
  refine s_aload_n hZ.1 dX0_statement_64 rfl ?_
  refine yg8_5 dX0_statement_65 zw475 ?_
  refine s_astore_n hZ.1 dX0_statement_68 rfl (Nat.le_of_ble_eq_true rfl) ?_
  exact (wX0_statement_69 hZ hg hd j hj)
noncomputable def vX0_statement_0 (g : Nat → List Nat → rx_H → Option (Nat × rx_H)) (j : Nat → rx_K) : rx_K := o_ld rx_isR 0 (o_getf 0 11 (o_st rx_isI 2 (o_ld rx_isR 1 (o_getf 8 0 (o_sw 30 [64, 112, 165, 165, 239, 264, 295, 301, 332, 357] 393 (rx_pk [(64, (vX0_statement_64 g j)), (112, (vX0_statement_112 g j)), (165, (vX0_statement_165 g j)), (239, (vX0_statement_239 g j)), (264, (vX0_statement_264 g j)), (295, (vX0_statement_295 g j)), (301, (vX0_statement_301 g j)), (332, (vX0_statement_332 g j)), (357, (vX0_statement_357 g j)), (393, (vX0_statement_393 g j))]))))))
set_option maxRecDepth 20000 in
theorem wX0_statement_0 {dn : Nat} {g : Nat → List Nat → rx_H → Option (Nat × rx_H)} (hZ : zO b e D A X) (hg : ∀ i y M, vl2[i]? = some (y, M) → rx_Met (zV b e D A X) dn y M (g i)) (hd : 204 ≤ dn) (j : Nat → rx_K) (hj : ∀ k pc, [69][k]? = some pc → rx_OK (zV b e D A X) mX0_statement (dn + 1) pc (j k)) : rx_OK (zV b e D A X) mX0_statement (dn + 1) 0 (vX0_statement_0 g j) := by
  unfold vX0_statement_0
  refine s_aload_n hZ.1 dX0_statement_0 rfl ?_
  refine yg0_11 dX0_statement_1 zw674 ?_
  refine s_istore_n hZ.1 dX0_statement_4 rfl (Nat.le_of_ble_eq_true rfl) ?_
  refine s_aload_n hZ.1 dX0_statement_5 rfl ?_
  refine yg8_0 dX0_statement_6 zw458 ?_
  exact s_sw dX0_statement_9 (by decide) (by decide) (by decide) (by decide) (by decide) (fun b _ => (rx_pk_ok (List.forall_mem_cons.mpr ⟨(wX0_statement_64 hZ hg hd j hj), List.forall_mem_cons.mpr ⟨(wX0_statement_112 hZ hg hd j hj), List.forall_mem_cons.mpr ⟨(wX0_statement_165 hZ hg hd j hj), List.forall_mem_cons.mpr ⟨(wX0_statement_239 hZ hg hd j hj), List.forall_mem_cons.mpr ⟨(wX0_statement_264 hZ hg hd j hj), List.forall_mem_cons.mpr ⟨(wX0_statement_295 hZ hg hd j hj), List.forall_mem_cons.mpr ⟨(wX0_statement_301 hZ hg hd j hj), List.forall_mem_cons.mpr ⟨(wX0_statement_332 hZ hg hd j hj), List.forall_mem_cons.mpr ⟨(wX0_statement_357 hZ hg hd j hj), List.forall_mem_cons.mpr ⟨(wX0_statement_393 hZ hg hd j hj), fun _ h => absurd h List.not_mem_nil⟩⟩⟩⟩⟩⟩⟩⟩⟩⟩)) b)
noncomputable def vhX0_statement (g : Nat → List Nat → rx_H → Option (Nat × rx_H)) (j : Nat → rx_K) : List rx_K := [vX0_statement_69 g j]
theorem vlX0_statement {dn : Nat} {g : Nat → List Nat → rx_H → Option (Nat × rx_H)} (hZ : zO b e D A X) (hg : ∀ i y M, vl2[i]? = some (y, M) → rx_Met (zV b e D A X) dn y M (g i)) (hd : 204 ≤ dn) : ∀ n k pc, [69][k]? = some pc → rx_OK (zV b e D A X) mX0_statement (dn + 1) pc (rx_J (vhX0_statement g) n k) := rx_loop fun j hj k pc h => by
  match k, h with
  | 0, h =>
    have e9 := Option.some.inj (show some 69 = some pc from h)
    subst e9
    exact wX0_statement_69 hZ hg hd j hj
  | _ + 1, h => exact absurd h (by simp)
noncomputable def FX0_statement (g : Nat → List Nat → rx_H → Option (Nat × rx_H)) : List Nat → rx_H → Option (Nat × rx_H) := rx_ent 4 (vX0_statement_0 g (rx_J (vhX0_statement g) 4000000000))
theorem Met_X0_statement {dn : Nat} {g : Nat → List Nat → rx_H → Option (Nat × rx_H)} (hZ : zO b e D A X) (hg : ∀ i y M, vl2[i]? = some (y, M) → rx_Met (zV b e D A X) dn y M (g i)) (hd : 204 ≤ dn) : rx_Met (zV b e D A X) (dn + 1) yX0_statement mX0_statement (FX0_statement g) := rx_entry hZ.1 (wX0_statement_0 hZ hg hd _ (vlX0_statement hZ hg hd 4000000000)) (by decide +kernel) rfl (fun h => by cases h)
noncomputable def vX0_tried_120 (g : Nat → List Nat → rx_H → Option (Nat × rx_H)) : rx_K := o_st rx_isI 4 (o_ld rx_isR 0 (o_ld rx_isI 3 (o_putf rx_isI 0 11 (o_ld rx_isI 4 (o_ret1 rx_isZ)))))
set_option maxRecDepth 20000 in
theorem wX0_tried_120 {dn : Nat} {g : Nat → List Nat → rx_H → Option (Nat × rx_H)} (hZ : zO b e D A X) (hg : ∀ i y M, vl2[i]? = some (y, M) → rx_Met (zV b e D A X) dn y M (g i)) (hd : 204 ≤ dn) : rx_OK (zV b e D A X) mX0_tried (dn + 1) 120 (vX0_tried_120 g) := by
  unfold vX0_tried_120
  refine s_istore hZ.1 dX0_tried_120 (Nat.le_of_ble_eq_true rfl) ?_
  refine s_aload_n hZ.1 dX0_tried_122 rfl ?_
  refine s_iload_n hZ.1 dX0_tried_123 rfl ?_
  refine yp0_11 hZ.1 dX0_tried_124 zw674 ?_
  refine s_iload hZ.1 dX0_tried_127 ?_
  exact s_zret rx_z_ok rfl dX0_tried_129
noncomputable def vX0_tried_119 (g : Nat → List Nat → rx_H → Option (Nat × rx_H)) : rx_K := o_const 0 ((vX0_tried_120 g))
set_option maxRecDepth 20000 in
theorem wX0_tried_119 {dn : Nat} {g : Nat → List Nat → rx_H → Option (Nat × rx_H)} (hZ : zO b e D A X) (hg : ∀ i y M, vl2[i]? = some (y, M) → rx_Met (zV b e D A X) dn y M (g i)) (hd : 204 ≤ dn) : rx_OK (zV b e D A X) mX0_tried (dn + 1) 119 (vX0_tried_119 g) := by
  unfold vX0_tried_119
  refine s_iconst dX0_tried_119 (by decide +kernel) ?_
  exact (wX0_tried_120 hZ hg hd)
noncomputable def vX0_tried_115 (g : Nat → List Nat → rx_H → Option (Nat × rx_H)) : rx_K := o_const 8 ((vX0_tried_120 g))
set_option maxRecDepth 20000 in
theorem wX0_tried_115 {dn : Nat} {g : Nat → List Nat → rx_H → Option (Nat × rx_H)} (hZ : zO b e D A X) (hg : ∀ i y M, vl2[i]? = some (y, M) → rx_Met (zV b e D A X) dn y M (g i)) (hd : 204 ≤ dn) : rx_OK (zV b e D A X) mX0_tried (dn + 1) 115 (vX0_tried_115 g) := by
  unfold vX0_tried_115
  refine s_iconst dX0_tried_115 (by decide +kernel) ?_
  exact s_goto dX0_tried_116 (by decide) (wX0_tried_120 hZ hg hd)
noncomputable def vX0_tried_104 (g : Nat → List Nat → rx_H → Option (Nat × rx_H)) : rx_K := o_ld rx_isR 0 (o_ld rx_isR 1 (o_getf 8 6 (o_callV 1 0 (g 0) (o_c1 rx_eq (vX0_tried_119 g) (vX0_tried_115 g)))))
set_option maxRecDepth 20000 in
theorem wX0_tried_104 {dn : Nat} {g : Nat → List Nat → rx_H → Option (Nat × rx_H)} (hZ : zO b e D A X) (hg : ∀ i y M, vl2[i]? = some (y, M) → rx_Met (zV b e D A X) dn y M (g i)) (hd : 204 ≤ dn) : rx_OK (zV b e D A X) mX0_tried (dn + 1) 104 (vX0_tried_104 g) := by
  unfold vX0_tried_104
  refine s_aload_n hZ.1 dX0_tried_104 rfl ?_
  refine s_aload_n hZ.1 dX0_tried_105 rfl ?_
  refine yg8_6 dX0_tried_106 zw479 ?_
  refine s_callV hZ.1 (hg 0 _ _ rfl) (Nat.le_refl _) vy_X0_statement zcl0 zw2186 zw85 (Or.inl zw2184) dX0_tried_109 ?_
  exact s_if_eq dX0_tried_112 (by decide) (wX0_tried_119 hZ hg hd) (wX0_tried_115 hZ hg hd)
noncomputable def vX0_tried_60 (g : Nat → List Nat → rx_H → Option (Nat × rx_H)) : rx_K := o_ld rx_isR 0 (o_getf 0 11 (o_st rx_isI 3 (o_ld rx_isR 1 (o_ld rx_isR 0 (o_ld rx_isR 1 (o_getf 8 10 (o_ld rx_isR 0 (o_getf 0 2 (o_getf 9 4 (o_ld rx_isR 1 (o_getf 8 2 (o_const 8 (o_bi (fun x y => x + y) (o_ald 1 (o_ld rx_isR 1 (o_getf 8 2 (o_const 8 (o_bi (fun x y => x + y) (o_callV 3 0 FX0_local (o_putf rx_isI 8 4 (o_ld rx_isR 0 (o_getf 0 3 (o_c1 rx_eq (vX0_tried_104 g) (vX0_tried_119 g))))))))))))))))))))))))
set_option maxRecDepth 20000 in
theorem wX0_tried_60 {dn : Nat} {g : Nat → List Nat → rx_H → Option (Nat × rx_H)} (hZ : zO b e D A X) (hg : ∀ i y M, vl2[i]? = some (y, M) → rx_Met (zV b e D A X) dn y M (g i)) (hd : 204 ≤ dn) : rx_OK (zV b e D A X) mX0_tried (dn + 1) 60 (vX0_tried_60 g) := by
  unfold vX0_tried_60
  refine s_aload_n hZ.1 dX0_tried_60 rfl ?_
  refine yg0_11 dX0_tried_61 zw674 ?_
  refine s_istore_n hZ.1 dX0_tried_64 rfl (Nat.le_of_ble_eq_true rfl) ?_
  refine s_aload_n hZ.1 dX0_tried_65 rfl ?_
  refine s_aload_n hZ.1 dX0_tried_66 rfl ?_
  refine s_aload_n hZ.1 dX0_tried_67 rfl ?_
  refine yg8_10 dX0_tried_68 zw495 ?_
  refine s_aload_n hZ.1 dX0_tried_71 rfl ?_
  refine yg0_2 dX0_tried_72 zw663 ?_
  refine yg9_4 dX0_tried_75 zw587 ?_
  refine s_aload_n hZ.1 dX0_tried_78 rfl ?_
  refine yg8_2 dX0_tried_79 zw465 ?_
  refine s_iconst dX0_tried_82 (by decide +kernel) ?_
  refine s_iadd dX0_tried_83 ?_
  refine s_lald (tt := 1) rfl dX0_tried_84 ?_
  refine s_aload_n hZ.1 dX0_tried_85 rfl ?_
  refine yg8_2 dX0_tried_86 zw465 ?_
  refine s_iconst dX0_tried_89 (by decide +kernel) ?_
  refine s_iadd dX0_tried_90 ?_
  refine s_callV hZ.1 (Met_X0_local hZ) (Nat.succ_le_succ (Nat.le_trans (Nat.le_of_ble_eq_true rfl) hd)) vy_X0_local zcl0 zw2176 zw84 (Or.inl zw2174) dX0_tried_91 ?_
  refine yp8_4 hZ.1 dX0_tried_94 zw473 ?_
  refine s_aload_n hZ.1 dX0_tried_97 rfl ?_
  refine yg0_3 dX0_tried_98 zw664 ?_
  exact s_if_ne dX0_tried_101 (by decide) (wX0_tried_119 hZ hg hd) (wX0_tried_104 hZ hg hd)
noncomputable def vX0_tried_49 (g : Nat → List Nat → rx_H → Option (Nat × rx_H)) : rx_K := o_ld rx_isR 0 (o_const 104 (o_ld rx_isR 1 (o_getf 8 2 (o_callV 2 0 FX0_fail (o_ret1 rx_isZ)))))
set_option maxRecDepth 20000 in
theorem wX0_tried_49 {dn : Nat} {g : Nat → List Nat → rx_H → Option (Nat × rx_H)} (hZ : zO b e D A X) (hg : ∀ i y M, vl2[i]? = some (y, M) → rx_Met (zV b e D A X) dn y M (g i)) (hd : 204 ≤ dn) : rx_OK (zV b e D A X) mX0_tried (dn + 1) 49 (vX0_tried_49 g) := by
  unfold vX0_tried_49
  refine s_aload_n hZ.1 dX0_tried_49 rfl ?_
  refine s_bipush dX0_tried_50 (by decide +kernel) ?_
  refine s_aload_n hZ.1 dX0_tried_52 rfl ?_
  refine yg8_2 dX0_tried_53 zw465 ?_
  refine s_callV hZ.1 (Met_X0_fail hZ) (Nat.succ_le_succ (Nat.le_trans (Nat.le_of_ble_eq_true rfl) hd)) vy_X0_fail zcl0 zw2095 zw65 (Or.inl zw2093) dX0_tried_56 ?_
  exact s_zret rx_z_ok rfl dX0_tried_59
noncomputable def vX0_tried_32 (g : Nat → List Nat → rx_H → Option (Nat × rx_H)) : rx_K := o_ld rx_isR 0 (o_getf 0 0 (o_ld rx_isR 1 (o_getf 8 10 (o_const 116472515775520833537 (o_callV 2 11 FX11_fits (o_c1 rx_eq (vX0_tried_49 g) (vX0_tried_60 g)))))))
set_option maxRecDepth 20000 in
theorem wX0_tried_32 {dn : Nat} {g : Nat → List Nat → rx_H → Option (Nat × rx_H)} (hZ : zO b e D A X) (hg : ∀ i y M, vl2[i]? = some (y, M) → rx_Met (zV b e D A X) dn y M (g i)) (hd : 204 ≤ dn) : rx_OK (zV b e D A X) mX0_tried (dn + 1) 32 (vX0_tried_32 g) := by
  unfold vX0_tried_32
  refine s_aload_n hZ.1 dX0_tried_32 rfl ?_
  refine yg0_0 dX0_tried_33 zw661 ?_
  refine s_aload_n hZ.1 dX0_tried_36 rfl ?_
  refine yg8_10 dX0_tried_37 zw495 ?_
  refine s_ldc2 dX0_tried_40 zw2196 (by decide +kernel) ?_
  refine s_callV hZ.1 (Met_X11_fits hZ) (Nat.succ_le_succ (Nat.le_trans (Nat.le_of_ble_eq_true rfl) hd)) vy_X11_fits zcl11 zw1978 zw1979 (Or.inl zw2130) dX0_tried_43 ?_
  exact s_if_ne dX0_tried_46 (by decide) (wX0_tried_60 hZ hg hd) (wX0_tried_49 hZ hg hd)
noncomputable def vX0_tried_30 (g : Nat → List Nat → rx_H → Option (Nat × rx_H)) : rx_K := o_const 0 (o_ret1 rx_isZ)
set_option maxRecDepth 20000 in
theorem wX0_tried_30 {dn : Nat} {g : Nat → List Nat → rx_H → Option (Nat × rx_H)} (hZ : zO b e D A X) (hg : ∀ i y M, vl2[i]? = some (y, M) → rx_Met (zV b e D A X) dn y M (g i)) (hd : 204 ≤ dn) : rx_OK (zV b e D A X) mX0_tried (dn + 1) 30 (vX0_tried_30 g) := by
  unfold vX0_tried_30
  refine s_iconst dX0_tried_30 (by decide +kernel) ?_
  exact s_zret rx_z_ok rfl dX0_tried_31
noncomputable def vX0_tried_13 (g : Nat → List Nat → rx_H → Option (Nat × rx_H)) : rx_K := o_ld rx_isR 0 (o_ld rx_isR 1 (o_getf 8 10 (o_ld rx_isR 1 (o_getf 8 2 (o_callV 2 0 FX0_named (o_st rx_isI 2 (o_ld rx_isI 2 (o_c1 rx_lt (vX0_tried_30 g) (vX0_tried_32 g)))))))))
set_option maxRecDepth 20000 in
theorem wX0_tried_13 {dn : Nat} {g : Nat → List Nat → rx_H → Option (Nat × rx_H)} (hZ : zO b e D A X) (hg : ∀ i y M, vl2[i]? = some (y, M) → rx_Met (zV b e D A X) dn y M (g i)) (hd : 204 ≤ dn) : rx_OK (zV b e D A X) mX0_tried (dn + 1) 13 (vX0_tried_13 g) := by
  unfold vX0_tried_13
  refine s_aload_n hZ.1 dX0_tried_13 rfl ?_
  refine s_aload_n hZ.1 dX0_tried_14 rfl ?_
  refine yg8_10 dX0_tried_15 zw495 ?_
  refine s_aload_n hZ.1 dX0_tried_18 rfl ?_
  refine yg8_2 dX0_tried_19 zw465 ?_
  refine s_callV hZ.1 (Met_X0_named hZ) (Nat.succ_le_succ (Nat.le_trans (Nat.le_of_ble_eq_true rfl) hd)) vy_X0_named zcl0 zw2138 zw75 (Or.inl zw2136) dX0_tried_22 ?_
  refine s_istore_n hZ.1 dX0_tried_25 rfl (Nat.le_of_ble_eq_true rfl) ?_
  refine s_iload_n hZ.1 dX0_tried_26 rfl ?_
  exact s_if_ge dX0_tried_27 (by decide) (wX0_tried_32 hZ hg hd) (wX0_tried_30 hZ hg hd)
noncomputable def vX0_tried_11 (g : Nat → List Nat → rx_H → Option (Nat × rx_H)) : rx_K := o_const 0 (o_ret1 rx_isZ)
set_option maxRecDepth 20000 in
theorem wX0_tried_11 {dn : Nat} {g : Nat → List Nat → rx_H → Option (Nat × rx_H)} (hZ : zO b e D A X) (hg : ∀ i y M, vl2[i]? = some (y, M) → rx_Met (zV b e D A X) dn y M (g i)) (hd : 204 ≤ dn) : rx_OK (zV b e D A X) mX0_tried (dn + 1) 11 (vX0_tried_11 g) := by
  unfold vX0_tried_11
  refine s_iconst dX0_tried_11 (by decide +kernel) ?_
  exact s_zret rx_z_ok rfl dX0_tried_12
noncomputable def vX0_tried_0 (g : Nat → List Nat → rx_H → Option (Nat × rx_H)) : rx_K := o_ld rx_isR 0 (o_ld rx_isR 1 (o_getf 8 5 (o_callV 1 0 (g 0) (o_c1 rx_eq (vX0_tried_11 g) (vX0_tried_13 g)))))
set_option maxRecDepth 20000 in
theorem wX0_tried_0 {dn : Nat} {g : Nat → List Nat → rx_H → Option (Nat × rx_H)} (hZ : zO b e D A X) (hg : ∀ i y M, vl2[i]? = some (y, M) → rx_Met (zV b e D A X) dn y M (g i)) (hd : 204 ≤ dn) : rx_OK (zV b e D A X) mX0_tried (dn + 1) 0 (vX0_tried_0 g) := by
  unfold vX0_tried_0
  refine s_aload_n hZ.1 dX0_tried_0 rfl ?_
  refine s_aload_n hZ.1 dX0_tried_1 rfl ?_
  refine yg8_5 dX0_tried_2 zw475 ?_
  refine s_callV hZ.1 (hg 0 _ _ rfl) (Nat.le_refl _) vy_X0_statement zcl0 zw2186 zw85 (Or.inl zw2184) dX0_tried_5 ?_
  exact s_if_ne dX0_tried_8 (by decide) (wX0_tried_13 hZ hg hd) (wX0_tried_11 hZ hg hd)
noncomputable def FX0_tried (g : Nat → List Nat → rx_H → Option (Nat × rx_H)) : List Nat → rx_H → Option (Nat × rx_H) := rx_ent 5 (vX0_tried_0 g)
theorem Met_X0_tried {dn : Nat} {g : Nat → List Nat → rx_H → Option (Nat × rx_H)} (hZ : zO b e D A X) (hg : ∀ i y M, vl2[i]? = some (y, M) → rx_Met (zV b e D A X) dn y M (g i)) (hd : 204 ≤ dn) : rx_Met (zV b e D A X) (dn + 1) yX0_tried mX0_tried (FX0_tried g) := rx_entry hZ.1 (wX0_tried_0 hZ hg hd) (by decide +kernel) rfl (fun h => by cases h)
noncomputable def q2 (n : Nat) : Nat → List Nat → rx_H → Option (Nat × rx_H) := Nat.rec (fun _ _ _ => none) (fun _ ih i => rx_nth [FX0_statement ih, FX0_tried ih] i (fun _ _ => none)) n
theorem q2_ok (hZ : zO b e D A X) : ∀ n i y M, vl2[i]? = some (y, M) → rx_Met (zV b e D A X) (204 + n) y M (q2 n i)
  | 0 => fun i y M _ As h r h2 hf => by cases hf
  | n + 1 => fun i y M h => by
    match i, h with
    | 0, h => cases h; exact Met_X0_statement hZ (q2_ok hZ n) (Nat.le_add_right 204 n)
    | 1, h => cases h; exact Met_X0_tried hZ (q2_ok hZ n) (Nat.le_add_right 204 n)
    | _ + 2, h => exact absurd h (by simp)
abbrev mX0_superFirst : rx_M := (RX0, cX0_superFirst, 1, (some .boolean), false)
theorem vy_X0_superFirst : rx_Y (zV b e D A X) yX0_superFirst mX0_superFirst 1 := ⟨zw2183, zw421, by decide, by decide +kernel, by decide +kernel, by decide +kernel⟩
noncomputable def vX0_superFirst_37 : rx_K := o_ret1 rx_isZ
set_option maxRecDepth 20000 in
theorem wX0_superFirst_37 (hZ : zO b e D A X) : rx_OK (zV b e D A X) mX0_superFirst 0 37 vX0_superFirst_37 := by
  unfold vX0_superFirst_37
  exact s_zret rx_z_ok rfl dX0_superFirst_37
noncomputable def vX0_superFirst_36 : rx_K := o_const 0 (vX0_superFirst_37)
set_option maxRecDepth 20000 in
theorem wX0_superFirst_36 (hZ : zO b e D A X) : rx_OK (zV b e D A X) mX0_superFirst 0 36 vX0_superFirst_36 := by
  unfold vX0_superFirst_36
  refine s_iconst dX0_superFirst_36 (by decide +kernel) ?_
  exact (wX0_superFirst_37 hZ)
noncomputable def vX0_superFirst_32 : rx_K := o_const 8 (vX0_superFirst_37)
set_option maxRecDepth 20000 in
theorem wX0_superFirst_32 (hZ : zO b e D A X) : rx_OK (zV b e D A X) mX0_superFirst 0 32 vX0_superFirst_32 := by
  unfold vX0_superFirst_32
  refine s_iconst dX0_superFirst_32 (by decide +kernel) ?_
  exact s_goto dX0_superFirst_33 (by decide) (wX0_superFirst_37 hZ)
noncomputable def vX0_superFirst_17 : rx_K := o_ld rx_isR 0 (o_getf 7 14 (o_getf 8 5 (o_getf 8 0 (o_const 304 (o_c2 rx_eq vX0_superFirst_32 vX0_superFirst_36)))))
set_option maxRecDepth 20000 in
theorem wX0_superFirst_17 (hZ : zO b e D A X) : rx_OK (zV b e D A X) mX0_superFirst 0 17 vX0_superFirst_17 := by
  unfold vX0_superFirst_17
  refine s_aload_n hZ.1 dX0_superFirst_17 rfl ?_
  refine yg7_14 dX0_superFirst_18 zw1047 ?_
  refine yg8_5 dX0_superFirst_21 zw475 ?_
  refine yg8_0 dX0_superFirst_24 zw458 ?_
  refine s_bipush dX0_superFirst_27 (by decide +kernel) ?_
  exact s_icmp_ne dX0_superFirst_29 (by decide) (wX0_superFirst_36 hZ) (wX0_superFirst_32 hZ)
noncomputable def vX0_superFirst_7 : rx_K := o_ld rx_isR 0 (o_getf 7 14 (o_getf 8 5 (o_nul vX0_superFirst_36 vX0_superFirst_17)))
set_option maxRecDepth 20000 in
theorem wX0_superFirst_7 (hZ : zO b e D A X) : rx_OK (zV b e D A X) mX0_superFirst 0 7 vX0_superFirst_7 := by
  unfold vX0_superFirst_7
  refine s_aload_n hZ.1 dX0_superFirst_7 rfl ?_
  refine yg7_14 dX0_superFirst_8 zw1047 ?_
  refine yg8_5 dX0_superFirst_11 zw475 ?_
  exact s_ifnull dX0_superFirst_14 (by decide) (wX0_superFirst_36 hZ) (wX0_superFirst_17 hZ)
noncomputable def vX0_superFirst_0 : rx_K := o_ld rx_isR 0 (o_getf 7 14 (o_nul vX0_superFirst_36 vX0_superFirst_7))
set_option maxRecDepth 20000 in
theorem wX0_superFirst_0 (hZ : zO b e D A X) : rx_OK (zV b e D A X) mX0_superFirst 0 0 vX0_superFirst_0 := by
  unfold vX0_superFirst_0
  refine s_aload_n hZ.1 dX0_superFirst_0 rfl ?_
  refine yg7_14 dX0_superFirst_1 zw1047 ?_
  exact s_ifnull dX0_superFirst_4 (by decide) (wX0_superFirst_36 hZ) (wX0_superFirst_7 hZ)
noncomputable def FX0_superFirst : List Nat → rx_H → Option (Nat × rx_H) := rx_ent 1 vX0_superFirst_0
theorem Met_X0_superFirst (hZ : zO b e D A X) : rx_Met (zV b e D A X) 0 yX0_superFirst mX0_superFirst (FX0_superFirst) := rx_entry hZ.1 (wX0_superFirst_0 hZ) (by decide +kernel) rfl (fun h => by cases h)
abbrev mX0_body : rx_M := (RX0, cX0_body, 4, none, false)
theorem vy_X0_body : rx_Y (zV b e D A X) yX0_body mX0_body 1 := ⟨zw2087, zw421, by decide, by decide +kernel, by decide +kernel, by decide +kernel⟩
noncomputable def vX0_body_278 (j : Nat → rx_K) : rx_K := o_bi (fun x y => x + y) (o_putf rx_isI 7 18 (o_ret0))
set_option maxRecDepth 20000 in
theorem wX0_body_278 (hZ : zO b e D A X) (j : Nat → rx_K) (hj : ∀ k pc, [80][k]? = some pc → rx_OK (zV b e D A X) mX0_body 405 pc (j k)) : rx_OK (zV b e D A X) mX0_body 405 278 (vX0_body_278 j) := by
  unfold vX0_body_278
  refine s_iadd dX0_body_278 ?_
  refine yp7_18 hZ.1 dX0_body_279 zw1071 ?_
  exact s_vret rfl dX0_body_282
noncomputable def vX0_body_277 (j : Nat → rx_K) : rx_K := o_const 8 ((vX0_body_278 j))
set_option maxRecDepth 20000 in
theorem wX0_body_277 (hZ : zO b e D A X) (j : Nat → rx_K) (hj : ∀ k pc, [80][k]? = some pc → rx_OK (zV b e D A X) mX0_body 405 pc (j k)) : rx_OK (zV b e D A X) mX0_body 405 277 (vX0_body_277 j) := by
  unfold vX0_body_277
  refine s_iconst dX0_body_277 (by decide +kernel) ?_
  exact (wX0_body_278 hZ j hj)
noncomputable def vX0_body_273 (j : Nat → rx_K) : rx_K := o_const 0 ((vX0_body_278 j))
set_option maxRecDepth 20000 in
theorem wX0_body_273 (hZ : zO b e D A X) (j : Nat → rx_K) (hj : ∀ k pc, [80][k]? = some pc → rx_OK (zV b e D A X) mX0_body 405 pc (j k)) : rx_OK (zV b e D A X) mX0_body 405 273 (vX0_body_273 j) := by
  unfold vX0_body_273
  refine s_iconst dX0_body_273 (by decide +kernel) ?_
  exact s_goto dX0_body_274 (by decide) (wX0_body_278 hZ j hj)
noncomputable def vX0_body_261 (j : Nat → rx_K) : rx_K := o_ld rx_isR 1 (o_ld rx_isR 0 (o_getf 0 12 (o_ld rx_isR 0 (o_getf 0 8 (o_c1 rx_eq (vX0_body_277 j) (vX0_body_273 j))))))
set_option maxRecDepth 20000 in
theorem wX0_body_261 (hZ : zO b e D A X) (j : Nat → rx_K) (hj : ∀ k pc, [80][k]? = some pc → rx_OK (zV b e D A X) mX0_body 405 pc (j k)) : rx_OK (zV b e D A X) mX0_body 405 261 (vX0_body_261 j) := by
  unfold vX0_body_261
  refine s_aload_n hZ.1 dX0_body_261 rfl ?_
  refine s_aload_n hZ.1 dX0_body_262 rfl ?_
  refine yg0_12 dX0_body_263 zw675 ?_
  refine s_aload_n hZ.1 dX0_body_266 rfl ?_
  refine yg0_8 dX0_body_267 zw671 ?_
  exact s_if_eq dX0_body_270 (by decide) (wX0_body_277 hZ j hj) (wX0_body_273 hZ j hj)
noncomputable def vX0_body_250 (j : Nat → rx_K) : rx_K := o_ld rx_isR 0 (o_const 136 (o_ld rx_isR 1 (o_getf 7 11 (o_callV 2 0 FX0_fail (o_pop ((vX0_body_261 j)))))))
set_option maxRecDepth 20000 in
theorem wX0_body_250 (hZ : zO b e D A X) (j : Nat → rx_K) (hj : ∀ k pc, [80][k]? = some pc → rx_OK (zV b e D A X) mX0_body 405 pc (j k)) : rx_OK (zV b e D A X) mX0_body 405 250 (vX0_body_250 j) := by
  unfold vX0_body_250
  refine s_aload_n hZ.1 dX0_body_250 rfl ?_
  refine s_bipush dX0_body_251 (by decide +kernel) ?_
  refine s_aload_n hZ.1 dX0_body_253 rfl ?_
  refine yg7_11 dX0_body_254 zw1038 ?_
  refine s_callV hZ.1 (Met_X0_fail hZ) (Nat.le_of_ble_eq_true rfl) vy_X0_fail zcl0 zw2095 zw65 (Or.inl zw2093) dX0_body_257 ?_
  refine s_pop hZ.1 dX0_body_260 ?_
  exact (wX0_body_261 hZ j hj)
noncomputable def vX0_body_240 (j : Nat → rx_K) : rx_K := o_ld rx_isR 1 (o_getf 7 14 (o_callS 1 (q0 200 0) (o_c1 rx_eq (vX0_body_261 j) (vX0_body_250 j))))
set_option maxRecDepth 20000 in
theorem wX0_body_240 (hZ : zO b e D A X) (j : Nat → rx_K) (hj : ∀ k pc, [80][k]? = some pc → rx_OK (zV b e D A X) mX0_body 405 pc (j k)) : rx_OK (zV b e D A X) mX0_body 405 240 (vX0_body_240 j) := by
  unfold vX0_body_240
  refine s_aload_n hZ.1 dX0_body_240 rfl ?_
  refine yg7_14 dX0_body_241 zw1047 ?_
  refine s_callS hZ.1 (q0_ok hZ 200 0 _ _ rfl) (Nat.le_of_ble_eq_true rfl) vy_X0_ends zw2217 (Or.inl zw2216) dX0_body_244 ?_
  exact s_if_eq dX0_body_247 (by decide) (wX0_body_261 hZ j hj) (wX0_body_250 hZ j hj)
noncomputable def vX0_body_229 (j : Nat → rx_K) : rx_K := o_ld rx_isR 1 (o_getf 7 8 (o_const 147573952589676412905 (o_bc (fun x y => lg_cmp x y) (o_c1 rx_eq (vX0_body_261 j) (vX0_body_240 j)))))
set_option maxRecDepth 20000 in
theorem wX0_body_229 (hZ : zO b e D A X) (j : Nat → rx_K) (hj : ∀ k pc, [80][k]? = some pc → rx_OK (zV b e D A X) mX0_body 405 pc (j k)) : rx_OK (zV b e D A X) mX0_body 405 229 (vX0_body_229 j) := by
  unfold vX0_body_229
  refine s_aload_n hZ.1 dX0_body_229 rfl ?_
  refine yg7_8 dX0_body_230 zw1013 ?_
  refine s_ldc2 dX0_body_233 zw2153 (by decide +kernel) ?_
  refine s_lcmp dX0_body_236 ?_
  exact s_if_eq dX0_body_237 (by decide) (wX0_body_261 hZ j hj) (wX0_body_240 hZ j hj)
noncomputable def vX0_body_221 (j : Nat → rx_K) : rx_K := o_ld rx_isR 1 (o_getf 7 0 (o_const 8 (o_c2 rx_eq (vX0_body_229 j) (vX0_body_261 j))))
set_option maxRecDepth 20000 in
theorem wX0_body_221 (hZ : zO b e D A X) (j : Nat → rx_K) (hj : ∀ k pc, [80][k]? = some pc → rx_OK (zV b e D A X) mX0_body 405 pc (j k)) : rx_OK (zV b e D A X) mX0_body 405 221 (vX0_body_221 j) := by
  unfold vX0_body_221
  refine s_aload_n hZ.1 dX0_body_221 rfl ?_
  refine yg7_0 dX0_body_222 zw945 ?_
  refine s_iconst dX0_body_225 (by decide +kernel) ?_
  exact s_icmp_ne dX0_body_226 (by decide) (wX0_body_261 hZ j hj) (wX0_body_229 hZ j hj)
noncomputable def vX0_body_210 (j : Nat → rx_K) : rx_K := o_ld rx_isR 0 (o_ld rx_isR 1 (o_getf 7 14 (o_callV 1 0 (q2 200 0) (o_c1 rx_eq (vX0_body_261 j) (vX0_body_221 j)))))
set_option maxRecDepth 20000 in
theorem wX0_body_210 (hZ : zO b e D A X) (j : Nat → rx_K) (hj : ∀ k pc, [80][k]? = some pc → rx_OK (zV b e D A X) mX0_body 405 pc (j k)) : rx_OK (zV b e D A X) mX0_body 405 210 (vX0_body_210 j) := by
  unfold vX0_body_210
  refine s_aload_n hZ.1 dX0_body_210 rfl ?_
  refine s_aload_n hZ.1 dX0_body_211 rfl ?_
  refine yg7_14 dX0_body_212 zw1047 ?_
  refine s_callV hZ.1 (q2_ok hZ 200 0 _ _ rfl) (Nat.le_of_ble_eq_true rfl) vy_X0_statement zcl0 zw2186 zw85 (Or.inl zw2184) dX0_body_215 ?_
  exact s_if_eq dX0_body_218 (by decide) (wX0_body_261 hZ j hj) (wX0_body_221 hZ j hj)
noncomputable def vX0_body_203 (j : Nat → rx_K) : rx_K := o_ld rx_isR 1 (o_getf 7 14 (o_nul (vX0_body_261 j) (vX0_body_210 j)))
set_option maxRecDepth 20000 in
theorem wX0_body_203 (hZ : zO b e D A X) (j : Nat → rx_K) (hj : ∀ k pc, [80][k]? = some pc → rx_OK (zV b e D A X) mX0_body 405 pc (j k)) : rx_OK (zV b e D A X) mX0_body 405 203 (vX0_body_203 j) := by
  unfold vX0_body_203
  refine s_aload_n hZ.1 dX0_body_203 rfl ?_
  refine yg7_14 dX0_body_204 zw1047 ?_
  exact s_ifnull dX0_body_207 (by decide) (wX0_body_261 hZ j hj) (wX0_body_210 hZ j hj)
noncomputable def vX0_body_196 (j : Nat → rx_K) : rx_K := o_ld rx_isR 0 (o_getf 0 3 (o_c1 rx_eq (vX0_body_203 j) (vX0_body_261 j)))
set_option maxRecDepth 20000 in
theorem wX0_body_196 (hZ : zO b e D A X) (j : Nat → rx_K) (hj : ∀ k pc, [80][k]? = some pc → rx_OK (zV b e D A X) mX0_body 405 pc (j k)) : rx_OK (zV b e D A X) mX0_body 405 196 (vX0_body_196 j) := by
  unfold vX0_body_196
  refine s_aload_n hZ.1 dX0_body_196 rfl ?_
  refine yg0_3 dX0_body_197 zw664 ?_
  exact s_if_ne dX0_body_200 (by decide) (wX0_body_261 hZ j hj) (wX0_body_203 hZ j hj)
noncomputable def vX0_body_185 (j : Nat → rx_K) : rx_K := o_ld rx_isR 0 (o_const 144 (o_ld rx_isR 1 (o_getf 7 11 (o_callV 2 0 FX0_fail (o_pop ((vX0_body_196 j)))))))
set_option maxRecDepth 20000 in
theorem wX0_body_185 (hZ : zO b e D A X) (j : Nat → rx_K) (hj : ∀ k pc, [80][k]? = some pc → rx_OK (zV b e D A X) mX0_body 405 pc (j k)) : rx_OK (zV b e D A X) mX0_body 405 185 (vX0_body_185 j) := by
  unfold vX0_body_185
  refine s_aload_n hZ.1 dX0_body_185 rfl ?_
  refine s_bipush dX0_body_186 (by decide +kernel) ?_
  refine s_aload_n hZ.1 dX0_body_188 rfl ?_
  refine yg7_11 dX0_body_189 zw1038 ?_
  refine s_callV hZ.1 (Met_X0_fail hZ) (Nat.le_of_ble_eq_true rfl) vy_X0_fail zcl0 zw2095 zw65 (Or.inl zw2093) dX0_body_192 ?_
  refine s_pop hZ.1 dX0_body_195 ?_
  exact (wX0_body_196 hZ j hj)
noncomputable def vX0_body_161 (j : Nat → rx_K) : rx_K := o_ld rx_isR 0 (o_ld rx_isR 0 (o_getf 0 0 (o_getf 11 3 (o_ld rx_isR 0 (o_getf 0 6 (o_ald 0 (o_const 147573952589676412897 (o_const 3 (o_const 8 (o_callV 4 0 FX0_meant (o_nul (vX0_body_185 j) (vX0_body_196 j))))))))))))
set_option maxRecDepth 20000 in
theorem wX0_body_161 (hZ : zO b e D A X) (j : Nat → rx_K) (hj : ∀ k pc, [80][k]? = some pc → rx_OK (zV b e D A X) mX0_body 405 pc (j k)) : rx_OK (zV b e D A X) mX0_body 405 161 (vX0_body_161 j) := by
  unfold vX0_body_161
  refine s_aload_n hZ.1 dX0_body_161 rfl ?_
  refine s_aload_n hZ.1 dX0_body_162 rfl ?_
  refine yg0_0 dX0_body_163 zw661 ?_
  refine yg11_3 dX0_body_166 zw1263 ?_
  refine s_aload_n hZ.1 dX0_body_169 rfl ?_
  refine yg0_6 dX0_body_170 zw669 ?_
  refine s_iald (tt := 0) rfl dX0_body_173 ?_
  refine s_ldc2 dX0_body_174 zw2062 (by decide +kernel) ?_
  refine s_null dX0_body_177 ?_
  refine s_iconst dX0_body_178 (by decide +kernel) ?_
  refine s_callV hZ.1 (Met_X0_meant hZ) (Nat.le_of_ble_eq_true rfl) vy_X0_meant zcl0 zw2119 zw71 (Or.inl zw2117) dX0_body_179 ?_
  exact s_ifnonnull dX0_body_182 (by decide) (wX0_body_196 hZ j hj) (wX0_body_185 hZ j hj)
noncomputable def vX0_body_154 (j : Nat → rx_K) : rx_K := o_ld rx_isR 1 (o_callS 1 FX0_superFirst (o_c1 rx_eq (vX0_body_161 j) (vX0_body_196 j)))
set_option maxRecDepth 20000 in
theorem wX0_body_154 (hZ : zO b e D A X) (j : Nat → rx_K) (hj : ∀ k pc, [80][k]? = some pc → rx_OK (zV b e D A X) mX0_body 405 pc (j k)) : rx_OK (zV b e D A X) mX0_body 405 154 (vX0_body_154 j) := by
  unfold vX0_body_154
  refine s_aload_n hZ.1 dX0_body_154 rfl ?_
  refine s_callS hZ.1 (Met_X0_superFirst hZ) (Nat.le_of_ble_eq_true rfl) vy_X0_superFirst zw2182 (Or.inl zw2181) dX0_body_155 ?_
  exact s_if_ne dX0_body_158 (by decide) (wX0_body_196 hZ j hj) (wX0_body_161 hZ j hj)
noncomputable def vX0_body_146 (j : Nat → rx_K) : rx_K := o_ld rx_isR 1 (o_getf 7 0 (o_const 16 (o_c2 rx_eq (vX0_body_154 j) (vX0_body_196 j))))
set_option maxRecDepth 20000 in
theorem wX0_body_146 (hZ : zO b e D A X) (j : Nat → rx_K) (hj : ∀ k pc, [80][k]? = some pc → rx_OK (zV b e D A X) mX0_body 405 pc (j k)) : rx_OK (zV b e D A X) mX0_body 405 146 (vX0_body_146 j) := by
  unfold vX0_body_146
  refine s_aload_n hZ.1 dX0_body_146 rfl ?_
  refine yg7_0 dX0_body_147 zw945 ?_
  refine s_iconst dX0_body_150 (by decide +kernel) ?_
  exact s_icmp_ne dX0_body_151 (by decide) (wX0_body_196 hZ j hj) (wX0_body_154 hZ j hj)
noncomputable def vX0_body_139 (j : Nat → rx_K) : rx_K := o_ld rx_isR 0 (o_getf 0 3 (o_c1 rx_eq (vX0_body_146 j) (vX0_body_196 j)))
set_option maxRecDepth 20000 in
theorem wX0_body_139 (hZ : zO b e D A X) (j : Nat → rx_K) (hj : ∀ k pc, [80][k]? = some pc → rx_OK (zV b e D A X) mX0_body 405 pc (j k)) : rx_OK (zV b e D A X) mX0_body 405 139 (vX0_body_139 j) := by
  unfold vX0_body_139
  refine s_aload_n hZ.1 dX0_body_139 rfl ?_
  refine yg0_3 dX0_body_140 zw664 ?_
  exact s_if_ne dX0_body_143 (by decide) (wX0_body_196 hZ j hj) (wX0_body_146 hZ j hj)
noncomputable def vX0_body_128 (j : Nat → rx_K) : rx_K := o_ld rx_isI 3 (o_callV 3 0 FX0_local (o_pop (o_inc 2 (1) ((j 0)))))
set_option maxRecDepth 20000 in
theorem wX0_body_128 (hZ : zO b e D A X) (j : Nat → rx_K) (hj : ∀ k pc, [80][k]? = some pc → rx_OK (zV b e D A X) mX0_body 405 pc (j k)) : rx_OK (zV b e D A X) mX0_body 405 128 (vX0_body_128 j) := by
  unfold vX0_body_128
  refine s_iload_n hZ.1 dX0_body_128 rfl ?_
  refine s_callV hZ.1 (Met_X0_local hZ) (Nat.le_of_ble_eq_true rfl) vy_X0_local zcl0 zw2176 zw84 (Or.inl zw2174) dX0_body_129 ?_
  refine s_pop hZ.1 dX0_body_132 ?_
  refine s_iinc hZ.1 dX0_body_133 (Nat.le_of_ble_eq_true rfl) ?_
  exact s_goto dX0_body_136 (by decide) (hj 0 80 rfl)
noncomputable def vX0_body_125 (j : Nat → rx_K) : rx_K := o_const 147573952589676412897 ((vX0_body_128 j))
set_option maxRecDepth 20000 in
theorem wX0_body_125 (hZ : zO b e D A X) (j : Nat → rx_K) (hj : ∀ k pc, [80][k]? = some pc → rx_OK (zV b e D A X) mX0_body 405 pc (j k)) : rx_OK (zV b e D A X) mX0_body 405 125 (vX0_body_125 j) := by
  unfold vX0_body_125
  refine s_ldc2 dX0_body_125 zw2062 (by decide +kernel) ?_
  exact (wX0_body_128 hZ j hj)
noncomputable def vX0_body_113 (j : Nat → rx_K) : rx_K := o_ld rx_isR 0 (o_getf 0 2 (o_getf 9 4 (o_ld rx_isI 3 (o_ald 1 ((vX0_body_128 j))))))
set_option maxRecDepth 20000 in
theorem wX0_body_113 (hZ : zO b e D A X) (j : Nat → rx_K) (hj : ∀ k pc, [80][k]? = some pc → rx_OK (zV b e D A X) mX0_body 405 pc (j k)) : rx_OK (zV b e D A X) mX0_body 405 113 (vX0_body_113 j) := by
  unfold vX0_body_113
  refine s_aload_n hZ.1 dX0_body_113 rfl ?_
  refine yg0_2 dX0_body_114 zw663 ?_
  refine yg9_4 dX0_body_117 zw587 ?_
  refine s_iload_n hZ.1 dX0_body_120 rfl ?_
  refine s_lald (tt := 1) rfl dX0_body_121 ?_
  exact s_goto dX0_body_122 (by decide) (wX0_body_128 hZ j hj)
noncomputable def vX0_body_88 (j : Nat → rx_K) : rx_K := o_ld rx_isR 1 (o_getf 7 11 (o_const 24 (o_bi (fun x y => x + y) (o_const 24 (o_ld rx_isI 2 (o_bi (fun x y => x * y) (o_bi (fun x y => x + y) (o_st rx_isI 3 (o_ld rx_isR 0 (o_ld rx_isR 1 (o_getf 7 10 (o_ld rx_isI 2 (o_ald 1 (o_ld rx_isI 3 (o_const 5600 (o_c2 rx_lt (vX0_body_113 j) (vX0_body_125 j)))))))))))))))))
set_option maxRecDepth 20000 in
theorem wX0_body_88 (hZ : zO b e D A X) (j : Nat → rx_K) (hj : ∀ k pc, [80][k]? = some pc → rx_OK (zV b e D A X) mX0_body 405 pc (j k)) : rx_OK (zV b e D A X) mX0_body 405 88 (vX0_body_88 j) := by
  unfold vX0_body_88
  refine s_aload_n hZ.1 dX0_body_88 rfl ?_
  refine yg7_11 dX0_body_89 zw1038 ?_
  refine s_iconst dX0_body_92 (by decide +kernel) ?_
  refine s_iadd dX0_body_93 ?_
  refine s_iconst dX0_body_94 (by decide +kernel) ?_
  refine s_iload_n hZ.1 dX0_body_95 rfl ?_
  refine s_imul dX0_body_96 ?_
  refine s_iadd dX0_body_97 ?_
  refine s_istore_n hZ.1 dX0_body_98 rfl (Nat.le_of_ble_eq_true rfl) ?_
  refine s_aload_n hZ.1 dX0_body_99 rfl ?_
  refine s_aload_n hZ.1 dX0_body_100 rfl ?_
  refine yg7_10 dX0_body_101 zw1031 ?_
  refine s_iload_n hZ.1 dX0_body_104 rfl ?_
  refine s_lald (tt := 1) rfl dX0_body_105 ?_
  refine s_iload_n hZ.1 dX0_body_106 rfl ?_
  refine s_sipush dX0_body_107 (by decide +kernel) ?_
  exact s_icmp_ge dX0_body_110 (by decide) (wX0_body_125 hZ j hj) (wX0_body_113 hZ j hj)
noncomputable def vX0_body_80 (j : Nat → rx_K) : rx_K := o_ld rx_isI 2 (o_ld rx_isR 1 (o_getf 7 9 (o_c2 rx_lt (vX0_body_88 j) (vX0_body_139 j))))
set_option maxRecDepth 20000 in
theorem wX0_body_80 (hZ : zO b e D A X) (j : Nat → rx_K) (hj : ∀ k pc, [80][k]? = some pc → rx_OK (zV b e D A X) mX0_body 405 pc (j k)) : rx_OK (zV b e D A X) mX0_body 405 80 (vX0_body_80 j) := by
  unfold vX0_body_80
  refine s_iload_n hZ.1 dX0_body_80 rfl ?_
  refine s_aload_n hZ.1 dX0_body_81 rfl ?_
  refine yg7_9 dX0_body_82 zw1024 ?_
  exact s_icmp_ge dX0_body_85 (by decide) (wX0_body_139 hZ j hj) (wX0_body_88 hZ j hj)
noncomputable def vX0_body_78 (j : Nat → rx_K) : rx_K := o_const 0 (o_st rx_isI 2 ((vX0_body_80 j)))
set_option maxRecDepth 20000 in
theorem wX0_body_78 (hZ : zO b e D A X) (j : Nat → rx_K) (hj : ∀ k pc, [80][k]? = some pc → rx_OK (zV b e D A X) mX0_body 405 pc (j k)) : rx_OK (zV b e D A X) mX0_body 405 78 (vX0_body_78 j) := by
  unfold vX0_body_78
  refine s_iconst dX0_body_78 (by decide +kernel) ?_
  refine s_istore_n hZ.1 dX0_body_79 rfl (Nat.le_of_ble_eq_true rfl) ?_
  exact (wX0_body_80 hZ j hj)
noncomputable def vX0_body_77 (j : Nat → rx_K) : rx_K := o_ret0
set_option maxRecDepth 20000 in
theorem wX0_body_77 (hZ : zO b e D A X) (j : Nat → rx_K) (hj : ∀ k pc, [80][k]? = some pc → rx_OK (zV b e D A X) mX0_body 405 pc (j k)) : rx_OK (zV b e D A X) mX0_body 405 77 (vX0_body_77 j) := by
  unfold vX0_body_77
  exact s_vret rfl dX0_body_77
noncomputable def vX0_body_64 (j : Nat → rx_K) : rx_K := o_ld rx_isR 0 (o_ld rx_isR 1 (o_getf 7 14 (o_ld rx_isR 1 (o_getf 7 8 (o_callV 2 0 FX0_wanted (o_pop ((vX0_body_77 j))))))))
set_option maxRecDepth 20000 in
theorem wX0_body_64 (hZ : zO b e D A X) (j : Nat → rx_K) (hj : ∀ k pc, [80][k]? = some pc → rx_OK (zV b e D A X) mX0_body 405 pc (j k)) : rx_OK (zV b e D A X) mX0_body 405 64 (vX0_body_64 j) := by
  unfold vX0_body_64
  refine s_aload_n hZ.1 dX0_body_64 rfl ?_
  refine s_aload_n hZ.1 dX0_body_65 rfl ?_
  refine yg7_14 dX0_body_66 zw1047 ?_
  refine s_aload_n hZ.1 dX0_body_69 rfl ?_
  refine yg7_8 dX0_body_70 zw1013 ?_
  refine s_callV hZ.1 (Met_X0_wanted hZ) (Nat.le_of_ble_eq_true rfl) vy_X0_wanted zcl0 zw2168 zw82 (Or.inl zw2166) dX0_body_73 ?_
  refine s_pop hZ.1 dX0_body_76 ?_
  exact (wX0_body_77 hZ j hj)
noncomputable def vX0_body_53 (j : Nat → rx_K) : rx_K := o_ld rx_isR 0 (o_ld rx_isR 1 (o_getf 7 14 (o_callV 1 0 (q1 200 3) (o_c1 rx_eq (vX0_body_77 j) (vX0_body_64 j)))))
set_option maxRecDepth 20000 in
theorem wX0_body_53 (hZ : zO b e D A X) (j : Nat → rx_K) (hj : ∀ k pc, [80][k]? = some pc → rx_OK (zV b e D A X) mX0_body 405 pc (j k)) : rx_OK (zV b e D A X) mX0_body 405 53 (vX0_body_53 j) := by
  unfold vX0_body_53
  refine s_aload_n hZ.1 dX0_body_53 rfl ?_
  refine s_aload_n hZ.1 dX0_body_54 rfl ?_
  refine yg7_14 dX0_body_55 zw1047 ?_
  refine s_callV hZ.1 (q1_ok hZ 200 3 _ _ rfl) (Nat.le_of_ble_eq_true rfl) vy_X0_expr zcl0 zw2090 zw64 (Or.inl zw2088) dX0_body_58 ?_
  exact s_if_eq dX0_body_61 (by decide) (wX0_body_77 hZ j hj) (wX0_body_64 hZ j hj)
noncomputable def vX0_body_46 (j : Nat → rx_K) : rx_K := o_ld rx_isR 1 (o_getf 7 14 (o_nul (vX0_body_77 j) (vX0_body_53 j)))
set_option maxRecDepth 20000 in
theorem wX0_body_46 (hZ : zO b e D A X) (j : Nat → rx_K) (hj : ∀ k pc, [80][k]? = some pc → rx_OK (zV b e D A X) mX0_body 405 pc (j k)) : rx_OK (zV b e D A X) mX0_body 405 46 (vX0_body_46 j) := by
  unfold vX0_body_46
  refine s_aload_n hZ.1 dX0_body_46 rfl ?_
  refine yg7_14 dX0_body_47 zw1047 ?_
  exact s_ifnull dX0_body_50 (by decide) (wX0_body_77 hZ j hj) (wX0_body_53 hZ j hj)
noncomputable def vX0_body_26 (j : Nat → rx_K) : rx_K := o_putf rx_isZ 0 8 (o_ld rx_isR 0 (o_const 0 (o_putf rx_isI 0 11 (o_ld rx_isR 0 (o_const 0 (o_putf rx_isI 0 12 (o_ld rx_isR 1 (o_getf 7 0 (o_c1 rx_eq (vX0_body_46 j) (vX0_body_78 j))))))))))
set_option maxRecDepth 20000 in
theorem wX0_body_26 (hZ : zO b e D A X) (j : Nat → rx_K) (hj : ∀ k pc, [80][k]? = some pc → rx_OK (zV b e D A X) mX0_body 405 pc (j k)) : rx_OK (zV b e D A X) mX0_body 405 26 (vX0_body_26 j) := by
  unfold vX0_body_26
  refine yp0_8 hZ.1 dX0_body_26 zw671 ?_
  refine s_aload_n hZ.1 dX0_body_29 rfl ?_
  refine s_iconst dX0_body_30 (by decide +kernel) ?_
  refine yp0_11 hZ.1 dX0_body_31 zw674 ?_
  refine s_aload_n hZ.1 dX0_body_34 rfl ?_
  refine s_iconst dX0_body_35 (by decide +kernel) ?_
  refine yp0_12 hZ.1 dX0_body_36 zw675 ?_
  refine s_aload_n hZ.1 dX0_body_39 rfl ?_
  refine yg7_0 dX0_body_40 zw945 ?_
  exact s_if_ne dX0_body_43 (by decide) (wX0_body_78 hZ j hj) (wX0_body_46 hZ j hj)
noncomputable def vX0_body_25 (j : Nat → rx_K) : rx_K := o_const 0 ((vX0_body_26 j))
set_option maxRecDepth 20000 in
theorem wX0_body_25 (hZ : zO b e D A X) (j : Nat → rx_K) (hj : ∀ k pc, [80][k]? = some pc → rx_OK (zV b e D A X) mX0_body 405 pc (j k)) : rx_OK (zV b e D A X) mX0_body 405 25 (vX0_body_25 j) := by
  unfold vX0_body_25
  refine s_iconst dX0_body_25 (by decide +kernel) ?_
  exact (wX0_body_26 hZ j hj)
noncomputable def vX0_body_21 (j : Nat → rx_K) : rx_K := o_const 8 ((vX0_body_26 j))
set_option maxRecDepth 20000 in
theorem wX0_body_21 (hZ : zO b e D A X) (j : Nat → rx_K) (hj : ∀ k pc, [80][k]? = some pc → rx_OK (zV b e D A X) mX0_body 405 pc (j k)) : rx_OK (zV b e D A X) mX0_body 405 21 (vX0_body_21 j) := by
  unfold vX0_body_21
  refine s_iconst dX0_body_21 (by decide +kernel) ?_
  exact s_goto dX0_body_22 (by decide) (wX0_body_26 hZ j hj)
noncomputable def vX0_body_13 (j : Nat → rx_K) : rx_K := o_ld rx_isR 1 (o_getf 7 0 (o_const 24 (o_c2 rx_eq (vX0_body_21 j) (vX0_body_25 j))))
set_option maxRecDepth 20000 in
theorem wX0_body_13 (hZ : zO b e D A X) (j : Nat → rx_K) (hj : ∀ k pc, [80][k]? = some pc → rx_OK (zV b e D A X) mX0_body 405 pc (j k)) : rx_OK (zV b e D A X) mX0_body 405 13 (vX0_body_13 j) := by
  unfold vX0_body_13
  refine s_aload_n hZ.1 dX0_body_13 rfl ?_
  refine yg7_0 dX0_body_14 zw945 ?_
  refine s_iconst dX0_body_17 (by decide +kernel) ?_
  exact s_icmp_ne dX0_body_18 (by decide) (wX0_body_25 hZ j hj) (wX0_body_21 hZ j hj)
noncomputable def vX0_body_0 (j : Nat → rx_K) : rx_K := o_ld rx_isR 0 (o_ld rx_isR 1 (o_putf rx_isR 0 7 (o_ld rx_isR 0 (o_ld rx_isR 1 (o_getf 7 2 (o_c1 rx_eq (vX0_body_13 j) (vX0_body_21 j)))))))
set_option maxRecDepth 20000 in
theorem wX0_body_0 (hZ : zO b e D A X) (j : Nat → rx_K) (hj : ∀ k pc, [80][k]? = some pc → rx_OK (zV b e D A X) mX0_body 405 pc (j k)) : rx_OK (zV b e D A X) mX0_body 405 0 (vX0_body_0 j) := by
  unfold vX0_body_0
  refine s_aload_n hZ.1 dX0_body_0 rfl ?_
  refine s_aload_n hZ.1 dX0_body_1 rfl ?_
  refine yp0_7 hZ.1 dX0_body_2 zw670 ?_
  refine s_aload_n hZ.1 dX0_body_5 rfl ?_
  refine s_aload_n hZ.1 dX0_body_6 rfl ?_
  refine yg7_2 dX0_body_7 zw963 ?_
  exact s_if_ne dX0_body_10 (by decide) (wX0_body_21 hZ j hj) (wX0_body_13 hZ j hj)
noncomputable def vhX0_body (j : Nat → rx_K) : List rx_K := [vX0_body_80 j]
theorem vlX0_body (hZ : zO b e D A X) : ∀ n k pc, [80][k]? = some pc → rx_OK (zV b e D A X) mX0_body 405 pc (rx_J (vhX0_body) n k) := rx_loop fun j hj k pc h => by
  match k, h with
  | 0, h =>
    have e9 := Option.some.inj (show some 80 = some pc from h)
    subst e9
    exact wX0_body_80 hZ j hj
  | _ + 1, h => exact absurd h (by simp)
noncomputable def FX0_body : List Nat → rx_H → Option (Nat × rx_H) := rx_ent 4 (vX0_body_0 (rx_J (vhX0_body) 4000000000))
theorem Met_X0_body (hZ : zO b e D A X) : rx_Met (zV b e D A X) 405 yX0_body mX0_body (FX0_body) := rx_entry hZ.1 (wX0_body_0 hZ _ (vlX0_body hZ 4000000000)) (by decide +kernel) rfl (fun h => by cases h)
end ZM5

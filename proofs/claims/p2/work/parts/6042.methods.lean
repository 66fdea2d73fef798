section ZM42
variable {b : Nat} {e : Nat → Value} {D : va_G} {A : Nat → ClassId} {X : State → Prop}
noncomputable def vX13_statementWithin_507 (g : Nat → List Nat → rx_H → Option (Nat × rx_H)) : rx_K := o_ld rx_isR 0 (o_const 232 (o_ld rx_isI 1 (o_callV 2 13 FX13_node (o_st rx_isI 3 (o_ld rx_isR 0 (o_getf 13 77 (o_ld rx_isI 3 (o_ld rx_isI 2 (o_ast 0 (fun v => v) rx_isI (o_ld rx_isR 0 (o_const 472 (o_callV 1 13 FX13_wantSign (o_ld rx_isI 3 (o_ret1 rx_isI))))))))))))))
set_option maxRecDepth 20000 in
theorem wX13_statementWithin_507 {dn : Nat} {g : Nat → List Nat → rx_H → Option (Nat × rx_H)} (hZ : zO b e D A X) (hg : ∀ i y M, vl9[i]? = some (y, M) → rx_Met (zV b e D A X) dn y M (g i)) (hd : 208 ≤ dn) : rx_OK (zV b e D A X) mX13_statementWithin (dn + 1) 507 (vX13_statementWithin_507 g) := by
  unfold vX13_statementWithin_507
  refine s_aload_n hZ.1 dX13_statementWithin_507 rfl ?_
  refine s_bipush dX13_statementWithin_508 (by decide +kernel) ?_
  refine s_iload_n hZ.1 dX13_statementWithin_510 rfl ?_
  refine s_callV hZ.1 (Met_X13_node hZ) (Nat.succ_le_succ (Nat.le_trans (Nat.le_of_ble_eq_true rfl) hd)) vy_X13_node zcl13 zw3103 zw208 (Or.inl zw3101) dX13_statementWithin_511 ?_
  refine s_istore_n hZ.1 dX13_statementWithin_514 rfl (Nat.le_of_ble_eq_true rfl) ?_
  refine s_aload_n hZ.1 dX13_statementWithin_515 rfl ?_
  refine yg13_77 dX13_statementWithin_516 zw4198 ?_
  refine s_iload_n hZ.1 dX13_statementWithin_519 rfl ?_
  refine s_iload_n hZ.1 dX13_statementWithin_520 rfl ?_
  refine s_iast hZ.1 (tt := 0) rfl dX13_statementWithin_521 ?_
  refine s_aload_n hZ.1 dX13_statementWithin_522 rfl ?_
  refine s_bipush dX13_statementWithin_523 (by decide +kernel) ?_
  refine s_callV hZ.1 (Met_X13_wantSign hZ) (Nat.succ_le_succ (Nat.le_trans (Nat.le_of_ble_eq_true rfl) hd)) vy_X13_wantSign zcl13 zw3037 zw196 (Or.inl zw3035) dX13_statementWithin_525 ?_
  refine s_iload_n hZ.1 dX13_statementWithin_528 rfl ?_
  exact s_iret hZ.1 rfl dX13_statementWithin_529
noncomputable def vX13_statementWithin_470 (g : Nat → List Nat → rx_H → Option (Nat × rx_H)) : rx_K := o_ld rx_isR 0 (o_callV 0 13 FX13_step (o_ld rx_isR 0 (o_const 240 (o_ld rx_isI 1 (o_callV 2 13 FX13_node (o_st rx_isI 3 (o_ld rx_isR 0 (o_getf 13 77 (o_ld rx_isI 3 (o_ld rx_isI 2 (o_ast 0 (fun v => v) rx_isI (o_ld rx_isR 0 (o_getf 13 78 (o_ld rx_isI 3 (o_ld rx_isR 0 (o_callV 0 13 (q8 200 1) (o_ast 0 (fun v => v) rx_isI (o_ld rx_isR 0 (o_const 472 (o_callV 1 13 FX13_wantSign (o_ld rx_isI 3 (o_ret1 rx_isI))))))))))))))))))))))
set_option maxRecDepth 20000 in
theorem wX13_statementWithin_470 {dn : Nat} {g : Nat → List Nat → rx_H → Option (Nat × rx_H)} (hZ : zO b e D A X) (hg : ∀ i y M, vl9[i]? = some (y, M) → rx_Met (zV b e D A X) dn y M (g i)) (hd : 208 ≤ dn) : rx_OK (zV b e D A X) mX13_statementWithin (dn + 1) 470 (vX13_statementWithin_470 g) := by
  unfold vX13_statementWithin_470
  refine s_aload_n hZ.1 dX13_statementWithin_470 rfl ?_
  refine s_callV hZ.1 (Met_X13_step hZ) (Nat.succ_le_succ (Nat.le_trans (Nat.le_of_ble_eq_true rfl) hd)) vy_X13_step zcl13 zw2996 zw188 (Or.inl zw2994) dX13_statementWithin_471 ?_
  refine s_aload_n hZ.1 dX13_statementWithin_474 rfl ?_
  refine s_bipush dX13_statementWithin_475 (by decide +kernel) ?_
  refine s_iload_n hZ.1 dX13_statementWithin_477 rfl ?_
  refine s_callV hZ.1 (Met_X13_node hZ) (Nat.succ_le_succ (Nat.le_trans (Nat.le_of_ble_eq_true rfl) hd)) vy_X13_node zcl13 zw3103 zw208 (Or.inl zw3101) dX13_statementWithin_478 ?_
  refine s_istore_n hZ.1 dX13_statementWithin_481 rfl (Nat.le_of_ble_eq_true rfl) ?_
  refine s_aload_n hZ.1 dX13_statementWithin_482 rfl ?_
  refine yg13_77 dX13_statementWithin_483 zw4198 ?_
  refine s_iload_n hZ.1 dX13_statementWithin_486 rfl ?_
  refine s_iload_n hZ.1 dX13_statementWithin_487 rfl ?_
  refine s_iast hZ.1 (tt := 0) rfl dX13_statementWithin_488 ?_
  refine s_aload_n hZ.1 dX13_statementWithin_489 rfl ?_
  refine yg13_78 dX13_statementWithin_490 zw4199 ?_
  refine s_iload_n hZ.1 dX13_statementWithin_493 rfl ?_
  refine s_aload_n hZ.1 dX13_statementWithin_494 rfl ?_
  refine s_callV hZ.1 (q8_ok hZ 200 1 _ _ rfl) (Nat.succ_le_succ (Nat.le_trans (Nat.le_of_ble_eq_true rfl) hd)) vy_X13_expression zcl13 zw3107 zw209 (Or.inl zw3105) dX13_statementWithin_495 ?_
  refine s_iast hZ.1 (tt := 0) rfl dX13_statementWithin_498 ?_
  refine s_aload_n hZ.1 dX13_statementWithin_499 rfl ?_
  refine s_bipush dX13_statementWithin_500 (by decide +kernel) ?_
  refine s_callV hZ.1 (Met_X13_wantSign hZ) (Nat.succ_le_succ (Nat.le_trans (Nat.le_of_ble_eq_true rfl) hd)) vy_X13_wantSign zcl13 zw3037 zw196 (Or.inl zw3035) dX13_statementWithin_502 ?_
  refine s_iload_n hZ.1 dX13_statementWithin_505 rfl ?_
  exact s_iret hZ.1 rfl dX13_statementWithin_506
noncomputable def vX13_statementWithin_461 (g : Nat → List Nat → rx_H → Option (Nat × rx_H)) : rx_K := o_ld rx_isR 0 (o_const 488 (o_callV 1 13 FX13_isSign (o_c1 rx_eq (vX13_statementWithin_507 g) (vX13_statementWithin_470 g))))
set_option maxRecDepth 20000 in
theorem wX13_statementWithin_461 {dn : Nat} {g : Nat → List Nat → rx_H → Option (Nat × rx_H)} (hZ : zO b e D A X) (hg : ∀ i y M, vl9[i]? = some (y, M) → rx_Met (zV b e D A X) dn y M (g i)) (hd : 208 ≤ dn) : rx_OK (zV b e D A X) mX13_statementWithin (dn + 1) 461 (vX13_statementWithin_461 g) := by
  unfold vX13_statementWithin_461
  refine s_aload_n hZ.1 dX13_statementWithin_461 rfl ?_
  refine s_bipush dX13_statementWithin_462 (by decide +kernel) ?_
  refine s_callV hZ.1 (Met_X13_isSign hZ) (Nat.succ_le_succ (Nat.le_trans (Nat.le_of_ble_eq_true rfl) hd)) vy_X13_isSign zcl13 zw3030 zw195 (Or.inl zw3028) dX13_statementWithin_464 ?_
  exact s_if_eq dX13_statementWithin_467 (by decide) (wX13_statementWithin_507 hZ hg hd) (wX13_statementWithin_470 hZ hg hd)
noncomputable def vX13_statementWithin_449 (g : Nat → List Nat → rx_H → Option (Nat × rx_H)) : rx_K := o_ld rx_isR 0 (o_callV 0 13 (q8 200 1) (o_st rx_isI 2 (o_ld rx_isR 0 (o_getf 13 20 (o_c1 rx_eq (vX13_statementWithin_461 g) (vX13_statementWithin_507 g))))))
set_option maxRecDepth 20000 in
theorem wX13_statementWithin_449 {dn : Nat} {g : Nat → List Nat → rx_H → Option (Nat × rx_H)} (hZ : zO b e D A X) (hg : ∀ i y M, vl9[i]? = some (y, M) → rx_Met (zV b e D A X) dn y M (g i)) (hd : 208 ≤ dn) : rx_OK (zV b e D A X) mX13_statementWithin (dn + 1) 449 (vX13_statementWithin_449 g) := by
  unfold vX13_statementWithin_449
  refine s_aload_n hZ.1 dX13_statementWithin_449 rfl ?_
  refine s_callV hZ.1 (q8_ok hZ 200 1 _ _ rfl) (Nat.succ_le_succ (Nat.le_trans (Nat.le_of_ble_eq_true rfl) hd)) vy_X13_expression zcl13 zw3107 zw209 (Or.inl zw3105) dX13_statementWithin_450 ?_
  refine s_istore_n hZ.1 dX13_statementWithin_453 rfl (Nat.le_of_ble_eq_true rfl) ?_
  refine s_aload_n hZ.1 dX13_statementWithin_454 rfl ?_
  refine yg13_20 dX13_statementWithin_455 zw4141 ?_
  exact s_if_ne dX13_statementWithin_458 (by decide) (wX13_statementWithin_507 hZ hg hd) (wX13_statementWithin_461 hZ hg hd)
noncomputable def vX13_statementWithin_419 (g : Nat → List Nat → rx_H → Option (Nat × rx_H)) : rx_K := o_ld rx_isR 0 (o_const 224 (o_ld rx_isI 1 (o_callV 2 13 FX13_node (o_st rx_isI 2 (o_ld rx_isR 0 (o_callV 0 13 FX13_step (o_ld rx_isR 0 (o_getf 13 77 (o_ld rx_isI 2 (o_ld rx_isR 0 (o_callV 0 13 (q8 200 0) (o_ast 0 (fun v => v) rx_isI (o_ld rx_isR 0 (o_const 472 (o_callV 1 13 FX13_wantSign (o_ld rx_isI 2 (o_ret1 rx_isI)))))))))))))))))
set_option maxRecDepth 20000 in
theorem wX13_statementWithin_419 {dn : Nat} {g : Nat → List Nat → rx_H → Option (Nat × rx_H)} (hZ : zO b e D A X) (hg : ∀ i y M, vl9[i]? = some (y, M) → rx_Met (zV b e D A X) dn y M (g i)) (hd : 208 ≤ dn) : rx_OK (zV b e D A X) mX13_statementWithin (dn + 1) 419 (vX13_statementWithin_419 g) := by
  unfold vX13_statementWithin_419
  refine s_aload_n hZ.1 dX13_statementWithin_419 rfl ?_
  refine s_bipush dX13_statementWithin_420 (by decide +kernel) ?_
  refine s_iload_n hZ.1 dX13_statementWithin_422 rfl ?_
  refine s_callV hZ.1 (Met_X13_node hZ) (Nat.succ_le_succ (Nat.le_trans (Nat.le_of_ble_eq_true rfl) hd)) vy_X13_node zcl13 zw3103 zw208 (Or.inl zw3101) dX13_statementWithin_423 ?_
  refine s_istore_n hZ.1 dX13_statementWithin_426 rfl (Nat.le_of_ble_eq_true rfl) ?_
  refine s_aload_n hZ.1 dX13_statementWithin_427 rfl ?_
  refine s_callV hZ.1 (Met_X13_step hZ) (Nat.succ_le_succ (Nat.le_trans (Nat.le_of_ble_eq_true rfl) hd)) vy_X13_step zcl13 zw2996 zw188 (Or.inl zw2994) dX13_statementWithin_428 ?_
  refine s_aload_n hZ.1 dX13_statementWithin_431 rfl ?_
  refine yg13_77 dX13_statementWithin_432 zw4198 ?_
  refine s_iload_n hZ.1 dX13_statementWithin_435 rfl ?_
  refine s_aload_n hZ.1 dX13_statementWithin_436 rfl ?_
  refine s_callV hZ.1 (q8_ok hZ 200 0 _ _ rfl) (Nat.succ_le_succ (Nat.le_trans (Nat.le_of_ble_eq_true rfl) hd)) vy_X13_arguments zcl13 zw3127 zw214 (Or.inl zw3125) dX13_statementWithin_437 ?_
  refine s_iast hZ.1 (tt := 0) rfl dX13_statementWithin_440 ?_
  refine s_aload_n hZ.1 dX13_statementWithin_441 rfl ?_
  refine s_bipush dX13_statementWithin_442 (by decide +kernel) ?_
  refine s_callV hZ.1 (Met_X13_wantSign hZ) (Nat.succ_le_succ (Nat.le_trans (Nat.le_of_ble_eq_true rfl) hd)) vy_X13_wantSign zcl13 zw3037 zw196 (Or.inl zw3035) dX13_statementWithin_444 ?_
  refine s_iload_n hZ.1 dX13_statementWithin_447 rfl ?_
  exact s_iret hZ.1 rfl dX13_statementWithin_448
noncomputable def vX13_statementWithin_410 (g : Nat → List Nat → rx_H → Option (Nat × rx_H)) : rx_K := o_ld rx_isR 0 (o_const 320 (o_callV 1 13 FX13_isSignNext (o_c1 rx_eq (vX13_statementWithin_449 g) (vX13_statementWithin_419 g))))
set_option maxRecDepth 20000 in
theorem wX13_statementWithin_410 {dn : Nat} {g : Nat → List Nat → rx_H → Option (Nat × rx_H)} (hZ : zO b e D A X) (hg : ∀ i y M, vl9[i]? = some (y, M) → rx_Met (zV b e D A X) dn y M (g i)) (hd : 208 ≤ dn) : rx_OK (zV b e D A X) mX13_statementWithin (dn + 1) 410 (vX13_statementWithin_410 g) := by
  unfold vX13_statementWithin_410
  refine s_aload_n hZ.1 dX13_statementWithin_410 rfl ?_
  refine s_bipush dX13_statementWithin_411 (by decide +kernel) ?_
  refine s_callV hZ.1 (Met_X13_isSignNext hZ) (Nat.succ_le_succ (Nat.le_trans (Nat.le_of_ble_eq_true rfl) hd)) vy_X13_isSignNext zcl13 zw3150 zw219 (Or.inl zw3148) dX13_statementWithin_413 ?_
  exact s_if_eq dX13_statementWithin_416 (by decide) (wX13_statementWithin_449 hZ hg hd) (wX13_statementWithin_419 hZ hg hd)
noncomputable def vX13_statementWithin_400 (g : Nat → List Nat → rx_H → Option (Nat × rx_H)) : rx_K := o_ld rx_isR 0 (o_const 804 (o_callV 1 13 FX13_isWordAt (o_c1 rx_eq (vX13_statementWithin_449 g) (vX13_statementWithin_410 g))))
set_option maxRecDepth 20000 in
theorem wX13_statementWithin_400 {dn : Nat} {g : Nat → List Nat → rx_H → Option (Nat × rx_H)} (hZ : zO b e D A X) (hg : ∀ i y M, vl9[i]? = some (y, M) → rx_Met (zV b e D A X) dn y M (g i)) (hd : 208 ≤ dn) : rx_OK (zV b e D A X) mX13_statementWithin (dn + 1) 400 (vX13_statementWithin_400 g) := by
  unfold vX13_statementWithin_400
  refine s_aload_n hZ.1 dX13_statementWithin_400 rfl ?_
  refine s_ldcwS (k := 100) (zo_R100 hZ) dX13_statementWithin_401 ?_
  refine s_callV hZ.1 (Met_X13_isWordAt hZ) (Nat.succ_le_succ (Nat.le_trans (Nat.le_of_ble_eq_true rfl) hd)) vy_X13_isWordAt zcl13 zw2983 zw186 (Or.inl zw2981) dX13_statementWithin_404 ?_
  exact s_if_eq dX13_statementWithin_407 (by decide) (wX13_statementWithin_449 hZ hg hd) (wX13_statementWithin_410 hZ hg hd)
noncomputable def vX13_statementWithin_393 (g : Nat → List Nat → rx_H → Option (Nat × rx_H)) : rx_K := o_ld rx_isR 0 (o_getf 13 20 (o_c1 rx_eq (vX13_statementWithin_400 g) (vX13_statementWithin_449 g)))
set_option maxRecDepth 20000 in
theorem wX13_statementWithin_393 {dn : Nat} {g : Nat → List Nat → rx_H → Option (Nat × rx_H)} (hZ : zO b e D A X) (hg : ∀ i y M, vl9[i]? = some (y, M) → rx_Met (zV b e D A X) dn y M (g i)) (hd : 208 ≤ dn) : rx_OK (zV b e D A X) mX13_statementWithin (dn + 1) 393 (vX13_statementWithin_393 g) := by
  unfold vX13_statementWithin_393
  refine s_aload_n hZ.1 dX13_statementWithin_393 rfl ?_
  refine yg13_20 dX13_statementWithin_394 zw4141 ?_
  exact s_if_ne dX13_statementWithin_397 (by decide) (wX13_statementWithin_449 hZ hg hd) (wX13_statementWithin_400 hZ hg hd)
noncomputable def vX13_statementWithin_387 (g : Nat → List Nat → rx_H → Option (Nat × rx_H)) : rx_K := o_ld rx_isR 0 (o_ld rx_isI 1 (o_callV 1 13 (g 4) (o_ret1 rx_isI)))
set_option maxRecDepth 20000 in
theorem wX13_statementWithin_387 {dn : Nat} {g : Nat → List Nat → rx_H → Option (Nat × rx_H)} (hZ : zO b e D A X) (hg : ∀ i y M, vl9[i]? = some (y, M) → rx_Met (zV b e D A X) dn y M (g i)) (hd : 208 ≤ dn) : rx_OK (zV b e D A X) mX13_statementWithin (dn + 1) 387 (vX13_statementWithin_387 g) := by
  unfold vX13_statementWithin_387
  refine s_aload_n hZ.1 dX13_statementWithin_387 rfl ?_
  refine s_iload_n hZ.1 dX13_statementWithin_388 rfl ?_
  refine s_callV hZ.1 (hg 4 _ _ rfl) (Nat.le_refl _) vy_X13_tryOf zcl13 zw3141 zw217 (Or.inl zw3139) dX13_statementWithin_389 ?_
  exact s_iret hZ.1 rfl dX13_statementWithin_392
noncomputable def vX13_statementWithin_377 (g : Nat → List Nat → rx_H → Option (Nat × rx_H)) : rx_K := o_ld rx_isR 0 (o_const 900 (o_callV 1 13 FX13_takesWord (o_c1 rx_eq (vX13_statementWithin_393 g) (vX13_statementWithin_387 g))))
set_option maxRecDepth 20000 in
theorem wX13_statementWithin_377 {dn : Nat} {g : Nat → List Nat → rx_H → Option (Nat × rx_H)} (hZ : zO b e D A X) (hg : ∀ i y M, vl9[i]? = some (y, M) → rx_Met (zV b e D A X) dn y M (g i)) (hd : 208 ≤ dn) : rx_OK (zV b e D A X) mX13_statementWithin (dn + 1) 377 (vX13_statementWithin_377 g) := by
  unfold vX13_statementWithin_377
  refine s_aload_n hZ.1 dX13_statementWithin_377 rfl ?_
  refine s_ldcwS (k := 112) (zo_R112 hZ) dX13_statementWithin_378 ?_
  refine s_callV hZ.1 (Met_X13_takesWord hZ) (Nat.succ_le_succ (Nat.le_trans (Nat.le_of_ble_eq_true rfl) hd)) vy_X13_takesWord zcl13 zw2979 zw185 (Or.inl zw2977) dX13_statementWithin_381 ?_
  exact s_if_eq dX13_statementWithin_384 (by decide) (wX13_statementWithin_393 hZ hg hd) (wX13_statementWithin_387 hZ hg hd)
noncomputable def vX13_statementWithin_350 (g : Nat → List Nat → rx_H → Option (Nat × rx_H)) : rx_K := o_ld rx_isI 1 (o_callV 2 13 FX13_node (o_st rx_isI 2 (o_ld rx_isR 0 (o_callV 0 13 FX13_step (o_ld rx_isR 0 (o_getf 13 77 (o_ld rx_isI 2 (o_ld rx_isR 0 (o_callV 0 13 (q8 200 1) (o_ast 0 (fun v => v) rx_isI (o_ld rx_isR 0 (o_const 472 (o_callV 1 13 FX13_wantSign (o_ld rx_isI 2 (o_ret1 rx_isI)))))))))))))))
set_option maxRecDepth 20000 in
theorem wX13_statementWithin_350 {dn : Nat} {g : Nat → List Nat → rx_H → Option (Nat × rx_H)} (hZ : zO b e D A X) (hg : ∀ i y M, vl9[i]? = some (y, M) → rx_Met (zV b e D A X) dn y M (g i)) (hd : 208 ≤ dn) : rx_OK (zV b e D A X) mX13_statementWithin (dn + 1) 350 (vX13_statementWithin_350 g) := by
  unfold vX13_statementWithin_350
  refine s_iload_n hZ.1 dX13_statementWithin_350 rfl ?_
  refine s_callV hZ.1 (Met_X13_node hZ) (Nat.succ_le_succ (Nat.le_trans (Nat.le_of_ble_eq_true rfl) hd)) vy_X13_node zcl13 zw3103 zw208 (Or.inl zw3101) dX13_statementWithin_351 ?_
  refine s_istore_n hZ.1 dX13_statementWithin_354 rfl (Nat.le_of_ble_eq_true rfl) ?_
  refine s_aload_n hZ.1 dX13_statementWithin_355 rfl ?_
  refine s_callV hZ.1 (Met_X13_step hZ) (Nat.succ_le_succ (Nat.le_trans (Nat.le_of_ble_eq_true rfl) hd)) vy_X13_step zcl13 zw2996 zw188 (Or.inl zw2994) dX13_statementWithin_356 ?_
  refine s_aload_n hZ.1 dX13_statementWithin_359 rfl ?_
  refine yg13_77 dX13_statementWithin_360 zw4198 ?_
  refine s_iload_n hZ.1 dX13_statementWithin_363 rfl ?_
  refine s_aload_n hZ.1 dX13_statementWithin_364 rfl ?_
  refine s_callV hZ.1 (q8_ok hZ 200 1 _ _ rfl) (Nat.succ_le_succ (Nat.le_trans (Nat.le_of_ble_eq_true rfl) hd)) vy_X13_expression zcl13 zw3107 zw209 (Or.inl zw3105) dX13_statementWithin_365 ?_
  refine s_iast hZ.1 (tt := 0) rfl dX13_statementWithin_368 ?_
  refine s_aload_n hZ.1 dX13_statementWithin_369 rfl ?_
  refine s_bipush dX13_statementWithin_370 (by decide +kernel) ?_
  refine s_callV hZ.1 (Met_X13_wantSign hZ) (Nat.succ_le_succ (Nat.le_trans (Nat.le_of_ble_eq_true rfl) hd)) vy_X13_wantSign zcl13 zw3037 zw196 (Or.inl zw3035) dX13_statementWithin_372 ?_
  refine s_iload_n hZ.1 dX13_statementWithin_375 rfl ?_
  exact s_iret hZ.1 rfl dX13_statementWithin_376
noncomputable def vX13_statementWithin_348 (g : Nat → List Nat → rx_H → Option (Nat × rx_H)) : rx_K := o_const 216 ((vX13_statementWithin_350 g))
set_option maxRecDepth 20000 in
theorem wX13_statementWithin_348 {dn : Nat} {g : Nat → List Nat → rx_H → Option (Nat × rx_H)} (hZ : zO b e D A X) (hg : ∀ i y M, vl9[i]? = some (y, M) → rx_Met (zV b e D A X) dn y M (g i)) (hd : 208 ≤ dn) : rx_OK (zV b e D A X) mX13_statementWithin (dn + 1) 348 (vX13_statementWithin_348 g) := by
  unfold vX13_statementWithin_348
  refine s_bipush dX13_statementWithin_348 (by decide +kernel) ?_
  exact (wX13_statementWithin_350 hZ hg hd)
noncomputable def vX13_statementWithin_343 (g : Nat → List Nat → rx_H → Option (Nat × rx_H)) : rx_K := o_const 200 ((vX13_statementWithin_350 g))
set_option maxRecDepth 20000 in
theorem wX13_statementWithin_343 {dn : Nat} {g : Nat → List Nat → rx_H → Option (Nat × rx_H)} (hZ : zO b e D A X) (hg : ∀ i y M, vl9[i]? = some (y, M) → rx_Met (zV b e D A X) dn y M (g i)) (hd : 208 ≤ dn) : rx_OK (zV b e D A X) mX13_statementWithin (dn + 1) 343 (vX13_statementWithin_343 g) := by
  unfold vX13_statementWithin_343
  refine s_bipush dX13_statementWithin_343 (by decide +kernel) ?_
  exact s_goto dX13_statementWithin_345 (by decide) (wX13_statementWithin_350 hZ hg hd)
noncomputable def vX13_statementWithin_332 (g : Nat → List Nat → rx_H → Option (Nat × rx_H)) : rx_K := o_ld rx_isR 0 (o_ld rx_isR 0 (o_const 884 (o_callV 1 13 FX13_isWordAt (o_c1 rx_eq (vX13_statementWithin_348 g) (vX13_statementWithin_343 g)))))
set_option maxRecDepth 20000 in
theorem wX13_statementWithin_332 {dn : Nat} {g : Nat → List Nat → rx_H → Option (Nat × rx_H)} (hZ : zO b e D A X) (hg : ∀ i y M, vl9[i]? = some (y, M) → rx_Met (zV b e D A X) dn y M (g i)) (hd : 208 ≤ dn) : rx_OK (zV b e D A X) mX13_statementWithin (dn + 1) 332 (vX13_statementWithin_332 g) := by
  unfold vX13_statementWithin_332
  refine s_aload_n hZ.1 dX13_statementWithin_332 rfl ?_
  refine s_aload_n hZ.1 dX13_statementWithin_333 rfl ?_
  refine s_ldcwS (k := 110) (zo_R110 hZ) dX13_statementWithin_334 ?_
  refine s_callV hZ.1 (Met_X13_isWordAt hZ) (Nat.succ_le_succ (Nat.le_trans (Nat.le_of_ble_eq_true rfl) hd)) vy_X13_isWordAt zcl13 zw2983 zw186 (Or.inl zw2981) dX13_statementWithin_337 ?_
  exact s_if_eq dX13_statementWithin_340 (by decide) (wX13_statementWithin_348 hZ hg hd) (wX13_statementWithin_343 hZ hg hd)
noncomputable def vX13_statementWithin_322 (g : Nat → List Nat → rx_H → Option (Nat × rx_H)) : rx_K := o_ld rx_isR 0 (o_const 916 (o_callV 1 13 FX13_isWordAt (o_c1 rx_eq (vX13_statementWithin_377 g) (vX13_statementWithin_332 g))))
set_option maxRecDepth 20000 in
theorem wX13_statementWithin_322 {dn : Nat} {g : Nat → List Nat → rx_H → Option (Nat × rx_H)} (hZ : zO b e D A X) (hg : ∀ i y M, vl9[i]? = some (y, M) → rx_Met (zV b e D A X) dn y M (g i)) (hd : 208 ≤ dn) : rx_OK (zV b e D A X) mX13_statementWithin (dn + 1) 322 (vX13_statementWithin_322 g) := by
  unfold vX13_statementWithin_322
  refine s_aload_n hZ.1 dX13_statementWithin_322 rfl ?_
  refine s_ldcwS (k := 114) (zo_R114 hZ) dX13_statementWithin_323 ?_
  refine s_callV hZ.1 (Met_X13_isWordAt hZ) (Nat.succ_le_succ (Nat.le_trans (Nat.le_of_ble_eq_true rfl) hd)) vy_X13_isWordAt zcl13 zw2983 zw186 (Or.inl zw2981) dX13_statementWithin_326 ?_
  exact s_if_eq dX13_statementWithin_329 (by decide) (wX13_statementWithin_377 hZ hg hd) (wX13_statementWithin_332 hZ hg hd)
noncomputable def vX13_statementWithin_312 (g : Nat → List Nat → rx_H → Option (Nat × rx_H)) : rx_K := o_ld rx_isR 0 (o_const 884 (o_callV 1 13 FX13_isWordAt (o_c1 rx_eq (vX13_statementWithin_322 g) (vX13_statementWithin_332 g))))
set_option maxRecDepth 20000 in
theorem wX13_statementWithin_312 {dn : Nat} {g : Nat → List Nat → rx_H → Option (Nat × rx_H)} (hZ : zO b e D A X) (hg : ∀ i y M, vl9[i]? = some (y, M) → rx_Met (zV b e D A X) dn y M (g i)) (hd : 208 ≤ dn) : rx_OK (zV b e D A X) mX13_statementWithin (dn + 1) 312 (vX13_statementWithin_312 g) := by
  unfold vX13_statementWithin_312
  refine s_aload_n hZ.1 dX13_statementWithin_312 rfl ?_
  refine s_ldcwS (k := 110) (zo_R110 hZ) dX13_statementWithin_313 ?_
  refine s_callV hZ.1 (Met_X13_isWordAt hZ) (Nat.succ_le_succ (Nat.le_trans (Nat.le_of_ble_eq_true rfl) hd)) vy_X13_isWordAt zcl13 zw2983 zw186 (Or.inl zw2981) dX13_statementWithin_316 ?_
  exact s_if_ne dX13_statementWithin_319 (by decide) (wX13_statementWithin_332 hZ hg hd) (wX13_statementWithin_322 hZ hg hd)
noncomputable def vX13_statementWithin_305 (g : Nat → List Nat → rx_H → Option (Nat × rx_H)) : rx_K := o_ld rx_isR 0 (o_getf 13 20 (o_c1 rx_eq (vX13_statementWithin_312 g) (vX13_statementWithin_377 g)))
set_option maxRecDepth 20000 in
theorem wX13_statementWithin_305 {dn : Nat} {g : Nat → List Nat → rx_H → Option (Nat × rx_H)} (hZ : zO b e D A X) (hg : ∀ i y M, vl9[i]? = some (y, M) → rx_Met (zV b e D A X) dn y M (g i)) (hd : 208 ≤ dn) : rx_OK (zV b e D A X) mX13_statementWithin (dn + 1) 305 (vX13_statementWithin_305 g) := by
  unfold vX13_statementWithin_305
  refine s_aload_n hZ.1 dX13_statementWithin_305 rfl ?_
  refine yg13_20 dX13_statementWithin_306 zw4141 ?_
  exact s_if_ne dX13_statementWithin_309 (by decide) (wX13_statementWithin_377 hZ hg hd) (wX13_statementWithin_312 hZ hg hd)
noncomputable def vX13_statementWithin_296 (g : Nat → List Nat → rx_H → Option (Nat × rx_H)) : rx_K := o_ast 0 (fun v => v) rx_isI (o_ld rx_isR 0 (o_const 472 (o_callV 1 13 FX13_wantSign (o_ld rx_isI 2 (o_ret1 rx_isI)))))
set_option maxRecDepth 20000 in
theorem wX13_statementWithin_296 {dn : Nat} {g : Nat → List Nat → rx_H → Option (Nat × rx_H)} (hZ : zO b e D A X) (hg : ∀ i y M, vl9[i]? = some (y, M) → rx_Met (zV b e D A X) dn y M (g i)) (hd : 208 ≤ dn) : rx_OK (zV b e D A X) mX13_statementWithin (dn + 1) 296 (vX13_statementWithin_296 g) := by
  unfold vX13_statementWithin_296
  refine s_iast hZ.1 (tt := 0) rfl dX13_statementWithin_296 ?_
  refine s_aload_n hZ.1 dX13_statementWithin_297 rfl ?_
  refine s_bipush dX13_statementWithin_298 (by decide +kernel) ?_
  refine s_callV hZ.1 (Met_X13_wantSign hZ) (Nat.succ_le_succ (Nat.le_trans (Nat.le_of_ble_eq_true rfl) hd)) vy_X13_wantSign zcl13 zw3037 zw196 (Or.inl zw3035) dX13_statementWithin_300 ?_
  refine s_iload_n hZ.1 dX13_statementWithin_303 rfl ?_
  exact s_iret hZ.1 rfl dX13_statementWithin_304
noncomputable def vX13_statementWithin_292 (g : Nat → List Nat → rx_H → Option (Nat × rx_H)) : rx_K := o_ld rx_isR 0 (o_callV 0 13 (q8 200 1) ((vX13_statementWithin_296 g)))
set_option maxRecDepth 20000 in
theorem wX13_statementWithin_292 {dn : Nat} {g : Nat → List Nat → rx_H → Option (Nat × rx_H)} (hZ : zO b e D A X) (hg : ∀ i y M, vl9[i]? = some (y, M) → rx_Met (zV b e D A X) dn y M (g i)) (hd : 208 ≤ dn) : rx_OK (zV b e D A X) mX13_statementWithin (dn + 1) 292 (vX13_statementWithin_292 g) := by
  unfold vX13_statementWithin_292
  refine s_aload_n hZ.1 dX13_statementWithin_292 rfl ?_
  refine s_callV hZ.1 (q8_ok hZ 200 1 _ _ rfl) (Nat.succ_le_succ (Nat.le_trans (Nat.le_of_ble_eq_true rfl) hd)) vy_X13_expression zcl13 zw3107 zw209 (Or.inl zw3105) dX13_statementWithin_293 ?_
  exact (wX13_statementWithin_296 hZ hg hd)
noncomputable def vX13_statementWithin_287 (g : Nat → List Nat → rx_H → Option (Nat × rx_H)) : rx_K := o_const 34359738352 ((vX13_statementWithin_296 g))
set_option maxRecDepth 20000 in
theorem wX13_statementWithin_287 {dn : Nat} {g : Nat → List Nat → rx_H → Option (Nat × rx_H)} (hZ : zO b e D A X) (hg : ∀ i y M, vl9[i]? = some (y, M) → rx_Met (zV b e D A X) dn y M (g i)) (hd : 208 ≤ dn) : rx_OK (zV b e D A X) mX13_statementWithin (dn + 1) 287 (vX13_statementWithin_287 g) := by
  unfold vX13_statementWithin_287
  refine s_bipush dX13_statementWithin_287 (by decide +kernel) ?_
  exact s_goto dX13_statementWithin_289 (by decide) (wX13_statementWithin_296 hZ hg hd)
noncomputable def vX13_statementWithin_278 (g : Nat → List Nat → rx_H → Option (Nat × rx_H)) : rx_K := o_ld rx_isR 0 (o_const 472 (o_callV 1 13 FX13_isSign (o_c1 rx_eq (vX13_statementWithin_292 g) (vX13_statementWithin_287 g))))
set_option maxRecDepth 20000 in
theorem wX13_statementWithin_278 {dn : Nat} {g : Nat → List Nat → rx_H → Option (Nat × rx_H)} (hZ : zO b e D A X) (hg : ∀ i y M, vl9[i]? = some (y, M) → rx_Met (zV b e D A X) dn y M (g i)) (hd : 208 ≤ dn) : rx_OK (zV b e D A X) mX13_statementWithin (dn + 1) 278 (vX13_statementWithin_278 g) := by
  unfold vX13_statementWithin_278
  refine s_aload_n hZ.1 dX13_statementWithin_278 rfl ?_
  refine s_bipush dX13_statementWithin_279 (by decide +kernel) ?_
  refine s_callV hZ.1 (Met_X13_isSign hZ) (Nat.succ_le_succ (Nat.le_trans (Nat.le_of_ble_eq_true rfl) hd)) vy_X13_isSign zcl13 zw3030 zw195 (Or.inl zw3028) dX13_statementWithin_281 ?_
  exact s_if_eq dX13_statementWithin_284 (by decide) (wX13_statementWithin_292 hZ hg hd) (wX13_statementWithin_287 hZ hg hd)
noncomputable def vX13_statementWithin_258 (g : Nat → List Nat → rx_H → Option (Nat × rx_H)) : rx_K := o_ld rx_isR 0 (o_const 192 (o_ld rx_isI 1 (o_callV 2 13 FX13_node (o_st rx_isI 2 (o_ld rx_isR 0 (o_getf 13 77 (o_ld rx_isI 2 (o_ld rx_isR 0 (o_getf 13 20 (o_c1 rx_eq (vX13_statementWithin_278 g) (vX13_statementWithin_292 g)))))))))))
set_option maxRecDepth 20000 in
theorem wX13_statementWithin_258 {dn : Nat} {g : Nat → List Nat → rx_H → Option (Nat × rx_H)} (hZ : zO b e D A X) (hg : ∀ i y M, vl9[i]? = some (y, M) → rx_Met (zV b e D A X) dn y M (g i)) (hd : 208 ≤ dn) : rx_OK (zV b e D A X) mX13_statementWithin (dn + 1) 258 (vX13_statementWithin_258 g) := by
  unfold vX13_statementWithin_258
  refine s_aload_n hZ.1 dX13_statementWithin_258 rfl ?_
  refine s_bipush dX13_statementWithin_259 (by decide +kernel) ?_
  refine s_iload_n hZ.1 dX13_statementWithin_261 rfl ?_
  refine s_callV hZ.1 (Met_X13_node hZ) (Nat.succ_le_succ (Nat.le_trans (Nat.le_of_ble_eq_true rfl) hd)) vy_X13_node zcl13 zw3103 zw208 (Or.inl zw3101) dX13_statementWithin_262 ?_
  refine s_istore_n hZ.1 dX13_statementWithin_265 rfl (Nat.le_of_ble_eq_true rfl) ?_
  refine s_aload_n hZ.1 dX13_statementWithin_266 rfl ?_
  refine yg13_77 dX13_statementWithin_267 zw4198 ?_
  refine s_iload_n hZ.1 dX13_statementWithin_270 rfl ?_
  refine s_aload_n hZ.1 dX13_statementWithin_271 rfl ?_
  refine yg13_20 dX13_statementWithin_272 zw4141 ?_
  exact s_if_ne dX13_statementWithin_275 (by decide) (wX13_statementWithin_292 hZ hg hd) (wX13_statementWithin_278 hZ hg hd)
noncomputable def vX13_statementWithin_248 (g : Nat → List Nat → rx_H → Option (Nat × rx_H)) : rx_K := o_ld rx_isR 0 (o_const 868 (o_callV 1 13 FX13_takesWord (o_c1 rx_eq (vX13_statementWithin_305 g) (vX13_statementWithin_258 g))))
set_option maxRecDepth 20000 in
theorem wX13_statementWithin_248 {dn : Nat} {g : Nat → List Nat → rx_H → Option (Nat × rx_H)} (hZ : zO b e D A X) (hg : ∀ i y M, vl9[i]? = some (y, M) → rx_Met (zV b e D A X) dn y M (g i)) (hd : 208 ≤ dn) : rx_OK (zV b e D A X) mX13_statementWithin (dn + 1) 248 (vX13_statementWithin_248 g) := by
  unfold vX13_statementWithin_248
  refine s_aload_n hZ.1 dX13_statementWithin_248 rfl ?_
  refine s_ldcwS (k := 108) (zo_R108 hZ) dX13_statementWithin_249 ?_
  refine s_callV hZ.1 (Met_X13_takesWord hZ) (Nat.succ_le_succ (Nat.le_trans (Nat.le_of_ble_eq_true rfl) hd)) vy_X13_takesWord zcl13 zw2979 zw185 (Or.inl zw2977) dX13_statementWithin_252 ?_
  exact s_if_eq dX13_statementWithin_255 (by decide) (wX13_statementWithin_305 hZ hg hd) (wX13_statementWithin_258 hZ hg hd)
noncomputable def vX13_statementWithin_247 (g : Nat → List Nat → rx_H → Option (Nat × rx_H)) : rx_K := o_ret1 rx_isI
set_option maxRecDepth 20000 in
theorem wX13_statementWithin_247 {dn : Nat} {g : Nat → List Nat → rx_H → Option (Nat × rx_H)} (hZ : zO b e D A X) (hg : ∀ i y M, vl9[i]? = some (y, M) → rx_Met (zV b e D A X) dn y M (g i)) (hd : 208 ≤ dn) : rx_OK (zV b e D A X) mX13_statementWithin (dn + 1) 247 (vX13_statementWithin_247 g) := by
  unfold vX13_statementWithin_247
  exact s_iret hZ.1 rfl dX13_statementWithin_247
noncomputable def vX13_statementWithin_206 (g : Nat → List Nat → rx_H → Option (Nat × rx_H)) : rx_K := o_ld rx_isR 0 (o_const 184 (o_ld rx_isI 1 (o_callV 2 13 FX13_node (o_st rx_isI 2 (o_ld rx_isR 0 (o_const 320 (o_callV 1 13 FX13_wantSign (o_ld rx_isR 0 (o_getf 13 77 (o_ld rx_isI 2 (o_ld rx_isR 0 (o_callV 0 13 (q8 200 1) (o_ast 0 (fun v => v) rx_isI (o_ld rx_isR 0 (o_const 328 (o_callV 1 13 FX13_wantSign (o_ld rx_isR 0 (o_getf 13 78 (o_ld rx_isI 2 (o_ld rx_isR 0 (o_callV 0 13 (g 2) (o_ast 0 (fun v => v) rx_isI (o_ld rx_isI 2 ((vX13_statementWithin_247 g)))))))))))))))))))))))))
set_option maxRecDepth 20000 in
theorem wX13_statementWithin_206 {dn : Nat} {g : Nat → List Nat → rx_H → Option (Nat × rx_H)} (hZ : zO b e D A X) (hg : ∀ i y M, vl9[i]? = some (y, M) → rx_Met (zV b e D A X) dn y M (g i)) (hd : 208 ≤ dn) : rx_OK (zV b e D A X) mX13_statementWithin (dn + 1) 206 (vX13_statementWithin_206 g) := by
  unfold vX13_statementWithin_206
  refine s_aload_n hZ.1 dX13_statementWithin_206 rfl ?_
  refine s_bipush dX13_statementWithin_207 (by decide +kernel) ?_
  refine s_iload_n hZ.1 dX13_statementWithin_209 rfl ?_
  refine s_callV hZ.1 (Met_X13_node hZ) (Nat.succ_le_succ (Nat.le_trans (Nat.le_of_ble_eq_true rfl) hd)) vy_X13_node zcl13 zw3103 zw208 (Or.inl zw3101) dX13_statementWithin_210 ?_
  refine s_istore_n hZ.1 dX13_statementWithin_213 rfl (Nat.le_of_ble_eq_true rfl) ?_
  refine s_aload_n hZ.1 dX13_statementWithin_214 rfl ?_
  refine s_bipush dX13_statementWithin_215 (by decide +kernel) ?_
  refine s_callV hZ.1 (Met_X13_wantSign hZ) (Nat.succ_le_succ (Nat.le_trans (Nat.le_of_ble_eq_true rfl) hd)) vy_X13_wantSign zcl13 zw3037 zw196 (Or.inl zw3035) dX13_statementWithin_217 ?_
  refine s_aload_n hZ.1 dX13_statementWithin_220 rfl ?_
  refine yg13_77 dX13_statementWithin_221 zw4198 ?_
  refine s_iload_n hZ.1 dX13_statementWithin_224 rfl ?_
  refine s_aload_n hZ.1 dX13_statementWithin_225 rfl ?_
  refine s_callV hZ.1 (q8_ok hZ 200 1 _ _ rfl) (Nat.succ_le_succ (Nat.le_trans (Nat.le_of_ble_eq_true rfl) hd)) vy_X13_expression zcl13 zw3107 zw209 (Or.inl zw3105) dX13_statementWithin_226 ?_
  refine s_iast hZ.1 (tt := 0) rfl dX13_statementWithin_229 ?_
  refine s_aload_n hZ.1 dX13_statementWithin_230 rfl ?_
  refine s_bipush dX13_statementWithin_231 (by decide +kernel) ?_
  refine s_callV hZ.1 (Met_X13_wantSign hZ) (Nat.succ_le_succ (Nat.le_trans (Nat.le_of_ble_eq_true rfl) hd)) vy_X13_wantSign zcl13 zw3037 zw196 (Or.inl zw3035) dX13_statementWithin_233 ?_
  refine s_aload_n hZ.1 dX13_statementWithin_236 rfl ?_
  refine yg13_78 dX13_statementWithin_237 zw4199 ?_
  refine s_iload_n hZ.1 dX13_statementWithin_240 rfl ?_
  refine s_aload_n hZ.1 dX13_statementWithin_241 rfl ?_
  refine s_callV hZ.1 (hg 2 _ _ rfl) (Nat.le_refl _) vy_X13_statement zcl13 zw3073 zw203 (Or.inl zw3071) dX13_statementWithin_242 ?_
  refine s_iast hZ.1 (tt := 0) rfl dX13_statementWithin_245 ?_
  refine s_iload_n hZ.1 dX13_statementWithin_246 rfl ?_
  exact (wX13_statementWithin_247 hZ hg hd)
noncomputable def vX13_statementWithin_196 (g : Nat → List Nat → rx_H → Option (Nat × rx_H)) : rx_K := o_ld rx_isR 0 (o_const 852 (o_callV 1 13 FX13_takesWord (o_c1 rx_eq (vX13_statementWithin_248 g) (vX13_statementWithin_206 g))))
set_option maxRecDepth 20000 in
theorem wX13_statementWithin_196 {dn : Nat} {g : Nat → List Nat → rx_H → Option (Nat × rx_H)} (hZ : zO b e D A X) (hg : ∀ i y M, vl9[i]? = some (y, M) → rx_Met (zV b e D A X) dn y M (g i)) (hd : 208 ≤ dn) : rx_OK (zV b e D A X) mX13_statementWithin (dn + 1) 196 (vX13_statementWithin_196 g) := by
  unfold vX13_statementWithin_196
  refine s_aload_n hZ.1 dX13_statementWithin_196 rfl ?_
  refine s_ldcwS (k := 106) (zo_R106 hZ) dX13_statementWithin_197 ?_
  refine s_callV hZ.1 (Met_X13_takesWord hZ) (Nat.succ_le_succ (Nat.le_trans (Nat.le_of_ble_eq_true rfl) hd)) vy_X13_takesWord zcl13 zw2979 zw185 (Or.inl zw2977) dX13_statementWithin_200 ?_
  exact s_if_eq dX13_statementWithin_203 (by decide) (wX13_statementWithin_248 hZ hg hd) (wX13_statementWithin_206 hZ hg hd)
noncomputable def vX13_statementWithin_193 (g : Nat → List Nat → rx_H → Option (Nat × rx_H)) : rx_K := o_ast 0 (fun v => v) rx_isI (o_ld rx_isI 2 (o_ret1 rx_isI))
set_option maxRecDepth 20000 in
theorem wX13_statementWithin_193 {dn : Nat} {g : Nat → List Nat → rx_H → Option (Nat × rx_H)} (hZ : zO b e D A X) (hg : ∀ i y M, vl9[i]? = some (y, M) → rx_Met (zV b e D A X) dn y M (g i)) (hd : 208 ≤ dn) : rx_OK (zV b e D A X) mX13_statementWithin (dn + 1) 193 (vX13_statementWithin_193 g) := by
  unfold vX13_statementWithin_193
  refine s_iast hZ.1 (tt := 0) rfl dX13_statementWithin_193 ?_
  refine s_iload_n hZ.1 dX13_statementWithin_194 rfl ?_
  exact s_iret hZ.1 rfl dX13_statementWithin_195
noncomputable def vX13_statementWithin_191 (g : Nat → List Nat → rx_H → Option (Nat × rx_H)) : rx_K := o_const 34359738352 ((vX13_statementWithin_193 g))
set_option maxRecDepth 20000 in
theorem wX13_statementWithin_191 {dn : Nat} {g : Nat → List Nat → rx_H → Option (Nat × rx_H)} (hZ : zO b e D A X) (hg : ∀ i y M, vl9[i]? = some (y, M) → rx_Met (zV b e D A X) dn y M (g i)) (hd : 208 ≤ dn) : rx_OK (zV b e D A X) mX13_statementWithin (dn + 1) 191 (vX13_statementWithin_191 g) := by
  unfold vX13_statementWithin_191
  refine s_bipush dX13_statementWithin_191 (by decide +kernel) ?_
  exact (wX13_statementWithin_193 hZ hg hd)
noncomputable def vX13_statementWithin_184 (g : Nat → List Nat → rx_H → Option (Nat × rx_H)) : rx_K := o_ld rx_isR 0 (o_callV 0 13 (g 2) ((vX13_statementWithin_193 g)))
set_option maxRecDepth 20000 in
theorem wX13_statementWithin_184 {dn : Nat} {g : Nat → List Nat → rx_H → Option (Nat × rx_H)} (hZ : zO b e D A X) (hg : ∀ i y M, vl9[i]? = some (y, M) → rx_Met (zV b e D A X) dn y M (g i)) (hd : 208 ≤ dn) : rx_OK (zV b e D A X) mX13_statementWithin (dn + 1) 184 (vX13_statementWithin_184 g) := by
  unfold vX13_statementWithin_184
  refine s_aload_n hZ.1 dX13_statementWithin_184 rfl ?_
  refine s_callV hZ.1 (hg 2 _ _ rfl) (Nat.le_refl _) vy_X13_statement zcl13 zw3073 zw203 (Or.inl zw3071) dX13_statementWithin_185 ?_
  exact s_goto dX13_statementWithin_188 (by decide) (wX13_statementWithin_193 hZ hg hd)
noncomputable def vX13_statementWithin_170 (g : Nat → List Nat → rx_H → Option (Nat × rx_H)) : rx_K := o_getf 13 79 (o_ld rx_isI 2 (o_ld rx_isR 0 (o_const 932 (o_callV 1 13 FX13_takesWord (o_c1 rx_eq (vX13_statementWithin_191 g) (vX13_statementWithin_184 g))))))
set_option maxRecDepth 20000 in
theorem wX13_statementWithin_170 {dn : Nat} {g : Nat → List Nat → rx_H → Option (Nat × rx_H)} (hZ : zO b e D A X) (hg : ∀ i y M, vl9[i]? = some (y, M) → rx_Met (zV b e D A X) dn y M (g i)) (hd : 208 ≤ dn) : rx_OK (zV b e D A X) mX13_statementWithin (dn + 1) 170 (vX13_statementWithin_170 g) := by
  unfold vX13_statementWithin_170
  refine yg13_79 dX13_statementWithin_170 zw4200 ?_
  refine s_iload_n hZ.1 dX13_statementWithin_173 rfl ?_
  refine s_aload_n hZ.1 dX13_statementWithin_174 rfl ?_
  refine s_ldcwS (k := 116) (zo_R116 hZ) dX13_statementWithin_175 ?_
  refine s_callV hZ.1 (Met_X13_takesWord hZ) (Nat.succ_le_succ (Nat.le_trans (Nat.le_of_ble_eq_true rfl) hd)) vy_X13_takesWord zcl13 zw2979 zw185 (Or.inl zw2977) dX13_statementWithin_178 ?_
  exact s_if_eq dX13_statementWithin_181 (by decide) (wX13_statementWithin_191 hZ hg hd) (wX13_statementWithin_184 hZ hg hd)
noncomputable def vX13_statementWithin_129 (g : Nat → List Nat → rx_H → Option (Nat × rx_H)) : rx_K := o_ld rx_isR 0 (o_const 176 (o_ld rx_isI 1 (o_callV 2 13 FX13_node (o_st rx_isI 2 (o_ld rx_isR 0 (o_const 320 (o_callV 1 13 FX13_wantSign (o_ld rx_isR 0 (o_getf 13 77 (o_ld rx_isI 2 (o_ld rx_isR 0 (o_callV 0 13 (q8 200 1) (o_ast 0 (fun v => v) rx_isI (o_ld rx_isR 0 (o_const 328 (o_callV 1 13 FX13_wantSign (o_ld rx_isR 0 (o_getf 13 78 (o_ld rx_isI 2 (o_ld rx_isR 0 (o_callV 0 13 (g 2) (o_ast 0 (fun v => v) rx_isI (o_ld rx_isR 0 ((vX13_statementWithin_170 g)))))))))))))))))))))))))
set_option maxRecDepth 20000 in
theorem wX13_statementWithin_129 {dn : Nat} {g : Nat → List Nat → rx_H → Option (Nat × rx_H)} (hZ : zO b e D A X) (hg : ∀ i y M, vl9[i]? = some (y, M) → rx_Met (zV b e D A X) dn y M (g i)) (hd : 208 ≤ dn) : rx_OK (zV b e D A X) mX13_statementWithin (dn + 1) 129 (vX13_statementWithin_129 g) := by
  unfold vX13_statementWithin_129
  refine s_aload_n hZ.1 dX13_statementWithin_129 rfl ?_
  refine s_bipush dX13_statementWithin_130 (by decide +kernel) ?_
  refine s_iload_n hZ.1 dX13_statementWithin_132 rfl ?_
  refine s_callV hZ.1 (Met_X13_node hZ) (Nat.succ_le_succ (Nat.le_trans (Nat.le_of_ble_eq_true rfl) hd)) vy_X13_node zcl13 zw3103 zw208 (Or.inl zw3101) dX13_statementWithin_133 ?_
  refine s_istore_n hZ.1 dX13_statementWithin_136 rfl (Nat.le_of_ble_eq_true rfl) ?_
  refine s_aload_n hZ.1 dX13_statementWithin_137 rfl ?_
  refine s_bipush dX13_statementWithin_138 (by decide +kernel) ?_
  refine s_callV hZ.1 (Met_X13_wantSign hZ) (Nat.succ_le_succ (Nat.le_trans (Nat.le_of_ble_eq_true rfl) hd)) vy_X13_wantSign zcl13 zw3037 zw196 (Or.inl zw3035) dX13_statementWithin_140 ?_
  refine s_aload_n hZ.1 dX13_statementWithin_143 rfl ?_
  refine yg13_77 dX13_statementWithin_144 zw4198 ?_
  refine s_iload_n hZ.1 dX13_statementWithin_147 rfl ?_
  refine s_aload_n hZ.1 dX13_statementWithin_148 rfl ?_
  refine s_callV hZ.1 (q8_ok hZ 200 1 _ _ rfl) (Nat.succ_le_succ (Nat.le_trans (Nat.le_of_ble_eq_true rfl) hd)) vy_X13_expression zcl13 zw3107 zw209 (Or.inl zw3105) dX13_statementWithin_149 ?_
  refine s_iast hZ.1 (tt := 0) rfl dX13_statementWithin_152 ?_
  refine s_aload_n hZ.1 dX13_statementWithin_153 rfl ?_
  refine s_bipush dX13_statementWithin_154 (by decide +kernel) ?_
  refine s_callV hZ.1 (Met_X13_wantSign hZ) (Nat.succ_le_succ (Nat.le_trans (Nat.le_of_ble_eq_true rfl) hd)) vy_X13_wantSign zcl13 zw3037 zw196 (Or.inl zw3035) dX13_statementWithin_156 ?_
  refine s_aload_n hZ.1 dX13_statementWithin_159 rfl ?_
  refine yg13_78 dX13_statementWithin_160 zw4199 ?_
  refine s_iload_n hZ.1 dX13_statementWithin_163 rfl ?_
  refine s_aload_n hZ.1 dX13_statementWithin_164 rfl ?_
  refine s_callV hZ.1 (hg 2 _ _ rfl) (Nat.le_refl _) vy_X13_statement zcl13 zw3073 zw203 (Or.inl zw3071) dX13_statementWithin_165 ?_
  refine s_iast hZ.1 (tt := 0) rfl dX13_statementWithin_168 ?_
  refine s_aload_n hZ.1 dX13_statementWithin_169 rfl ?_
  exact (wX13_statementWithin_170 hZ hg hd)
noncomputable def vX13_statementWithin_119 (g : Nat → List Nat → rx_H → Option (Nat × rx_H)) : rx_K := o_ld rx_isR 0 (o_const 836 (o_callV 1 13 FX13_takesWord (o_c1 rx_eq (vX13_statementWithin_196 g) (vX13_statementWithin_129 g))))
set_option maxRecDepth 20000 in
theorem wX13_statementWithin_119 {dn : Nat} {g : Nat → List Nat → rx_H → Option (Nat × rx_H)} (hZ : zO b e D A X) (hg : ∀ i y M, vl9[i]? = some (y, M) → rx_Met (zV b e D A X) dn y M (g i)) (hd : 208 ≤ dn) : rx_OK (zV b e D A X) mX13_statementWithin (dn + 1) 119 (vX13_statementWithin_119 g) := by
  unfold vX13_statementWithin_119
  refine s_aload_n hZ.1 dX13_statementWithin_119 rfl ?_
  refine s_ldcwS (k := 104) (zo_R104 hZ) dX13_statementWithin_120 ?_
  refine s_callV hZ.1 (Met_X13_takesWord hZ) (Nat.succ_le_succ (Nat.le_trans (Nat.le_of_ble_eq_true rfl) hd)) vy_X13_takesWord zcl13 zw2979 zw185 (Or.inl zw2977) dX13_statementWithin_123 ?_
  exact s_if_eq dX13_statementWithin_126 (by decide) (wX13_statementWithin_196 hZ hg hd) (wX13_statementWithin_129 hZ hg hd)
noncomputable def vX13_statementWithin_112 (g : Nat → List Nat → rx_H → Option (Nat × rx_H)) : rx_K := o_const 472 (o_callV 1 13 FX13_wantSign (o_ld rx_isI 2 (o_ret1 rx_isI)))
set_option maxRecDepth 20000 in
theorem wX13_statementWithin_112 {dn : Nat} {g : Nat → List Nat → rx_H → Option (Nat × rx_H)} (hZ : zO b e D A X) (hg : ∀ i y M, vl9[i]? = some (y, M) → rx_Met (zV b e D A X) dn y M (g i)) (hd : 208 ≤ dn) : rx_OK (zV b e D A X) mX13_statementWithin (dn + 1) 112 (vX13_statementWithin_112 g) := by
  unfold vX13_statementWithin_112
  refine s_bipush dX13_statementWithin_112 (by decide +kernel) ?_
  refine s_callV hZ.1 (Met_X13_wantSign hZ) (Nat.succ_le_succ (Nat.le_trans (Nat.le_of_ble_eq_true rfl) hd)) vy_X13_wantSign zcl13 zw3037 zw196 (Or.inl zw3035) dX13_statementWithin_114 ?_
  refine s_iload_n hZ.1 dX13_statementWithin_117 rfl ?_
  exact s_iret hZ.1 rfl dX13_statementWithin_118
noncomputable def vX13_statementWithin_73 (g : Nat → List Nat → rx_H → Option (Nat × rx_H)) : rx_K := o_ld rx_isR 0 (o_getf 13 74 (o_ld rx_isI 2 (o_ld rx_isR 0 (o_ld rx_isI 3 (o_callV 1 13 FX13_nameAt (o_ast 1 (fun v => v) rx_isL (o_ld rx_isR 0 (o_getf 13 72 (o_ld rx_isI 2 (o_ld rx_isR 0 (o_ld rx_isI 3 (o_callV 1 13 FX13_placeAt (o_ast 0 (fun v => v) rx_isI (o_ld rx_isR 0 (o_const 488 (o_callV 1 13 FX13_wantSign (o_ld rx_isR 0 (o_getf 13 77 (o_ld rx_isI 2 (o_ld rx_isR 0 (o_callV 0 13 (q8 200 1) (o_ast 0 (fun v => v) rx_isI (o_ld rx_isR 0 ((vX13_statementWithin_112 g)))))))))))))))))))))))))
set_option maxRecDepth 20000 in
theorem wX13_statementWithin_73 {dn : Nat} {g : Nat → List Nat → rx_H → Option (Nat × rx_H)} (hZ : zO b e D A X) (hg : ∀ i y M, vl9[i]? = some (y, M) → rx_Met (zV b e D A X) dn y M (g i)) (hd : 208 ≤ dn) : rx_OK (zV b e D A X) mX13_statementWithin (dn + 1) 73 (vX13_statementWithin_73 g) := by
  unfold vX13_statementWithin_73
  refine s_aload_n hZ.1 dX13_statementWithin_73 rfl ?_
  refine yg13_74 dX13_statementWithin_74 zw4195 ?_
  refine s_iload_n hZ.1 dX13_statementWithin_77 rfl ?_
  refine s_aload_n hZ.1 dX13_statementWithin_78 rfl ?_
  refine s_iload_n hZ.1 dX13_statementWithin_79 rfl ?_
  refine s_callV hZ.1 (Met_X13_nameAt hZ) (Nat.succ_le_succ (Nat.le_trans (Nat.le_of_ble_eq_true rfl) hd)) vy_X13_nameAt zcl13 zw2987 zw187 (Or.inl zw2985) dX13_statementWithin_80 ?_
  refine s_last (tt := 1) rfl dX13_statementWithin_83 ?_
  refine s_aload_n hZ.1 dX13_statementWithin_84 rfl ?_
  refine yg13_72 dX13_statementWithin_85 zw4193 ?_
  refine s_iload_n hZ.1 dX13_statementWithin_88 rfl ?_
  refine s_aload_n hZ.1 dX13_statementWithin_89 rfl ?_
  refine s_iload_n hZ.1 dX13_statementWithin_90 rfl ?_
  refine s_callV hZ.1 (Met_X13_placeAt hZ) (Nat.succ_le_succ (Nat.le_trans (Nat.le_of_ble_eq_true rfl) hd)) vy_X13_placeAt zcl13 zw3000 zw189 (Or.inl zw2998) dX13_statementWithin_91 ?_
  refine s_iast hZ.1 (tt := 0) rfl dX13_statementWithin_94 ?_
  refine s_aload_n hZ.1 dX13_statementWithin_95 rfl ?_
  refine s_bipush dX13_statementWithin_96 (by decide +kernel) ?_
  refine s_callV hZ.1 (Met_X13_wantSign hZ) (Nat.succ_le_succ (Nat.le_trans (Nat.le_of_ble_eq_true rfl) hd)) vy_X13_wantSign zcl13 zw3037 zw196 (Or.inl zw3035) dX13_statementWithin_98 ?_
  refine s_aload_n hZ.1 dX13_statementWithin_101 rfl ?_
  refine yg13_77 dX13_statementWithin_102 zw4198 ?_
  refine s_iload_n hZ.1 dX13_statementWithin_105 rfl ?_
  refine s_aload_n hZ.1 dX13_statementWithin_106 rfl ?_
  refine s_callV hZ.1 (q8_ok hZ 200 1 _ _ rfl) (Nat.succ_le_succ (Nat.le_trans (Nat.le_of_ble_eq_true rfl) hd)) vy_X13_expression zcl13 zw3107 zw209 (Or.inl zw3105) dX13_statementWithin_107 ?_
  refine s_iast hZ.1 (tt := 0) rfl dX13_statementWithin_110 ?_
  refine s_aload_n hZ.1 dX13_statementWithin_111 rfl ?_
  exact (wX13_statementWithin_112 hZ hg hd)
noncomputable def vX13_statementWithin_34 (g : Nat → List Nat → rx_H → Option (Nat × rx_H)) : rx_K := o_ld rx_isR 0 (o_const 168 (o_ld rx_isI 1 (o_callV 2 13 FX13_node (o_st rx_isI 2 (o_ld rx_isR 0 (o_getf 13 73 (o_ld rx_isI 2 (o_ld rx_isR 0 (o_ld rx_isR 0 (o_getf 13 22 (o_callV 1 13 FX13_placeAt (o_ast 0 (fun v => v) rx_isI (o_ld rx_isR 0 (o_getf 13 76 (o_ld rx_isI 2 (o_ld rx_isR 0 (o_callV 0 13 FX13_typeToken (o_ast 1 (fun v => v) rx_isL (o_ld rx_isR 0 (o_const 16 (o_const 0 (o_callV 2 13 FX13_want (o_st rx_isI 3 ((vX13_statementWithin_73 g)))))))))))))))))))))))))
set_option maxRecDepth 20000 in
theorem wX13_statementWithin_34 {dn : Nat} {g : Nat → List Nat → rx_H → Option (Nat × rx_H)} (hZ : zO b e D A X) (hg : ∀ i y M, vl9[i]? = some (y, M) → rx_Met (zV b e D A X) dn y M (g i)) (hd : 208 ≤ dn) : rx_OK (zV b e D A X) mX13_statementWithin (dn + 1) 34 (vX13_statementWithin_34 g) := by
  unfold vX13_statementWithin_34
  refine s_aload_n hZ.1 dX13_statementWithin_34 rfl ?_
  refine s_bipush dX13_statementWithin_35 (by decide +kernel) ?_
  refine s_iload_n hZ.1 dX13_statementWithin_37 rfl ?_
  refine s_callV hZ.1 (Met_X13_node hZ) (Nat.succ_le_succ (Nat.le_trans (Nat.le_of_ble_eq_true rfl) hd)) vy_X13_node zcl13 zw3103 zw208 (Or.inl zw3101) dX13_statementWithin_38 ?_
  refine s_istore_n hZ.1 dX13_statementWithin_41 rfl (Nat.le_of_ble_eq_true rfl) ?_
  refine s_aload_n hZ.1 dX13_statementWithin_42 rfl ?_
  refine yg13_73 dX13_statementWithin_43 zw4194 ?_
  refine s_iload_n hZ.1 dX13_statementWithin_46 rfl ?_
  refine s_aload_n hZ.1 dX13_statementWithin_47 rfl ?_
  refine s_aload_n hZ.1 dX13_statementWithin_48 rfl ?_
  refine yg13_22 dX13_statementWithin_49 zw4143 ?_
  refine s_callV hZ.1 (Met_X13_placeAt hZ) (Nat.succ_le_succ (Nat.le_trans (Nat.le_of_ble_eq_true rfl) hd)) vy_X13_placeAt zcl13 zw3000 zw189 (Or.inl zw2998) dX13_statementWithin_52 ?_
  refine s_iast hZ.1 (tt := 0) rfl dX13_statementWithin_55 ?_
  refine s_aload_n hZ.1 dX13_statementWithin_56 rfl ?_
  refine yg13_76 dX13_statementWithin_57 zw4197 ?_
  refine s_iload_n hZ.1 dX13_statementWithin_60 rfl ?_
  refine s_aload_n hZ.1 dX13_statementWithin_61 rfl ?_
  refine s_callV hZ.1 (Met_X13_typeToken hZ) (Nat.succ_le_succ (Nat.le_trans (Nat.le_of_ble_eq_true rfl) hd)) vy_X13_typeToken zcl13 zw3064 zw201 (Or.inl zw3062) dX13_statementWithin_62 ?_
  refine s_last (tt := 1) rfl dX13_statementWithin_65 ?_
  refine s_aload_n hZ.1 dX13_statementWithin_66 rfl ?_
  refine s_iconst dX13_statementWithin_67 (by decide +kernel) ?_
  refine s_iconst dX13_statementWithin_68 (by decide +kernel) ?_
  refine s_callV hZ.1 (Met_X13_want hZ) (Nat.succ_le_succ (Nat.le_trans (Nat.le_of_ble_eq_true rfl) hd)) vy_X13_want zcl13 zw3020 zw193 (Or.inl zw3018) dX13_statementWithin_69 ?_
  refine s_istore_n hZ.1 dX13_statementWithin_72 rfl (Nat.le_of_ble_eq_true rfl) ?_
  exact (wX13_statementWithin_73 hZ hg hd)
noncomputable def vX13_statementWithin_24 (g : Nat → List Nat → rx_H → Option (Nat × rx_H)) : rx_K := o_ld rx_isR 0 (o_const 820 (o_callV 1 13 FX13_takesWord (o_c1 rx_eq (vX13_statementWithin_119 g) (vX13_statementWithin_34 g))))
set_option maxRecDepth 20000 in
theorem wX13_statementWithin_24 {dn : Nat} {g : Nat → List Nat → rx_H → Option (Nat × rx_H)} (hZ : zO b e D A X) (hg : ∀ i y M, vl9[i]? = some (y, M) → rx_Met (zV b e D A X) dn y M (g i)) (hd : 208 ≤ dn) : rx_OK (zV b e D A X) mX13_statementWithin (dn + 1) 24 (vX13_statementWithin_24 g) := by
  unfold vX13_statementWithin_24
  refine s_aload_n hZ.1 dX13_statementWithin_24 rfl ?_
  refine s_ldcwS (k := 102) (zo_R102 hZ) dX13_statementWithin_25 ?_
  refine s_callV hZ.1 (Met_X13_takesWord hZ) (Nat.succ_le_succ (Nat.le_trans (Nat.le_of_ble_eq_true rfl) hd)) vy_X13_takesWord zcl13 zw2979 zw185 (Or.inl zw2977) dX13_statementWithin_28 ?_
  exact s_if_eq dX13_statementWithin_31 (by decide) (wX13_statementWithin_119 hZ hg hd) (wX13_statementWithin_34 hZ hg hd)
noncomputable def vX13_statementWithin_18 (g : Nat → List Nat → rx_H → Option (Nat × rx_H)) : rx_K := o_ld rx_isR 0 (o_ld rx_isI 1 (o_callV 1 13 (g 0) (o_ret1 rx_isI)))
set_option maxRecDepth 20000 in
theorem wX13_statementWithin_18 {dn : Nat} {g : Nat → List Nat → rx_H → Option (Nat × rx_H)} (hZ : zO b e D A X) (hg : ∀ i y M, vl9[i]? = some (y, M) → rx_Met (zV b e D A X) dn y M (g i)) (hd : 208 ≤ dn) : rx_OK (zV b e D A X) mX13_statementWithin (dn + 1) 18 (vX13_statementWithin_18 g) := by
  unfold vX13_statementWithin_18
  refine s_aload_n hZ.1 dX13_statementWithin_18 rfl ?_
  refine s_iload_n hZ.1 dX13_statementWithin_19 rfl ?_
  refine s_callV hZ.1 (hg 0 _ _ rfl) (Nat.le_refl _) vy_X13_block zcl13 zw3099 zw207 (Or.inl zw3097) dX13_statementWithin_20 ?_
  exact s_iret hZ.1 rfl dX13_statementWithin_23
noncomputable def vX13_statementWithin_0 (g : Nat → List Nat → rx_H → Option (Nat × rx_H)) : rx_K := o_ld rx_isR 0 (o_ld rx_isR 0 (o_getf 13 22 (o_callV 1 13 FX13_placeAt (o_st rx_isI 1 (o_ld rx_isR 0 (o_const 984 (o_callV 1 13 FX13_isSign (o_c1 rx_eq (vX13_statementWithin_24 g) (vX13_statementWithin_18 g)))))))))
set_option maxRecDepth 20000 in
theorem wX13_statementWithin_0 {dn : Nat} {g : Nat → List Nat → rx_H → Option (Nat × rx_H)} (hZ : zO b e D A X) (hg : ∀ i y M, vl9[i]? = some (y, M) → rx_Met (zV b e D A X) dn y M (g i)) (hd : 208 ≤ dn) : rx_OK (zV b e D A X) mX13_statementWithin (dn + 1) 0 (vX13_statementWithin_0 g) := by
  unfold vX13_statementWithin_0
  refine s_aload_n hZ.1 dX13_statementWithin_0 rfl ?_
  refine s_aload_n hZ.1 dX13_statementWithin_1 rfl ?_
  refine yg13_22 dX13_statementWithin_2 zw4143 ?_
  refine s_callV hZ.1 (Met_X13_placeAt hZ) (Nat.succ_le_succ (Nat.le_trans (Nat.le_of_ble_eq_true rfl) hd)) vy_X13_placeAt zcl13 zw3000 zw189 (Or.inl zw2998) dX13_statementWithin_5 ?_
  refine s_istore_n hZ.1 dX13_statementWithin_8 rfl (Nat.le_of_ble_eq_true rfl) ?_
  refine s_aload_n hZ.1 dX13_statementWithin_9 rfl ?_
  refine s_bipush dX13_statementWithin_10 (by decide +kernel) ?_
  refine s_callV hZ.1 (Met_X13_isSign hZ) (Nat.succ_le_succ (Nat.le_trans (Nat.le_of_ble_eq_true rfl) hd)) vy_X13_isSign zcl13 zw3030 zw195 (Or.inl zw3028) dX13_statementWithin_12 ?_
  exact s_if_eq dX13_statementWithin_15 (by decide) (wX13_statementWithin_24 hZ hg hd) (wX13_statementWithin_18 hZ hg hd)
noncomputable def FX13_statementWithin (g : Nat → List Nat → rx_H → Option (Nat × rx_H)) : List Nat → rx_H → Option (Nat × rx_H) := rx_ent 4 (vX13_statementWithin_0 g)
theorem Met_X13_statementWithin {dn : Nat} {g : Nat → List Nat → rx_H → Option (Nat × rx_H)} (hZ : zO b e D A X) (hg : ∀ i y M, vl9[i]? = some (y, M) → rx_Met (zV b e D A X) dn y M (g i)) (hd : 208 ≤ dn) : rx_Met (zV b e D A X) (dn + 1) yX13_statementWithin mX13_statementWithin (FX13_statementWithin g) := rx_entry hZ.1 (wX13_statementWithin_0 hZ hg hd) (by decide +kernel) rfl (fun h => by cases h)
noncomputable def vX13_tryOf_78 (g : Nat → List Nat → rx_H → Option (Nat × rx_H)) : rx_K := o_ld rx_isR 0 (o_getf 13 72 (o_ld rx_isI 2 (o_ld rx_isR 0 (o_ld rx_isI 3 (o_callV 1 13 FX13_placeAt (o_ast 0 (fun v => v) rx_isI (o_ld rx_isR 0 (o_const 328 (o_callV 1 13 FX13_wantSign (o_ld rx_isR 0 (o_getf 13 78 (o_ld rx_isI 2 (o_ld rx_isR 0 (o_callV 0 13 (g 1) (o_ast 0 (fun v => v) rx_isI (o_ld rx_isI 2 (o_ret1 rx_isI)))))))))))))))))
set_option maxRecDepth 20000 in
theorem wX13_tryOf_78 {dn : Nat} {g : Nat → List Nat → rx_H → Option (Nat × rx_H)} (hZ : zO b e D A X) (hg : ∀ i y M, vl9[i]? = some (y, M) → rx_Met (zV b e D A X) dn y M (g i)) (hd : 208 ≤ dn) : rx_OK (zV b e D A X) mX13_tryOf (dn + 1) 78 (vX13_tryOf_78 g) := by
  unfold vX13_tryOf_78
  refine s_aload_n hZ.1 dX13_tryOf_78 rfl ?_
  refine yg13_72 dX13_tryOf_79 zw4193 ?_
  refine s_iload_n hZ.1 dX13_tryOf_82 rfl ?_
  refine s_aload_n hZ.1 dX13_tryOf_83 rfl ?_
  refine s_iload_n hZ.1 dX13_tryOf_84 rfl ?_
  refine s_callV hZ.1 (Met_X13_placeAt hZ) (Nat.succ_le_succ (Nat.le_trans (Nat.le_of_ble_eq_true rfl) hd)) vy_X13_placeAt zcl13 zw3000 zw189 (Or.inl zw2998) dX13_tryOf_85 ?_
  refine s_iast hZ.1 (tt := 0) rfl dX13_tryOf_88 ?_
  refine s_aload_n hZ.1 dX13_tryOf_89 rfl ?_
  refine s_bipush dX13_tryOf_90 (by decide +kernel) ?_
  refine s_callV hZ.1 (Met_X13_wantSign hZ) (Nat.succ_le_succ (Nat.le_trans (Nat.le_of_ble_eq_true rfl) hd)) vy_X13_wantSign zcl13 zw3037 zw196 (Or.inl zw3035) dX13_tryOf_92 ?_
  refine s_aload_n hZ.1 dX13_tryOf_95 rfl ?_
  refine yg13_78 dX13_tryOf_96 zw4199 ?_
  refine s_iload_n hZ.1 dX13_tryOf_99 rfl ?_
  refine s_aload_n hZ.1 dX13_tryOf_100 rfl ?_
  refine s_callV hZ.1 (hg 1 _ _ rfl) (Nat.le_refl _) vy_X13_blockOnly zcl13 zw3145 zw218 (Or.inl zw3143) dX13_tryOf_101 ?_
  refine s_iast hZ.1 (tt := 0) rfl dX13_tryOf_104 ?_
  refine s_iload_n hZ.1 dX13_tryOf_105 rfl ?_
  exact s_iret hZ.1 rfl dX13_tryOf_106
noncomputable def vX13_tryOf_42 (g : Nat → List Nat → rx_H → Option (Nat × rx_H)) : rx_K := o_ld rx_isI 2 (o_ld rx_isR 0 (o_ld rx_isI 3 (o_callV 1 13 FX13_nameAt (o_ast 1 (fun v => v) rx_isL (o_ld rx_isR 0 (o_getf 13 73 (o_ld rx_isI 2 (o_ld rx_isR 0 (o_ld rx_isI 3 (o_callV 1 13 FX13_placeAt (o_ast 0 (fun v => v) rx_isI (o_ld rx_isR 0 (o_const 16 (o_const 0 (o_callV 2 13 FX13_want (o_st rx_isI 3 (o_ld rx_isR 0 (o_getf 13 74 (o_ld rx_isI 2 (o_ld rx_isR 0 (o_ld rx_isI 3 (o_callV 1 13 FX13_nameAt (o_ast 1 (fun v => v) rx_isL ((vX13_tryOf_78 g)))))))))))))))))))))))))
set_option maxRecDepth 20000 in
theorem wX13_tryOf_42 {dn : Nat} {g : Nat → List Nat → rx_H → Option (Nat × rx_H)} (hZ : zO b e D A X) (hg : ∀ i y M, vl9[i]? = some (y, M) → rx_Met (zV b e D A X) dn y M (g i)) (hd : 208 ≤ dn) : rx_OK (zV b e D A X) mX13_tryOf (dn + 1) 42 (vX13_tryOf_42 g) := by
  unfold vX13_tryOf_42
  refine s_iload_n hZ.1 dX13_tryOf_42 rfl ?_
  refine s_aload_n hZ.1 dX13_tryOf_43 rfl ?_
  refine s_iload_n hZ.1 dX13_tryOf_44 rfl ?_
  refine s_callV hZ.1 (Met_X13_nameAt hZ) (Nat.succ_le_succ (Nat.le_trans (Nat.le_of_ble_eq_true rfl) hd)) vy_X13_nameAt zcl13 zw2987 zw187 (Or.inl zw2985) dX13_tryOf_45 ?_
  refine s_last (tt := 1) rfl dX13_tryOf_48 ?_
  refine s_aload_n hZ.1 dX13_tryOf_49 rfl ?_
  refine yg13_73 dX13_tryOf_50 zw4194 ?_
  refine s_iload_n hZ.1 dX13_tryOf_53 rfl ?_
  refine s_aload_n hZ.1 dX13_tryOf_54 rfl ?_
  refine s_iload_n hZ.1 dX13_tryOf_55 rfl ?_
  refine s_callV hZ.1 (Met_X13_placeAt hZ) (Nat.succ_le_succ (Nat.le_trans (Nat.le_of_ble_eq_true rfl) hd)) vy_X13_placeAt zcl13 zw3000 zw189 (Or.inl zw2998) dX13_tryOf_56 ?_
  refine s_iast hZ.1 (tt := 0) rfl dX13_tryOf_59 ?_
  refine s_aload_n hZ.1 dX13_tryOf_60 rfl ?_
  refine s_iconst dX13_tryOf_61 (by decide +kernel) ?_
  refine s_iconst dX13_tryOf_62 (by decide +kernel) ?_
  refine s_callV hZ.1 (Met_X13_want hZ) (Nat.succ_le_succ (Nat.le_trans (Nat.le_of_ble_eq_true rfl) hd)) vy_X13_want zcl13 zw3020 zw193 (Or.inl zw3018) dX13_tryOf_63 ?_
  refine s_istore_n hZ.1 dX13_tryOf_66 rfl (Nat.le_of_ble_eq_true rfl) ?_
  refine s_aload_n hZ.1 dX13_tryOf_67 rfl ?_
  refine yg13_74 dX13_tryOf_68 zw4195 ?_
  refine s_iload_n hZ.1 dX13_tryOf_71 rfl ?_
  refine s_aload_n hZ.1 dX13_tryOf_72 rfl ?_
  refine s_iload_n hZ.1 dX13_tryOf_73 rfl ?_
  refine s_callV hZ.1 (Met_X13_nameAt hZ) (Nat.succ_le_succ (Nat.le_trans (Nat.le_of_ble_eq_true rfl) hd)) vy_X13_nameAt zcl13 zw2987 zw187 (Or.inl zw2985) dX13_tryOf_74 ?_
  refine s_last (tt := 1) rfl dX13_tryOf_77 ?_
  exact (wX13_tryOf_78 hZ hg hd)
noncomputable def vX13_tryOf_0 (g : Nat → List Nat → rx_H → Option (Nat × rx_H)) : rx_K := o_ld rx_isR 0 (o_const 208 (o_ld rx_isI 1 (o_callV 2 13 FX13_node (o_st rx_isI 2 (o_ld rx_isR 0 (o_getf 13 77 (o_ld rx_isI 2 (o_ld rx_isR 0 (o_callV 0 13 (g 1) (o_ast 0 (fun v => v) rx_isI (o_ld rx_isR 0 (o_const 948 (o_callV 1 13 FX13_wantWord (o_ld rx_isR 0 (o_const 320 (o_callV 1 13 FX13_wantSign (o_ld rx_isR 0 (o_const 8 (o_const 0 (o_callV 2 13 FX13_want (o_st rx_isI 3 (o_ld rx_isR 0 (o_getf 13 75 ((vX13_tryOf_42 g)))))))))))))))))))))))))
set_option maxRecDepth 20000 in
theorem wX13_tryOf_0 {dn : Nat} {g : Nat → List Nat → rx_H → Option (Nat × rx_H)} (hZ : zO b e D A X) (hg : ∀ i y M, vl9[i]? = some (y, M) → rx_Met (zV b e D A X) dn y M (g i)) (hd : 208 ≤ dn) : rx_OK (zV b e D A X) mX13_tryOf (dn + 1) 0 (vX13_tryOf_0 g) := by
  unfold vX13_tryOf_0
  refine s_aload_n hZ.1 dX13_tryOf_0 rfl ?_
  refine s_bipush dX13_tryOf_1 (by decide +kernel) ?_
  refine s_iload_n hZ.1 dX13_tryOf_3 rfl ?_
  refine s_callV hZ.1 (Met_X13_node hZ) (Nat.succ_le_succ (Nat.le_trans (Nat.le_of_ble_eq_true rfl) hd)) vy_X13_node zcl13 zw3103 zw208 (Or.inl zw3101) dX13_tryOf_4 ?_
  refine s_istore_n hZ.1 dX13_tryOf_7 rfl (Nat.le_of_ble_eq_true rfl) ?_
  refine s_aload_n hZ.1 dX13_tryOf_8 rfl ?_
  refine yg13_77 dX13_tryOf_9 zw4198 ?_
  refine s_iload_n hZ.1 dX13_tryOf_12 rfl ?_
  refine s_aload_n hZ.1 dX13_tryOf_13 rfl ?_
  refine s_callV hZ.1 (hg 1 _ _ rfl) (Nat.le_refl _) vy_X13_blockOnly zcl13 zw3145 zw218 (Or.inl zw3143) dX13_tryOf_14 ?_
  refine s_iast hZ.1 (tt := 0) rfl dX13_tryOf_17 ?_
  refine s_aload_n hZ.1 dX13_tryOf_18 rfl ?_
  refine s_ldcwS (k := 118) (zo_R118 hZ) dX13_tryOf_19 ?_
  refine s_callV hZ.1 (Met_X13_wantWord hZ) (Nat.succ_le_succ (Nat.le_trans (Nat.le_of_ble_eq_true rfl) hd)) vy_X13_wantWord zcl13 zw3012 zw191 (Or.inl zw3010) dX13_tryOf_22 ?_
  refine s_aload_n hZ.1 dX13_tryOf_25 rfl ?_
  refine s_bipush dX13_tryOf_26 (by decide +kernel) ?_
  refine s_callV hZ.1 (Met_X13_wantSign hZ) (Nat.succ_le_succ (Nat.le_trans (Nat.le_of_ble_eq_true rfl) hd)) vy_X13_wantSign zcl13 zw3037 zw196 (Or.inl zw3035) dX13_tryOf_28 ?_
  refine s_aload_n hZ.1 dX13_tryOf_31 rfl ?_
  refine s_iconst dX13_tryOf_32 (by decide +kernel) ?_
  refine s_iconst dX13_tryOf_33 (by decide +kernel) ?_
  refine s_callV hZ.1 (Met_X13_want hZ) (Nat.succ_le_succ (Nat.le_trans (Nat.le_of_ble_eq_true rfl) hd)) vy_X13_want zcl13 zw3020 zw193 (Or.inl zw3018) dX13_tryOf_34 ?_
  refine s_istore_n hZ.1 dX13_tryOf_37 rfl (Nat.le_of_ble_eq_true rfl) ?_
  refine s_aload_n hZ.1 dX13_tryOf_38 rfl ?_
  refine yg13_75 dX13_tryOf_39 zw4196 ?_
  exact (wX13_tryOf_42 hZ hg hd)
noncomputable def FX13_tryOf (g : Nat → List Nat → rx_H → Option (Nat × rx_H)) : List Nat → rx_H → Option (Nat × rx_H) := rx_ent 4 (vX13_tryOf_0 g)
theorem Met_X13_tryOf {dn : Nat} {g : Nat → List Nat → rx_H → Option (Nat × rx_H)} (hZ : zO b e D A X) (hg : ∀ i y M, vl9[i]? = some (y, M) → rx_Met (zV b e D A X) dn y M (g i)) (hd : 208 ≤ dn) : rx_Met (zV b e D A X) (dn + 1) yX13_tryOf mX13_tryOf (FX13_tryOf g) := rx_entry hZ.1 (wX13_tryOf_0 hZ hg hd) (by decide +kernel) rfl (fun h => by cases h)
noncomputable def q9 (n : Nat) : Nat → List Nat → rx_H → Option (Nat × rx_H) := Nat.rec (fun _ _ _ => none) (fun _ ih i => rx_nth [FX13_block ih, FX13_blockOnly ih, FX13_statement ih, FX13_statementWithin ih, FX13_tryOf ih] i (fun _ _ => none)) n
theorem q9_ok (hZ : zO b e D A X) : ∀ n i y M, vl9[i]? = some (y, M) → rx_Met (zV b e D A X) (208 + n) y M (q9 n i)
  | 0 => fun i y M _ As h r h2 hf => by cases hf
  | n + 1 => fun i y M h => by
    match i, h with
    | 0, h => cases h; exact Met_X13_block hZ (q9_ok hZ n) (Nat.le_add_right 208 n)
    | 1, h => cases h; exact Met_X13_blockOnly hZ (q9_ok hZ n) (Nat.le_add_right 208 n)
    | 2, h => cases h; exact Met_X13_statement hZ (q9_ok hZ n) (Nat.le_add_right 208 n)
    | 3, h => cases h; exact Met_X13_statementWithin hZ (q9_ok hZ n) (Nat.le_add_right 208 n)
    | 4, h => cases h; exact Met_X13_tryOf hZ (q9_ok hZ n) (Nat.le_add_right 208 n)
    | _ + 5, h => exact absurd h (by simp)
abbrev mX13_body : rx_M := (RX13, cX13_body, 2, none, false)
theorem vy_X13_body : rx_Y (zV b e D A X) yX13_body mX13_body 1 := ⟨zw3070, zw431, by decide, by decide +kernel, by decide +kernel, by decide +kernel⟩
noncomputable def vX13_body_51 : rx_K := o_ast 0 (fun v => v) rx_isI (o_ld rx_isR 0 (o_getf 13 63 (o_ld rx_isI 1 (o_ld rx_isR 0 (o_getf 13 22 (o_ast 0 (fun v => v) rx_isI (o_ret0)))))))
set_option maxRecDepth 20000 in
theorem wX13_body_51 (hZ : zO b e D A X) : rx_OK (zV b e D A X) mX13_body 409 51 vX13_body_51 := by
  unfold vX13_body_51
  refine s_iast hZ.1 (tt := 0) rfl dX13_body_51 ?_
  refine s_aload_n hZ.1 dX13_body_52 rfl ?_
  refine yg13_63 dX13_body_53 zw4184 ?_
  refine s_iload_n hZ.1 dX13_body_56 rfl ?_
  refine s_aload_n hZ.1 dX13_body_57 rfl ?_
  refine yg13_22 dX13_body_58 zw4143 ?_
  refine s_iast hZ.1 (tt := 0) rfl dX13_body_61 ?_
  exact s_vret rfl dX13_body_62
noncomputable def vX13_body_49 : rx_K := o_const 34359738352 (vX13_body_51)
set_option maxRecDepth 20000 in
theorem wX13_body_49 (hZ : zO b e D A X) : rx_OK (zV b e D A X) mX13_body 409 49 vX13_body_49 := by
  unfold vX13_body_49
  refine s_bipush dX13_body_49 (by decide +kernel) ?_
  exact (wX13_body_51 hZ)
noncomputable def vX13_body_42 : rx_K := o_ld rx_isR 0 (o_callV 0 13 (q9 200 2) (vX13_body_51))
set_option maxRecDepth 20000 in
theorem wX13_body_42 (hZ : zO b e D A X) : rx_OK (zV b e D A X) mX13_body 409 42 vX13_body_42 := by
  unfold vX13_body_42
  refine s_aload_n hZ.1 dX13_body_42 rfl ?_
  refine s_callV hZ.1 (q9_ok hZ 200 2 _ _ rfl) (Nat.le_of_ble_eq_true rfl) vy_X13_statement zcl13 zw3073 zw203 (Or.inl zw3071) dX13_body_43 ?_
  exact s_goto dX13_body_46 (by decide) (wX13_body_51 hZ)
noncomputable def vX13_body_30 : rx_K := o_ld rx_isR 0 (o_getf 13 61 (o_ld rx_isI 1 (o_ld rx_isR 0 (o_getf 13 20 (o_c1 rx_eq vX13_body_42 vX13_body_49)))))
set_option maxRecDepth 20000 in
theorem wX13_body_30 (hZ : zO b e D A X) : rx_OK (zV b e D A X) mX13_body 409 30 vX13_body_30 := by
  unfold vX13_body_30
  refine s_aload_n hZ.1 dX13_body_30 rfl ?_
  refine yg13_61 dX13_body_31 zw4182 ?_
  refine s_iload_n hZ.1 dX13_body_34 rfl ?_
  refine s_aload_n hZ.1 dX13_body_35 rfl ?_
  refine yg13_20 dX13_body_36 zw4141 ?_
  exact s_if_ne dX13_body_39 (by decide) (wX13_body_49 hZ) (wX13_body_42 hZ)
noncomputable def vX13_body_26 : rx_K := o_ld rx_isR 0 (o_callV 0 13 FX13_wrong (vX13_body_30))
set_option maxRecDepth 20000 in
theorem wX13_body_26 (hZ : zO b e D A X) : rx_OK (zV b e D A X) mX13_body 409 26 vX13_body_26 := by
  unfold vX13_body_26
  refine s_aload_n hZ.1 dX13_body_26 rfl ?_
  refine s_callV hZ.1 (Met_X13_wrong hZ) (Nat.le_of_ble_eq_true rfl) vy_X13_wrong zcl13 zw3016 zw192 (Or.inl zw3014) dX13_body_27 ?_
  exact (wX13_body_30 hZ)
noncomputable def vX13_body_17 : rx_K := o_ld rx_isR 0 (o_const 984 (o_callV 1 13 FX13_isSign (o_c1 rx_eq vX13_body_26 vX13_body_30)))
set_option maxRecDepth 20000 in
theorem wX13_body_17 (hZ : zO b e D A X) : rx_OK (zV b e D A X) mX13_body 409 17 vX13_body_17 := by
  unfold vX13_body_17
  refine s_aload_n hZ.1 dX13_body_17 rfl ?_
  refine s_bipush dX13_body_18 (by decide +kernel) ?_
  refine s_callV hZ.1 (Met_X13_isSign hZ) (Nat.le_of_ble_eq_true rfl) vy_X13_isSign zcl13 zw3030 zw195 (Or.inl zw3028) dX13_body_20 ?_
  exact s_if_ne dX13_body_23 (by decide) (wX13_body_30 hZ) (wX13_body_26 hZ)
noncomputable def vX13_body_0 : rx_K := o_ld rx_isR 0 (o_getf 13 62 (o_ld rx_isI 1 (o_ld rx_isR 0 (o_getf 13 22 (o_ast 0 (fun v => v) rx_isI (o_ld rx_isR 0 (o_getf 13 20 (o_c1 rx_eq vX13_body_17 vX13_body_30))))))))
set_option maxRecDepth 20000 in
theorem wX13_body_0 (hZ : zO b e D A X) : rx_OK (zV b e D A X) mX13_body 409 0 vX13_body_0 := by
  unfold vX13_body_0
  refine s_aload_n hZ.1 dX13_body_0 rfl ?_
  refine yg13_62 dX13_body_1 zw4183 ?_
  refine s_iload_n hZ.1 dX13_body_4 rfl ?_
  refine s_aload_n hZ.1 dX13_body_5 rfl ?_
  refine yg13_22 dX13_body_6 zw4143 ?_
  refine s_iast hZ.1 (tt := 0) rfl dX13_body_9 ?_
  refine s_aload_n hZ.1 dX13_body_10 rfl ?_
  refine yg13_20 dX13_body_11 zw4141 ?_
  exact s_if_ne dX13_body_14 (by decide) (wX13_body_30 hZ) (wX13_body_17 hZ)
noncomputable def FX13_body : List Nat → rx_H → Option (Nat × rx_H) := rx_ent 2 vX13_body_0
theorem Met_X13_body (hZ : zO b e D A X) : rx_Met (zV b e D A X) 409 yX13_body mX13_body (FX13_body) := rx_entry hZ.1 (wX13_body_0 hZ) (by decide +kernel) rfl (fun h => by cases h)
abbrev mX13_effects : rx_M := (RX13, cX13_effects, 4, none, false)
theorem vy_X13_effects : rx_Y (zV b e D A X) yX13_effects mX13_effects 2 := ⟨zw3159, zw431, by decide, by decide +kernel, by decide +kernel, by decide +kernel⟩
noncomputable def vX13_effects_174 : rx_K := o_ret0
set_option maxRecDepth 20000 in
theorem wX13_effects_174 (hZ : zO b e D A X) : rx_OK (zV b e D A X) mX13_effects 0 174 vX13_effects_174 := by
  unfold vX13_effects_174
  exact s_vret rfl dX13_effects_174
noncomputable def vX13_effects_153 : rx_K := o_ld rx_isR 0 (o_getf 13 45 (o_ld rx_isI 2 (o_const 8 (o_ast 3 (fun v => v) rx_isZ (o_ld rx_isR 0 (o_getf 13 46 (o_ld rx_isI 2 (o_const 8 (o_ast 3 (fun v => v) rx_isZ (o_ld rx_isR 0 (o_getf 13 44 (o_ld rx_isI 2 (o_const 24 (o_ast 0 (fun v => v) rx_isI (vX13_effects_174)))))))))))))))
set_option maxRecDepth 20000 in
theorem wX13_effects_153 (hZ : zO b e D A X) : rx_OK (zV b e D A X) mX13_effects 0 153 vX13_effects_153 := by
  unfold vX13_effects_153
  refine s_aload_n hZ.1 dX13_effects_153 rfl ?_
  refine yg13_45 dX13_effects_154 zw4166 ?_
  refine s_iload_n hZ.1 dX13_effects_157 rfl ?_
  refine s_iconst dX13_effects_158 (by decide +kernel) ?_
  refine s_zast (tt := 3) rfl dX13_effects_159 ?_
  refine s_aload_n hZ.1 dX13_effects_160 rfl ?_
  refine yg13_46 dX13_effects_161 zw4167 ?_
  refine s_iload_n hZ.1 dX13_effects_164 rfl ?_
  refine s_iconst dX13_effects_165 (by decide +kernel) ?_
  refine s_zast (tt := 3) rfl dX13_effects_166 ?_
  refine s_aload_n hZ.1 dX13_effects_167 rfl ?_
  refine yg13_44 dX13_effects_168 zw4165 ?_
  refine s_iload_n hZ.1 dX13_effects_171 rfl ?_
  refine s_iconst dX13_effects_172 (by decide +kernel) ?_
  refine s_iast hZ.1 (tt := 0) rfl dX13_effects_173 ?_
  exact (wX13_effects_174 hZ)
noncomputable def vX13_effects_144 : rx_K := o_ld rx_isR 0 (o_getf 13 42 (o_ld rx_isI 2 (o_ald 0 (o_c1 rx_eq vX13_effects_153 vX13_effects_174))))
set_option maxRecDepth 20000 in
theorem wX13_effects_144 (hZ : zO b e D A X) : rx_OK (zV b e D A X) mX13_effects 0 144 vX13_effects_144 := by
  unfold vX13_effects_144
  refine s_aload_n hZ.1 dX13_effects_144 rfl ?_
  refine yg13_42 dX13_effects_145 zw4163 ?_
  refine s_iload_n hZ.1 dX13_effects_148 rfl ?_
  refine s_iald (tt := 0) rfl dX13_effects_149 ?_
  exact s_if_ne dX13_effects_150 (by decide) (wX13_effects_174 hZ) (wX13_effects_153 hZ)
noncomputable def vX13_effects_139 : rx_K := o_ast 3 (fun v => v) rx_isZ (o_ld rx_isI 3 (o_c1 rx_eq vX13_effects_174 vX13_effects_144))
set_option maxRecDepth 20000 in
theorem wX13_effects_139 (hZ : zO b e D A X) : rx_OK (zV b e D A X) mX13_effects 0 139 vX13_effects_139 := by
  unfold vX13_effects_139
  refine s_zast (tt := 3) rfl dX13_effects_139 ?_
  refine s_iload_n hZ.1 dX13_effects_140 rfl ?_
  exact s_if_eq dX13_effects_141 (by decide) (wX13_effects_174 hZ) (wX13_effects_144 hZ)
noncomputable def vX13_effects_138 : rx_K := o_const 0 (vX13_effects_139)
set_option maxRecDepth 20000 in
theorem wX13_effects_138 (hZ : zO b e D A X) : rx_OK (zV b e D A X) mX13_effects 0 138 vX13_effects_138 := by
  unfold vX13_effects_138
  refine s_iconst dX13_effects_138 (by decide +kernel) ?_
  exact (wX13_effects_139 hZ)
noncomputable def vX13_effects_134 : rx_K := o_const 8 (vX13_effects_139)
set_option maxRecDepth 20000 in
theorem wX13_effects_134 (hZ : zO b e D A X) : rx_OK (zV b e D A X) mX13_effects 0 134 vX13_effects_134 := by
  unfold vX13_effects_134
  refine s_iconst dX13_effects_134 (by decide +kernel) ?_
  exact s_goto dX13_effects_135 (by decide) (wX13_effects_139 hZ)
noncomputable def vX13_effects_125 : rx_K := o_ld rx_isR 0 (o_getf 13 48 (o_ld rx_isI 2 (o_ald 3 (o_c1 rx_eq vX13_effects_138 vX13_effects_134))))
set_option maxRecDepth 20000 in
theorem wX13_effects_125 (hZ : zO b e D A X) : rx_OK (zV b e D A X) mX13_effects 0 125 vX13_effects_125 := by
  unfold vX13_effects_125
  refine s_aload_n hZ.1 dX13_effects_125 rfl ?_
  refine yg13_48 dX13_effects_126 zw4169 ?_
  refine s_iload_n hZ.1 dX13_effects_129 rfl ?_
  refine s_zald (tt := 3) rfl dX13_effects_130 ?_
  exact s_if_eq dX13_effects_131 (by decide) (wX13_effects_138 hZ) (wX13_effects_134 hZ)
noncomputable def vX13_effects_122 : rx_K := vX13_effects_134
set_option maxRecDepth 20000 in
theorem wX13_effects_122 (hZ : zO b e D A X) : rx_OK (zV b e D A X) mX13_effects 0 122 vX13_effects_122 := by
  unfold vX13_effects_122
  exact s_goto dX13_effects_122 (by decide) (wX13_effects_134 hZ)
noncomputable def vX13_effects_111 : rx_K := o_ld rx_isR 0 (o_getf 13 61 (o_ld rx_isI 2 (o_ald 0 (o_const 34359738352 (o_c2 rx_eq vX13_effects_122 vX13_effects_138)))))
set_option maxRecDepth 20000 in
theorem wX13_effects_111 (hZ : zO b e D A X) : rx_OK (zV b e D A X) mX13_effects 0 111 vX13_effects_111 := by
  unfold vX13_effects_111
  refine s_aload_n hZ.1 dX13_effects_111 rfl ?_
  refine yg13_61 dX13_effects_112 zw4182 ?_
  refine s_iload_n hZ.1 dX13_effects_115 rfl ?_
  refine s_iald (tt := 0) rfl dX13_effects_116 ?_
  refine s_bipush dX13_effects_117 (by decide +kernel) ?_
  exact s_icmp_ne dX13_effects_119 (by decide) (wX13_effects_138 hZ) (wX13_effects_122 hZ)
noncomputable def vX13_effects_107 : rx_K := o_ld rx_isI 3 (o_c1 rx_eq vX13_effects_125 vX13_effects_111)
set_option maxRecDepth 20000 in
theorem wX13_effects_107 (hZ : zO b e D A X) : rx_OK (zV b e D A X) mX13_effects 0 107 vX13_effects_107 := by
  unfold vX13_effects_107
  refine s_iload_n hZ.1 dX13_effects_107 rfl ?_
  exact s_if_eq dX13_effects_108 (by decide) (wX13_effects_125 hZ) (wX13_effects_111 hZ)
noncomputable def vX13_effects_91 : rx_K := o_ast 0 (fun v => v) rx_isI (o_ld rx_isR 0 (o_getf 13 47 (o_ld rx_isI 2 (o_ld rx_isR 0 (o_getf 13 42 (o_ld rx_isI 2 (o_ald 0 (o_const 8 (o_c2 rx_eq vX13_effects_107 vX13_effects_138)))))))))
set_option maxRecDepth 20000 in
theorem wX13_effects_91 (hZ : zO b e D A X) : rx_OK (zV b e D A X) mX13_effects 0 91 vX13_effects_91 := by
  unfold vX13_effects_91
  refine s_iast hZ.1 (tt := 0) rfl dX13_effects_91 ?_
  refine s_aload_n hZ.1 dX13_effects_92 rfl ?_
  refine yg13_47 dX13_effects_93 zw4168 ?_
  refine s_iload_n hZ.1 dX13_effects_96 rfl ?_
  refine s_aload_n hZ.1 dX13_effects_97 rfl ?_
  refine yg13_42 dX13_effects_98 zw4163 ?_
  refine s_iload_n hZ.1 dX13_effects_101 rfl ?_
  refine s_iald (tt := 0) rfl dX13_effects_102 ?_
  refine s_iconst dX13_effects_103 (by decide +kernel) ?_
  exact s_icmp_ne dX13_effects_104 (by decide) (wX13_effects_138 hZ) (wX13_effects_107 hZ)
noncomputable def vX13_effects_90 : rx_K := o_const 8 (vX13_effects_91)
set_option maxRecDepth 20000 in
theorem wX13_effects_90 (hZ : zO b e D A X) : rx_OK (zV b e D A X) mX13_effects 0 90 vX13_effects_90 := by
  unfold vX13_effects_90
  refine s_iconst dX13_effects_90 (by decide +kernel) ?_
  exact (wX13_effects_91 hZ)
noncomputable def vX13_effects_86 : rx_K := o_const 24 (vX13_effects_91)
set_option maxRecDepth 20000 in
theorem wX13_effects_86 (hZ : zO b e D A X) : rx_OK (zV b e D A X) mX13_effects 0 86 vX13_effects_86 := by
  unfold vX13_effects_86
  refine s_iconst dX13_effects_86 (by decide +kernel) ?_
  exact s_goto dX13_effects_87 (by decide) (wX13_effects_91 hZ)
noncomputable def vX13_effects_76 : rx_K := o_ld rx_isR 0 (o_getf 13 42 (o_ld rx_isI 2 (o_ald 0 (o_const 8 (o_c2 rx_eq vX13_effects_86 vX13_effects_90)))))
set_option maxRecDepth 20000 in
theorem wX13_effects_76 (hZ : zO b e D A X) : rx_OK (zV b e D A X) mX13_effects 0 76 vX13_effects_76 := by
  unfold vX13_effects_76
  refine s_aload_n hZ.1 dX13_effects_76 rfl ?_
  refine yg13_42 dX13_effects_77 zw4163 ?_
  refine s_iload_n hZ.1 dX13_effects_80 rfl ?_
  refine s_iald (tt := 0) rfl dX13_effects_81 ?_
  refine s_iconst dX13_effects_82 (by decide +kernel) ?_
  exact s_icmp_ne dX13_effects_83 (by decide) (wX13_effects_90 hZ) (wX13_effects_86 hZ)
noncomputable def vX13_effects_67 : rx_K := o_ld rx_isR 0 (o_getf 13 42 (o_ld rx_isI 2 (o_ald 0 (o_c1 rx_eq vX13_effects_86 vX13_effects_76))))
set_option maxRecDepth 20000 in
theorem wX13_effects_67 (hZ : zO b e D A X) : rx_OK (zV b e D A X) mX13_effects 0 67 vX13_effects_67 := by
  unfold vX13_effects_67
  refine s_aload_n hZ.1 dX13_effects_67 rfl ?_
  refine yg13_42 dX13_effects_68 zw4163 ?_
  refine s_iload_n hZ.1 dX13_effects_71 rfl ?_
  refine s_iald (tt := 0) rfl dX13_effects_72 ?_
  exact s_if_eq dX13_effects_73 (by decide) (wX13_effects_86 hZ) (wX13_effects_76 hZ)
noncomputable def vX13_effects_63 : rx_K := o_ld rx_isI 3 (o_c1 rx_eq vX13_effects_90 vX13_effects_67)
set_option maxRecDepth 20000 in
theorem wX13_effects_63 (hZ : zO b e D A X) : rx_OK (zV b e D A X) mX13_effects 0 63 vX13_effects_63 := by
  unfold vX13_effects_63
  refine s_iload_n hZ.1 dX13_effects_63 rfl ?_
  exact s_if_eq dX13_effects_64 (by decide) (wX13_effects_90 hZ) (wX13_effects_67 hZ)
noncomputable def vX13_effects_59 : rx_K := o_const 0 (vX13_effects_91)
set_option maxRecDepth 20000 in
theorem wX13_effects_59 (hZ : zO b e D A X) : rx_OK (zV b e D A X) mX13_effects 0 59 vX13_effects_59 := by
  unfold vX13_effects_59
  refine s_iconst dX13_effects_59 (by decide +kernel) ?_
  exact s_goto dX13_effects_60 (by decide) (wX13_effects_91 hZ)
noncomputable def vX13_effects_49 : rx_K := o_ld rx_isR 0 (o_getf 13 43 (o_ld rx_isI 2 (o_ald 0 (o_const 24 (o_c2 rx_eq vX13_effects_59 vX13_effects_63)))))
set_option maxRecDepth 20000 in
theorem wX13_effects_49 (hZ : zO b e D A X) : rx_OK (zV b e D A X) mX13_effects 0 49 vX13_effects_49 := by
  unfold vX13_effects_49
  refine s_aload_n hZ.1 dX13_effects_49 rfl ?_
  refine yg13_43 dX13_effects_50 zw4164 ?_
  refine s_iload_n hZ.1 dX13_effects_53 rfl ?_
  refine s_iald (tt := 0) rfl dX13_effects_54 ?_
  refine s_iconst dX13_effects_55 (by decide +kernel) ?_
  exact s_icmp_ne dX13_effects_56 (by decide) (wX13_effects_63 hZ) (wX13_effects_59 hZ)
noncomputable def vX13_effects_45 : rx_K := o_const 16 (vX13_effects_91)
set_option maxRecDepth 20000 in
theorem wX13_effects_45 (hZ : zO b e D A X) : rx_OK (zV b e D A X) mX13_effects 0 45 vX13_effects_45 := by
  unfold vX13_effects_45
  refine s_iconst dX13_effects_45 (by decide +kernel) ?_
  exact s_goto dX13_effects_46 (by decide) (wX13_effects_91 hZ)
noncomputable def vX13_effects_35 : rx_K := o_ld rx_isR 0 (o_getf 13 43 (o_ld rx_isI 2 (o_ald 0 (o_const 16 (o_c2 rx_eq vX13_effects_45 vX13_effects_49)))))
set_option maxRecDepth 20000 in
theorem wX13_effects_35 (hZ : zO b e D A X) : rx_OK (zV b e D A X) mX13_effects 0 35 vX13_effects_35 := by
  unfold vX13_effects_35
  refine s_aload_n hZ.1 dX13_effects_35 rfl ?_
  refine yg13_43 dX13_effects_36 zw4164 ?_
  refine s_iload_n hZ.1 dX13_effects_39 rfl ?_
  refine s_iald (tt := 0) rfl dX13_effects_40 ?_
  refine s_iconst dX13_effects_41 (by decide +kernel) ?_
  exact s_icmp_ne dX13_effects_42 (by decide) (wX13_effects_49 hZ) (wX13_effects_45 hZ)
noncomputable def vX13_effects_31 : rx_K := o_const 24 (vX13_effects_91)
set_option maxRecDepth 20000 in
theorem wX13_effects_31 (hZ : zO b e D A X) : rx_OK (zV b e D A X) mX13_effects 0 31 vX13_effects_31 := by
  unfold vX13_effects_31
  refine s_iconst dX13_effects_31 (by decide +kernel) ?_
  exact s_goto dX13_effects_32 (by decide) (wX13_effects_91 hZ)
noncomputable def vX13_effects_15 : rx_K := o_st rx_isI 3 (o_ld rx_isR 0 (o_getf 13 44 (o_ld rx_isI 2 (o_ld rx_isR 0 (o_getf 13 43 (o_ld rx_isI 2 (o_ald 0 (o_const 8 (o_c2 rx_eq vX13_effects_31 vX13_effects_35)))))))))
set_option maxRecDepth 20000 in
theorem wX13_effects_15 (hZ : zO b e D A X) : rx_OK (zV b e D A X) mX13_effects 0 15 vX13_effects_15 := by
  unfold vX13_effects_15
  refine s_istore_n hZ.1 dX13_effects_15 rfl (Nat.le_of_ble_eq_true rfl) ?_
  refine s_aload_n hZ.1 dX13_effects_16 rfl ?_
  refine yg13_44 dX13_effects_17 zw4165 ?_
  refine s_iload_n hZ.1 dX13_effects_20 rfl ?_
  refine s_aload_n hZ.1 dX13_effects_21 rfl ?_
  refine yg13_43 dX13_effects_22 zw4164 ?_
  refine s_iload_n hZ.1 dX13_effects_25 rfl ?_
  refine s_iald (tt := 0) rfl dX13_effects_26 ?_
  refine s_iconst dX13_effects_27 (by decide +kernel) ?_
  exact s_icmp_ne dX13_effects_28 (by decide) (wX13_effects_35 hZ) (wX13_effects_31 hZ)
noncomputable def vX13_effects_14 : rx_K := o_const 0 (vX13_effects_15)
set_option maxRecDepth 20000 in
theorem wX13_effects_14 (hZ : zO b e D A X) : rx_OK (zV b e D A X) mX13_effects 0 14 vX13_effects_14 := by
  unfold vX13_effects_14
  refine s_iconst dX13_effects_14 (by decide +kernel) ?_
  exact (wX13_effects_15 hZ)
noncomputable def vX13_effects_10 : rx_K := o_const 8 (vX13_effects_15)
set_option maxRecDepth 20000 in
theorem wX13_effects_10 (hZ : zO b e D A X) : rx_OK (zV b e D A X) mX13_effects 0 10 vX13_effects_10 := by
  unfold vX13_effects_10
  refine s_iconst dX13_effects_10 (by decide +kernel) ?_
  exact s_goto dX13_effects_11 (by decide) (wX13_effects_15 hZ)
noncomputable def vX13_effects_0 : rx_K := o_ld rx_isR 0 (o_getf 13 27 (o_ld rx_isI 1 (o_ald 0 (o_const 24 (o_c2 rx_eq vX13_effects_10 vX13_effects_14)))))
set_option maxRecDepth 20000 in
theorem wX13_effects_0 (hZ : zO b e D A X) : rx_OK (zV b e D A X) mX13_effects 0 0 vX13_effects_0 := by
  unfold vX13_effects_0
  refine s_aload_n hZ.1 dX13_effects_0 rfl ?_
  refine yg13_27 dX13_effects_1 zw4148 ?_
  refine s_iload_n hZ.1 dX13_effects_4 rfl ?_
  refine s_iald (tt := 0) rfl dX13_effects_5 ?_
  refine s_iconst dX13_effects_6 (by decide +kernel) ?_
  exact s_icmp_ne dX13_effects_7 (by decide) (wX13_effects_14 hZ) (wX13_effects_10 hZ)
noncomputable def FX13_effects : List Nat → rx_H → Option (Nat × rx_H) := rx_ent 4 vX13_effects_0
theorem Met_X13_effects (hZ : zO b e D A X) : rx_Met (zV b e D A X) 0 yX13_effects mX13_effects (FX13_effects) := rx_entry hZ.1 (wX13_effects_0 hZ) (by decide +kernel) rfl (fun h => by cases h)
end ZM42

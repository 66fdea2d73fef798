section ZM69
variable {b : Nat} {e : Nat → Value} {D : va_G} {A : Nat → ClassId} {X : State → Prop}
abbrev mX13_compareHeads : rx_M := (RX13, cX13_compareHeads, 10, none, false)
theorem vy_X13_compareHeads : rx_Y (zV b e D A X) yX13_compareHeads mX13_compareHeads 2 := ⟨zw4005, zw431, by decide, by decide +kernel, by decide +kernel, by decide +kernel⟩
noncomputable def vX13_compareHeads_516 (j : Nat → rx_K) : rx_K := o_ret0
set_option maxRecDepth 20000 in
theorem wX13_compareHeads_516 (hZ : zO b e D A X) (j : Nat → rx_K) (hj : ∀ k pc, [189, 251, 379][k]? = some pc → rx_OK (zV b e D A X) mX13_compareHeads 4 pc (j k)) : rx_OK (zV b e D A X) mX13_compareHeads 4 516 (vX13_compareHeads_516 j) := by
  unfold vX13_compareHeads_516
  exact s_vret rfl dX13_compareHeads_516
noncomputable def vX13_compareHeads_507 (j : Nat → rx_K) : rx_K := o_ld rx_isI 1 (o_ld rx_isI 2 (o_const 34359738352 (o_const 34359738352 (o_callV 5 13 FX13_differs ((vX13_compareHeads_516 j))))))
set_option maxRecDepth 20000 in
theorem wX13_compareHeads_507 (hZ : zO b e D A X) (j : Nat → rx_K) (hj : ∀ k pc, [189, 251, 379][k]? = some pc → rx_OK (zV b e D A X) mX13_compareHeads 4 pc (j k)) : rx_OK (zV b e D A X) mX13_compareHeads 4 507 (vX13_compareHeads_507 j) := by
  unfold vX13_compareHeads_507
  refine s_iload_n hZ.1 dX13_compareHeads_507 rfl ?_
  refine s_iload_n hZ.1 dX13_compareHeads_508 rfl ?_
  refine s_bipush dX13_compareHeads_509 (by decide +kernel) ?_
  refine s_bipush dX13_compareHeads_511 (by decide +kernel) ?_
  refine s_callV hZ.1 (Met_X13_differs hZ) (Nat.le_of_ble_eq_true rfl) vy_X13_differs zcl13 zw3996 zw387 (Or.inl zw3994) dX13_compareHeads_513 ?_
  exact (wX13_compareHeads_516 hZ j hj)
noncomputable def vX13_compareHeads_505 (j : Nat → rx_K) : rx_K := o_const 112 ((vX13_compareHeads_507 j))
set_option maxRecDepth 20000 in
theorem wX13_compareHeads_505 (hZ : zO b e D A X) (j : Nat → rx_K) (hj : ∀ k pc, [189, 251, 379][k]? = some pc → rx_OK (zV b e D A X) mX13_compareHeads 4 pc (j k)) : rx_OK (zV b e D A X) mX13_compareHeads 4 505 (vX13_compareHeads_505 j) := by
  unfold vX13_compareHeads_505
  refine s_bipush dX13_compareHeads_505 (by decide +kernel) ?_
  exact (wX13_compareHeads_507 hZ j hj)
noncomputable def vX13_compareHeads_500 (j : Nat → rx_K) : rx_K := o_const 104 ((vX13_compareHeads_507 j))
set_option maxRecDepth 20000 in
theorem wX13_compareHeads_500 (hZ : zO b e D A X) (j : Nat → rx_K) (hj : ∀ k pc, [189, 251, 379][k]? = some pc → rx_OK (zV b e D A X) mX13_compareHeads 4 pc (j k)) : rx_OK (zV b e D A X) mX13_compareHeads 4 500 (vX13_compareHeads_500 j) := by
  unfold vX13_compareHeads_500
  refine s_bipush dX13_compareHeads_500 (by decide +kernel) ?_
  exact s_goto dX13_compareHeads_502 (by decide) (wX13_compareHeads_507 hZ j hj)
noncomputable def vX13_compareHeads_495 (j : Nat → rx_K) : rx_K := o_ld rx_isI 7 (o_c1 rx_eq (vX13_compareHeads_505 j) (vX13_compareHeads_500 j))
set_option maxRecDepth 20000 in
theorem wX13_compareHeads_495 (hZ : zO b e D A X) (j : Nat → rx_K) (hj : ∀ k pc, [189, 251, 379][k]? = some pc → rx_OK (zV b e D A X) mX13_compareHeads 4 pc (j k)) : rx_OK (zV b e D A X) mX13_compareHeads 4 495 (vX13_compareHeads_495 j) := by
  unfold vX13_compareHeads_495
  refine s_iload hZ.1 dX13_compareHeads_495 ?_
  exact s_if_eq dX13_compareHeads_497 (by decide) (wX13_compareHeads_505 hZ j hj) (wX13_compareHeads_500 hZ j hj)
noncomputable def vX13_compareHeads_485 (j : Nat → rx_K) : rx_K := o_ld rx_isR 0 (o_ld rx_isR 0 (o_getf 13 40 (o_ld rx_isI 2 (o_ald 0 (o_c1 (fun h x y => rx_lt h y x) (vX13_compareHeads_495 j) (vX13_compareHeads_505 j))))))
set_option maxRecDepth 20000 in
theorem wX13_compareHeads_485 (hZ : zO b e D A X) (j : Nat → rx_K) (hj : ∀ k pc, [189, 251, 379][k]? = some pc → rx_OK (zV b e D A X) mX13_compareHeads 4 pc (j k)) : rx_OK (zV b e D A X) mX13_compareHeads 4 485 (vX13_compareHeads_485 j) := by
  unfold vX13_compareHeads_485
  refine s_aload_n hZ.1 dX13_compareHeads_485 rfl ?_
  refine s_aload_n hZ.1 dX13_compareHeads_486 rfl ?_
  refine yg13_40 dX13_compareHeads_487 zw4161 ?_
  refine s_iload_n hZ.1 dX13_compareHeads_490 rfl ?_
  refine s_iald (tt := 0) rfl dX13_compareHeads_491 ?_
  exact s_if_le dX13_compareHeads_492 (by decide) (wX13_compareHeads_505 hZ j hj) (wX13_compareHeads_495 hZ j hj)
noncomputable def vX13_compareHeads_480 (j : Nat → rx_K) : rx_K := o_ld rx_isI 8 (o_c1 rx_eq (vX13_compareHeads_485 j) (vX13_compareHeads_516 j))
set_option maxRecDepth 20000 in
theorem wX13_compareHeads_480 (hZ : zO b e D A X) (j : Nat → rx_K) (hj : ∀ k pc, [189, 251, 379][k]? = some pc → rx_OK (zV b e D A X) mX13_compareHeads 4 pc (j k)) : rx_OK (zV b e D A X) mX13_compareHeads 4 480 (vX13_compareHeads_480 j) := by
  unfold vX13_compareHeads_480
  refine s_iload hZ.1 dX13_compareHeads_480 ?_
  exact s_if_ne dX13_compareHeads_482 (by decide) (wX13_compareHeads_516 hZ j hj) (wX13_compareHeads_485 hZ j hj)
noncomputable def vX13_compareHeads_472 (j : Nat → rx_K) : rx_K := o_st rx_isI 8 (o_inc 9 (1) ((j 2)))
set_option maxRecDepth 20000 in
theorem wX13_compareHeads_472 (hZ : zO b e D A X) (j : Nat → rx_K) (hj : ∀ k pc, [189, 251, 379][k]? = some pc → rx_OK (zV b e D A X) mX13_compareHeads 4 pc (j k)) : rx_OK (zV b e D A X) mX13_compareHeads 4 472 (vX13_compareHeads_472 j) := by
  unfold vX13_compareHeads_472
  refine s_istore hZ.1 dX13_compareHeads_472 (Nat.le_of_ble_eq_true rfl) ?_
  refine s_iinc hZ.1 dX13_compareHeads_474 (Nat.le_of_ble_eq_true rfl) ?_
  exact s_goto dX13_compareHeads_477 (by decide) (hj 2 379 rfl)
noncomputable def vX13_compareHeads_471 (j : Nat → rx_K) : rx_K := o_const 0 ((vX13_compareHeads_472 j))
set_option maxRecDepth 20000 in
theorem wX13_compareHeads_471 (hZ : zO b e D A X) (j : Nat → rx_K) (hj : ∀ k pc, [189, 251, 379][k]? = some pc → rx_OK (zV b e D A X) mX13_compareHeads 4 pc (j k)) : rx_OK (zV b e D A X) mX13_compareHeads 4 471 (vX13_compareHeads_471 j) := by
  unfold vX13_compareHeads_471
  refine s_iconst dX13_compareHeads_471 (by decide +kernel) ?_
  exact (wX13_compareHeads_472 hZ j hj)
noncomputable def vX13_compareHeads_467 (j : Nat → rx_K) : rx_K := o_const 8 ((vX13_compareHeads_472 j))
set_option maxRecDepth 20000 in
theorem wX13_compareHeads_467 (hZ : zO b e D A X) (j : Nat → rx_K) (hj : ∀ k pc, [189, 251, 379][k]? = some pc → rx_OK (zV b e D A X) mX13_compareHeads 4 pc (j k)) : rx_OK (zV b e D A X) mX13_compareHeads 4 467 (vX13_compareHeads_467 j) := by
  unfold vX13_compareHeads_467
  refine s_iconst dX13_compareHeads_467 (by decide +kernel) ?_
  exact s_goto dX13_compareHeads_468 (by decide) (wX13_compareHeads_472 hZ j hj)
noncomputable def vX13_compareHeads_439 (j : Nat → rx_K) : rx_K := o_ld rx_isR 0 (o_getf 13 38 (o_const 64 (o_ld rx_isI 1 (o_bi (fun x y => x * y) (o_ld rx_isI 9 (o_bi (fun x y => x + y) (o_ald 1 (o_ld rx_isR 0 (o_getf 13 38 (o_const 64 (o_ld rx_isI 2 (o_bi (fun x y => x * y) (o_ld rx_isI 9 (o_bi (fun x y => x + y) (o_ald 1 (o_bc (fun x y => lg_cmp x y) (o_c1 rx_eq (vX13_compareHeads_467 j) (vX13_compareHeads_471 j))))))))))))))))))
set_option maxRecDepth 20000 in
theorem wX13_compareHeads_439 (hZ : zO b e D A X) (j : Nat → rx_K) (hj : ∀ k pc, [189, 251, 379][k]? = some pc → rx_OK (zV b e D A X) mX13_compareHeads 4 pc (j k)) : rx_OK (zV b e D A X) mX13_compareHeads 4 439 (vX13_compareHeads_439 j) := by
  unfold vX13_compareHeads_439
  refine s_aload_n hZ.1 dX13_compareHeads_439 rfl ?_
  refine yg13_38 dX13_compareHeads_440 zw4159 ?_
  refine s_bipush dX13_compareHeads_443 (by decide +kernel) ?_
  refine s_iload_n hZ.1 dX13_compareHeads_445 rfl ?_
  refine s_imul dX13_compareHeads_446 ?_
  refine s_iload hZ.1 dX13_compareHeads_447 ?_
  refine s_iadd dX13_compareHeads_449 ?_
  refine s_lald (tt := 1) rfl dX13_compareHeads_450 ?_
  refine s_aload_n hZ.1 dX13_compareHeads_451 rfl ?_
  refine yg13_38 dX13_compareHeads_452 zw4159 ?_
  refine s_bipush dX13_compareHeads_455 (by decide +kernel) ?_
  refine s_iload_n hZ.1 dX13_compareHeads_457 rfl ?_
  refine s_imul dX13_compareHeads_458 ?_
  refine s_iload hZ.1 dX13_compareHeads_459 ?_
  refine s_iadd dX13_compareHeads_461 ?_
  refine s_lald (tt := 1) rfl dX13_compareHeads_462 ?_
  refine s_lcmp dX13_compareHeads_463 ?_
  exact s_if_ne dX13_compareHeads_464 (by decide) (wX13_compareHeads_471 hZ j hj) (wX13_compareHeads_467 hZ j hj)
noncomputable def vX13_compareHeads_432 (j : Nat → rx_K) : rx_K := o_st rx_isI 7 (o_ld rx_isI 8 (o_c1 rx_eq (vX13_compareHeads_471 j) (vX13_compareHeads_439 j)))
set_option maxRecDepth 20000 in
theorem wX13_compareHeads_432 (hZ : zO b e D A X) (j : Nat → rx_K) (hj : ∀ k pc, [189, 251, 379][k]? = some pc → rx_OK (zV b e D A X) mX13_compareHeads 4 pc (j k)) : rx_OK (zV b e D A X) mX13_compareHeads 4 432 (vX13_compareHeads_432 j) := by
  unfold vX13_compareHeads_432
  refine s_istore hZ.1 dX13_compareHeads_432 (Nat.le_of_ble_eq_true rfl) ?_
  refine s_iload hZ.1 dX13_compareHeads_434 ?_
  exact s_if_eq dX13_compareHeads_436 (by decide) (wX13_compareHeads_471 hZ j hj) (wX13_compareHeads_439 hZ j hj)
noncomputable def vX13_compareHeads_431 (j : Nat → rx_K) : rx_K := o_const 0 ((vX13_compareHeads_432 j))
set_option maxRecDepth 20000 in
theorem wX13_compareHeads_431 (hZ : zO b e D A X) (j : Nat → rx_K) (hj : ∀ k pc, [189, 251, 379][k]? = some pc → rx_OK (zV b e D A X) mX13_compareHeads 4 pc (j k)) : rx_OK (zV b e D A X) mX13_compareHeads 4 431 (vX13_compareHeads_431 j) := by
  unfold vX13_compareHeads_431
  refine s_iconst dX13_compareHeads_431 (by decide +kernel) ?_
  exact (wX13_compareHeads_432 hZ j hj)
noncomputable def vX13_compareHeads_427 (j : Nat → rx_K) : rx_K := o_const 8 ((vX13_compareHeads_432 j))
set_option maxRecDepth 20000 in
theorem wX13_compareHeads_427 (hZ : zO b e D A X) (j : Nat → rx_K) (hj : ∀ k pc, [189, 251, 379][k]? = some pc → rx_OK (zV b e D A X) mX13_compareHeads 4 pc (j k)) : rx_OK (zV b e D A X) mX13_compareHeads 4 427 (vX13_compareHeads_427 j) := by
  unfold vX13_compareHeads_427
  refine s_iconst dX13_compareHeads_427 (by decide +kernel) ?_
  exact s_goto dX13_compareHeads_428 (by decide) (wX13_compareHeads_432 hZ j hj)
noncomputable def vX13_compareHeads_395 (j : Nat → rx_K) : rx_K := o_ld rx_isR 0 (o_getf 13 38 (o_const 64 (o_ld rx_isI 2 (o_bi (fun x y => x * y) (o_ld rx_isR 0 (o_getf 13 40 (o_ld rx_isI 2 (o_ald 0 (o_ld rx_isR 0 (o_getf 13 38 (o_const 64 (o_ld rx_isI 1 (o_bi (fun x y => x * y) (o_ld rx_isI 9 (o_bi (fun x y => x + y) (o_ald 1 (o_callS 4 FX13_stands (o_c1 rx_eq (vX13_compareHeads_427 j) (vX13_compareHeads_431 j)))))))))))))))))))
set_option maxRecDepth 20000 in
theorem wX13_compareHeads_395 (hZ : zO b e D A X) (j : Nat → rx_K) (hj : ∀ k pc, [189, 251, 379][k]? = some pc → rx_OK (zV b e D A X) mX13_compareHeads 4 pc (j k)) : rx_OK (zV b e D A X) mX13_compareHeads 4 395 (vX13_compareHeads_395 j) := by
  unfold vX13_compareHeads_395
  refine s_aload_n hZ.1 dX13_compareHeads_395 rfl ?_
  refine yg13_38 dX13_compareHeads_396 zw4159 ?_
  refine s_bipush dX13_compareHeads_399 (by decide +kernel) ?_
  refine s_iload_n hZ.1 dX13_compareHeads_401 rfl ?_
  refine s_imul dX13_compareHeads_402 ?_
  refine s_aload_n hZ.1 dX13_compareHeads_403 rfl ?_
  refine yg13_40 dX13_compareHeads_404 zw4161 ?_
  refine s_iload_n hZ.1 dX13_compareHeads_407 rfl ?_
  refine s_iald (tt := 0) rfl dX13_compareHeads_408 ?_
  refine s_aload_n hZ.1 dX13_compareHeads_409 rfl ?_
  refine yg13_38 dX13_compareHeads_410 zw4159 ?_
  refine s_bipush dX13_compareHeads_413 (by decide +kernel) ?_
  refine s_iload_n hZ.1 dX13_compareHeads_415 rfl ?_
  refine s_imul dX13_compareHeads_416 ?_
  refine s_iload hZ.1 dX13_compareHeads_417 ?_
  refine s_iadd dX13_compareHeads_419 ?_
  refine s_lald (tt := 1) rfl dX13_compareHeads_420 ?_
  refine s_callS hZ.1 (Met_X13_stands hZ) (Nat.le_of_ble_eq_true rfl) vy_X13_stands zw3207 (Or.inl zw3206) dX13_compareHeads_421 ?_
  exact s_if_ne dX13_compareHeads_424 (by decide) (wX13_compareHeads_431 hZ j hj) (wX13_compareHeads_427 hZ j hj)
noncomputable def vX13_compareHeads_390 (j : Nat → rx_K) : rx_K := o_ld rx_isI 7 (o_c1 rx_eq (vX13_compareHeads_395 j) (vX13_compareHeads_427 j))
set_option maxRecDepth 20000 in
theorem wX13_compareHeads_390 (hZ : zO b e D A X) (j : Nat → rx_K) (hj : ∀ k pc, [189, 251, 379][k]? = some pc → rx_OK (zV b e D A X) mX13_compareHeads 4 pc (j k)) : rx_OK (zV b e D A X) mX13_compareHeads 4 390 (vX13_compareHeads_390 j) := by
  unfold vX13_compareHeads_390
  refine s_iload hZ.1 dX13_compareHeads_390 ?_
  exact s_if_ne dX13_compareHeads_392 (by decide) (wX13_compareHeads_427 hZ j hj) (wX13_compareHeads_395 hZ j hj)
noncomputable def vX13_compareHeads_379 (j : Nat → rx_K) : rx_K := o_ld rx_isI 9 (o_ld rx_isR 0 (o_getf 13 40 (o_ld rx_isI 1 (o_ald 0 (o_c2 rx_lt (vX13_compareHeads_390 j) (vX13_compareHeads_480 j))))))
set_option maxRecDepth 20000 in
theorem wX13_compareHeads_379 (hZ : zO b e D A X) (j : Nat → rx_K) (hj : ∀ k pc, [189, 251, 379][k]? = some pc → rx_OK (zV b e D A X) mX13_compareHeads 4 pc (j k)) : rx_OK (zV b e D A X) mX13_compareHeads 4 379 (vX13_compareHeads_379 j) := by
  unfold vX13_compareHeads_379
  refine s_iload hZ.1 dX13_compareHeads_379 ?_
  refine s_aload_n hZ.1 dX13_compareHeads_381 rfl ?_
  refine yg13_40 dX13_compareHeads_382 zw4161 ?_
  refine s_iload_n hZ.1 dX13_compareHeads_385 rfl ?_
  refine s_iald (tt := 0) rfl dX13_compareHeads_386 ?_
  exact s_icmp_ge dX13_compareHeads_387 (by decide) (wX13_compareHeads_480 hZ j hj) (wX13_compareHeads_390 hZ j hj)
noncomputable def vX13_compareHeads_374 (j : Nat → rx_K) : rx_K := o_st rx_isI 8 (o_const 0 (o_st rx_isI 9 ((vX13_compareHeads_379 j))))
set_option maxRecDepth 20000 in
theorem wX13_compareHeads_374 (hZ : zO b e D A X) (j : Nat → rx_K) (hj : ∀ k pc, [189, 251, 379][k]? = some pc → rx_OK (zV b e D A X) mX13_compareHeads 4 pc (j k)) : rx_OK (zV b e D A X) mX13_compareHeads 4 374 (vX13_compareHeads_374 j) := by
  unfold vX13_compareHeads_374
  refine s_istore hZ.1 dX13_compareHeads_374 (Nat.le_of_ble_eq_true rfl) ?_
  refine s_iconst dX13_compareHeads_376 (by decide +kernel) ?_
  refine s_istore hZ.1 dX13_compareHeads_377 (Nat.le_of_ble_eq_true rfl) ?_
  exact (wX13_compareHeads_379 hZ j hj)
noncomputable def vX13_compareHeads_373 (j : Nat → rx_K) : rx_K := o_const 0 ((vX13_compareHeads_374 j))
set_option maxRecDepth 20000 in
theorem wX13_compareHeads_373 (hZ : zO b e D A X) (j : Nat → rx_K) (hj : ∀ k pc, [189, 251, 379][k]? = some pc → rx_OK (zV b e D A X) mX13_compareHeads 4 pc (j k)) : rx_OK (zV b e D A X) mX13_compareHeads 4 373 (vX13_compareHeads_373 j) := by
  unfold vX13_compareHeads_373
  refine s_iconst dX13_compareHeads_373 (by decide +kernel) ?_
  exact (wX13_compareHeads_374 hZ j hj)
noncomputable def vX13_compareHeads_369 (j : Nat → rx_K) : rx_K := o_const 8 ((vX13_compareHeads_374 j))
set_option maxRecDepth 20000 in
theorem wX13_compareHeads_369 (hZ : zO b e D A X) (j : Nat → rx_K) (hj : ∀ k pc, [189, 251, 379][k]? = some pc → rx_OK (zV b e D A X) mX13_compareHeads 4 pc (j k)) : rx_OK (zV b e D A X) mX13_compareHeads 4 369 (vX13_compareHeads_369 j) := by
  unfold vX13_compareHeads_369
  refine s_iconst dX13_compareHeads_369 (by decide +kernel) ?_
  exact s_goto dX13_compareHeads_370 (by decide) (wX13_compareHeads_374 hZ j hj)
noncomputable def vX13_compareHeads_352 (j : Nat → rx_K) : rx_K := o_st rx_isI 7 (o_ld rx_isR 0 (o_getf 13 40 (o_ld rx_isI 1 (o_ald 0 (o_ld rx_isR 0 (o_getf 13 40 (o_ld rx_isI 2 (o_ald 0 (o_c2 rx_eq (vX13_compareHeads_369 j) (vX13_compareHeads_373 j))))))))))
set_option maxRecDepth 20000 in
theorem wX13_compareHeads_352 (hZ : zO b e D A X) (j : Nat → rx_K) (hj : ∀ k pc, [189, 251, 379][k]? = some pc → rx_OK (zV b e D A X) mX13_compareHeads 4 pc (j k)) : rx_OK (zV b e D A X) mX13_compareHeads 4 352 (vX13_compareHeads_352 j) := by
  unfold vX13_compareHeads_352
  refine s_istore hZ.1 dX13_compareHeads_352 (Nat.le_of_ble_eq_true rfl) ?_
  refine s_aload_n hZ.1 dX13_compareHeads_354 rfl ?_
  refine yg13_40 dX13_compareHeads_355 zw4161 ?_
  refine s_iload_n hZ.1 dX13_compareHeads_358 rfl ?_
  refine s_iald (tt := 0) rfl dX13_compareHeads_359 ?_
  refine s_aload_n hZ.1 dX13_compareHeads_360 rfl ?_
  refine yg13_40 dX13_compareHeads_361 zw4161 ?_
  refine s_iload_n hZ.1 dX13_compareHeads_364 rfl ?_
  refine s_iald (tt := 0) rfl dX13_compareHeads_365 ?_
  exact s_icmp_ne dX13_compareHeads_366 (by decide) (wX13_compareHeads_373 hZ j hj) (wX13_compareHeads_369 hZ j hj)
noncomputable def vX13_compareHeads_351 (j : Nat → rx_K) : rx_K := o_const 0 ((vX13_compareHeads_352 j))
set_option maxRecDepth 20000 in
theorem wX13_compareHeads_351 (hZ : zO b e D A X) (j : Nat → rx_K) (hj : ∀ k pc, [189, 251, 379][k]? = some pc → rx_OK (zV b e D A X) mX13_compareHeads 4 pc (j k)) : rx_OK (zV b e D A X) mX13_compareHeads 4 351 (vX13_compareHeads_351 j) := by
  unfold vX13_compareHeads_351
  refine s_iconst dX13_compareHeads_351 (by decide +kernel) ?_
  exact (wX13_compareHeads_352 hZ j hj)
noncomputable def vX13_compareHeads_347 (j : Nat → rx_K) : rx_K := o_const 8 ((vX13_compareHeads_352 j))
set_option maxRecDepth 20000 in
theorem wX13_compareHeads_347 (hZ : zO b e D A X) (j : Nat → rx_K) (hj : ∀ k pc, [189, 251, 379][k]? = some pc → rx_OK (zV b e D A X) mX13_compareHeads 4 pc (j k)) : rx_OK (zV b e D A X) mX13_compareHeads 4 347 (vX13_compareHeads_347 j) := by
  unfold vX13_compareHeads_347
  refine s_iconst dX13_compareHeads_347 (by decide +kernel) ?_
  exact s_goto dX13_compareHeads_348 (by decide) (wX13_compareHeads_352 hZ j hj)
noncomputable def vX13_compareHeads_338 (j : Nat → rx_K) : rx_K := o_ld rx_isR 0 (o_getf 13 40 (o_ld rx_isI 1 (o_ald 0 (o_c1 rx_eq (vX13_compareHeads_347 j) (vX13_compareHeads_351 j)))))
set_option maxRecDepth 20000 in
theorem wX13_compareHeads_338 (hZ : zO b e D A X) (j : Nat → rx_K) (hj : ∀ k pc, [189, 251, 379][k]? = some pc → rx_OK (zV b e D A X) mX13_compareHeads 4 pc (j k)) : rx_OK (zV b e D A X) mX13_compareHeads 4 338 (vX13_compareHeads_338 j) := by
  unfold vX13_compareHeads_338
  refine s_aload_n hZ.1 dX13_compareHeads_338 rfl ?_
  refine yg13_40 dX13_compareHeads_339 zw4161 ?_
  refine s_iload_n hZ.1 dX13_compareHeads_342 rfl ?_
  refine s_iald (tt := 0) rfl dX13_compareHeads_343 ?_
  exact s_if_ne dX13_compareHeads_344 (by decide) (wX13_compareHeads_351 hZ j hj) (wX13_compareHeads_347 hZ j hj)
noncomputable def vX13_compareHeads_326 (j : Nat → rx_K) : rx_K := o_ld rx_isR 0 (o_const 96 (o_ld rx_isI 1 (o_ld rx_isI 2 (o_const 34359738352 (o_const 34359738352 (o_callV 5 13 FX13_differs ((vX13_compareHeads_338 j))))))))
set_option maxRecDepth 20000 in
theorem wX13_compareHeads_326 (hZ : zO b e D A X) (j : Nat → rx_K) (hj : ∀ k pc, [189, 251, 379][k]? = some pc → rx_OK (zV b e D A X) mX13_compareHeads 4 pc (j k)) : rx_OK (zV b e D A X) mX13_compareHeads 4 326 (vX13_compareHeads_326 j) := by
  unfold vX13_compareHeads_326
  refine s_aload_n hZ.1 dX13_compareHeads_326 rfl ?_
  refine s_bipush dX13_compareHeads_327 (by decide +kernel) ?_
  refine s_iload_n hZ.1 dX13_compareHeads_329 rfl ?_
  refine s_iload_n hZ.1 dX13_compareHeads_330 rfl ?_
  refine s_bipush dX13_compareHeads_331 (by decide +kernel) ?_
  refine s_bipush dX13_compareHeads_333 (by decide +kernel) ?_
  refine s_callV hZ.1 (Met_X13_differs hZ) (Nat.le_of_ble_eq_true rfl) vy_X13_differs zcl13 zw3996 zw387 (Or.inl zw3994) dX13_compareHeads_335 ?_
  exact (wX13_compareHeads_338 hZ j hj)
noncomputable def vX13_compareHeads_310 (j : Nat → rx_K) : rx_K := o_ld rx_isR 0 (o_getf 13 33 (o_ld rx_isI 1 (o_ald 1 (o_ld rx_isR 0 (o_getf 13 33 (o_ld rx_isI 2 (o_ald 1 (o_bc (fun x y => lg_cmp x y) (o_c1 rx_eq (vX13_compareHeads_338 j) (vX13_compareHeads_326 j))))))))))
set_option maxRecDepth 20000 in
theorem wX13_compareHeads_310 (hZ : zO b e D A X) (j : Nat → rx_K) (hj : ∀ k pc, [189, 251, 379][k]? = some pc → rx_OK (zV b e D A X) mX13_compareHeads 4 pc (j k)) : rx_OK (zV b e D A X) mX13_compareHeads 4 310 (vX13_compareHeads_310 j) := by
  unfold vX13_compareHeads_310
  refine s_aload_n hZ.1 dX13_compareHeads_310 rfl ?_
  refine yg13_33 dX13_compareHeads_311 zw4154 ?_
  refine s_iload_n hZ.1 dX13_compareHeads_314 rfl ?_
  refine s_lald (tt := 1) rfl dX13_compareHeads_315 ?_
  refine s_aload_n hZ.1 dX13_compareHeads_316 rfl ?_
  refine yg13_33 dX13_compareHeads_317 zw4154 ?_
  refine s_iload_n hZ.1 dX13_compareHeads_320 rfl ?_
  refine s_lald (tt := 1) rfl dX13_compareHeads_321 ?_
  refine s_lcmp dX13_compareHeads_322 ?_
  exact s_if_eq dX13_compareHeads_323 (by decide) (wX13_compareHeads_338 hZ j hj) (wX13_compareHeads_326 hZ j hj)
noncomputable def vX13_compareHeads_304 (j : Nat → rx_K) : rx_K := o_inc 7 (1) ((j 1))
set_option maxRecDepth 20000 in
theorem wX13_compareHeads_304 (hZ : zO b e D A X) (j : Nat → rx_K) (hj : ∀ k pc, [189, 251, 379][k]? = some pc → rx_OK (zV b e D A X) mX13_compareHeads 4 pc (j k)) : rx_OK (zV b e D A X) mX13_compareHeads 4 304 (vX13_compareHeads_304 j) := by
  unfold vX13_compareHeads_304
  refine s_iinc hZ.1 dX13_compareHeads_304 (Nat.le_of_ble_eq_true rfl) ?_
  exact s_goto dX13_compareHeads_307 (by decide) (hj 1 251 rfl)
noncomputable def vX13_compareHeads_292 (j : Nat → rx_K) : rx_K := o_ld rx_isR 0 (o_const 88 (o_ld rx_isI 1 (o_ld rx_isI 2 (o_const 34359738352 (o_const 34359738352 (o_callV 5 13 FX13_differs ((vX13_compareHeads_304 j))))))))
set_option maxRecDepth 20000 in
theorem wX13_compareHeads_292 (hZ : zO b e D A X) (j : Nat → rx_K) (hj : ∀ k pc, [189, 251, 379][k]? = some pc → rx_OK (zV b e D A X) mX13_compareHeads 4 pc (j k)) : rx_OK (zV b e D A X) mX13_compareHeads 4 292 (vX13_compareHeads_292 j) := by
  unfold vX13_compareHeads_292
  refine s_aload_n hZ.1 dX13_compareHeads_292 rfl ?_
  refine s_bipush dX13_compareHeads_293 (by decide +kernel) ?_
  refine s_iload_n hZ.1 dX13_compareHeads_295 rfl ?_
  refine s_iload_n hZ.1 dX13_compareHeads_296 rfl ?_
  refine s_bipush dX13_compareHeads_297 (by decide +kernel) ?_
  refine s_bipush dX13_compareHeads_299 (by decide +kernel) ?_
  refine s_callV hZ.1 (Met_X13_differs hZ) (Nat.le_of_ble_eq_true rfl) vy_X13_differs zcl13 zw3996 zw387 (Or.inl zw3994) dX13_compareHeads_301 ?_
  exact (wX13_compareHeads_304 hZ j hj)
noncomputable def vX13_compareHeads_262 (j : Nat → rx_K) : rx_K := o_ld rx_isR 0 (o_getf 13 30 (o_const 32 (o_ld rx_isI 1 (o_bi (fun x y => x * y) (o_ld rx_isR 0 (o_getf 13 32 (o_ld rx_isI 1 (o_ald 0 (o_ld rx_isR 0 (o_getf 13 30 (o_const 32 (o_ld rx_isI 2 (o_bi (fun x y => x * y) (o_ld rx_isI 7 (o_bi (fun x y => x + y) (o_ald 1 (o_callS 4 FX13_stands (o_c1 rx_eq (vX13_compareHeads_292 j) (vX13_compareHeads_304 j)))))))))))))))))))
set_option maxRecDepth 20000 in
theorem wX13_compareHeads_262 (hZ : zO b e D A X) (j : Nat → rx_K) (hj : ∀ k pc, [189, 251, 379][k]? = some pc → rx_OK (zV b e D A X) mX13_compareHeads 4 pc (j k)) : rx_OK (zV b e D A X) mX13_compareHeads 4 262 (vX13_compareHeads_262 j) := by
  unfold vX13_compareHeads_262
  refine s_aload_n hZ.1 dX13_compareHeads_262 rfl ?_
  refine yg13_30 dX13_compareHeads_263 zw4151 ?_
  refine s_iconst dX13_compareHeads_266 (by decide +kernel) ?_
  refine s_iload_n hZ.1 dX13_compareHeads_267 rfl ?_
  refine s_imul dX13_compareHeads_268 ?_
  refine s_aload_n hZ.1 dX13_compareHeads_269 rfl ?_
  refine yg13_32 dX13_compareHeads_270 zw4153 ?_
  refine s_iload_n hZ.1 dX13_compareHeads_273 rfl ?_
  refine s_iald (tt := 0) rfl dX13_compareHeads_274 ?_
  refine s_aload_n hZ.1 dX13_compareHeads_275 rfl ?_
  refine yg13_30 dX13_compareHeads_276 zw4151 ?_
  refine s_iconst dX13_compareHeads_279 (by decide +kernel) ?_
  refine s_iload_n hZ.1 dX13_compareHeads_280 rfl ?_
  refine s_imul dX13_compareHeads_281 ?_
  refine s_iload hZ.1 dX13_compareHeads_282 ?_
  refine s_iadd dX13_compareHeads_284 ?_
  refine s_lald (tt := 1) rfl dX13_compareHeads_285 ?_
  refine s_callS hZ.1 (Met_X13_stands hZ) (Nat.le_of_ble_eq_true rfl) vy_X13_stands zw3207 (Or.inl zw3206) dX13_compareHeads_286 ?_
  exact s_if_ne dX13_compareHeads_289 (by decide) (wX13_compareHeads_304 hZ j hj) (wX13_compareHeads_292 hZ j hj)
noncomputable def vX13_compareHeads_251 (j : Nat → rx_K) : rx_K := o_ld rx_isI 7 (o_ld rx_isR 0 (o_getf 13 32 (o_ld rx_isI 2 (o_ald 0 (o_c2 rx_lt (vX13_compareHeads_262 j) (vX13_compareHeads_310 j))))))
set_option maxRecDepth 20000 in
theorem wX13_compareHeads_251 (hZ : zO b e D A X) (j : Nat → rx_K) (hj : ∀ k pc, [189, 251, 379][k]? = some pc → rx_OK (zV b e D A X) mX13_compareHeads 4 pc (j k)) : rx_OK (zV b e D A X) mX13_compareHeads 4 251 (vX13_compareHeads_251 j) := by
  unfold vX13_compareHeads_251
  refine s_iload hZ.1 dX13_compareHeads_251 ?_
  refine s_aload_n hZ.1 dX13_compareHeads_253 rfl ?_
  refine yg13_32 dX13_compareHeads_254 zw4153 ?_
  refine s_iload_n hZ.1 dX13_compareHeads_257 rfl ?_
  refine s_iald (tt := 0) rfl dX13_compareHeads_258 ?_
  exact s_icmp_ge dX13_compareHeads_259 (by decide) (wX13_compareHeads_310 hZ j hj) (wX13_compareHeads_262 hZ j hj)
noncomputable def vX13_compareHeads_248 (j : Nat → rx_K) : rx_K := o_const 0 (o_st rx_isI 7 ((vX13_compareHeads_251 j)))
set_option maxRecDepth 20000 in
theorem wX13_compareHeads_248 (hZ : zO b e D A X) (j : Nat → rx_K) (hj : ∀ k pc, [189, 251, 379][k]? = some pc → rx_OK (zV b e D A X) mX13_compareHeads 4 pc (j k)) : rx_OK (zV b e D A X) mX13_compareHeads 4 248 (vX13_compareHeads_248 j) := by
  unfold vX13_compareHeads_248
  refine s_iconst dX13_compareHeads_248 (by decide +kernel) ?_
  refine s_istore hZ.1 dX13_compareHeads_249 (Nat.le_of_ble_eq_true rfl) ?_
  exact (wX13_compareHeads_251 hZ j hj)
noncomputable def vX13_compareHeads_242 (j : Nat → rx_K) : rx_K := o_inc 7 (1) ((j 0))
set_option maxRecDepth 20000 in
theorem wX13_compareHeads_242 (hZ : zO b e D A X) (j : Nat → rx_K) (hj : ∀ k pc, [189, 251, 379][k]? = some pc → rx_OK (zV b e D A X) mX13_compareHeads 4 pc (j k)) : rx_OK (zV b e D A X) mX13_compareHeads 4 242 (vX13_compareHeads_242 j) := by
  unfold vX13_compareHeads_242
  refine s_iinc hZ.1 dX13_compareHeads_242 (Nat.le_of_ble_eq_true rfl) ?_
  exact s_goto dX13_compareHeads_245 (by decide) (hj 0 189 rfl)
noncomputable def vX13_compareHeads_230 (j : Nat → rx_K) : rx_K := o_ld rx_isR 0 (o_const 80 (o_ld rx_isI 1 (o_ld rx_isI 2 (o_const 34359738352 (o_const 34359738352 (o_callV 5 13 FX13_differs ((vX13_compareHeads_242 j))))))))
set_option maxRecDepth 20000 in
theorem wX13_compareHeads_230 (hZ : zO b e D A X) (j : Nat → rx_K) (hj : ∀ k pc, [189, 251, 379][k]? = some pc → rx_OK (zV b e D A X) mX13_compareHeads 4 pc (j k)) : rx_OK (zV b e D A X) mX13_compareHeads 4 230 (vX13_compareHeads_230 j) := by
  unfold vX13_compareHeads_230
  refine s_aload_n hZ.1 dX13_compareHeads_230 rfl ?_
  refine s_bipush dX13_compareHeads_231 (by decide +kernel) ?_
  refine s_iload_n hZ.1 dX13_compareHeads_233 rfl ?_
  refine s_iload_n hZ.1 dX13_compareHeads_234 rfl ?_
  refine s_bipush dX13_compareHeads_235 (by decide +kernel) ?_
  refine s_bipush dX13_compareHeads_237 (by decide +kernel) ?_
  refine s_callV hZ.1 (Met_X13_differs hZ) (Nat.le_of_ble_eq_true rfl) vy_X13_differs zcl13 zw3996 zw387 (Or.inl zw3994) dX13_compareHeads_239 ?_
  exact (wX13_compareHeads_242 hZ j hj)
noncomputable def vX13_compareHeads_200 (j : Nat → rx_K) : rx_K := o_ld rx_isR 0 (o_getf 13 30 (o_const 32 (o_ld rx_isI 2 (o_bi (fun x y => x * y) (o_ld rx_isR 0 (o_getf 13 32 (o_ld rx_isI 2 (o_ald 0 (o_ld rx_isR 0 (o_getf 13 30 (o_const 32 (o_ld rx_isI 1 (o_bi (fun x y => x * y) (o_ld rx_isI 7 (o_bi (fun x y => x + y) (o_ald 1 (o_callS 4 FX13_stands (o_c1 rx_eq (vX13_compareHeads_230 j) (vX13_compareHeads_242 j)))))))))))))))))))
set_option maxRecDepth 20000 in
theorem wX13_compareHeads_200 (hZ : zO b e D A X) (j : Nat → rx_K) (hj : ∀ k pc, [189, 251, 379][k]? = some pc → rx_OK (zV b e D A X) mX13_compareHeads 4 pc (j k)) : rx_OK (zV b e D A X) mX13_compareHeads 4 200 (vX13_compareHeads_200 j) := by
  unfold vX13_compareHeads_200
  refine s_aload_n hZ.1 dX13_compareHeads_200 rfl ?_
  refine yg13_30 dX13_compareHeads_201 zw4151 ?_
  refine s_iconst dX13_compareHeads_204 (by decide +kernel) ?_
  refine s_iload_n hZ.1 dX13_compareHeads_205 rfl ?_
  refine s_imul dX13_compareHeads_206 ?_
  refine s_aload_n hZ.1 dX13_compareHeads_207 rfl ?_
  refine yg13_32 dX13_compareHeads_208 zw4153 ?_
  refine s_iload_n hZ.1 dX13_compareHeads_211 rfl ?_
  refine s_iald (tt := 0) rfl dX13_compareHeads_212 ?_
  refine s_aload_n hZ.1 dX13_compareHeads_213 rfl ?_
  refine yg13_30 dX13_compareHeads_214 zw4151 ?_
  refine s_iconst dX13_compareHeads_217 (by decide +kernel) ?_
  refine s_iload_n hZ.1 dX13_compareHeads_218 rfl ?_
  refine s_imul dX13_compareHeads_219 ?_
  refine s_iload hZ.1 dX13_compareHeads_220 ?_
  refine s_iadd dX13_compareHeads_222 ?_
  refine s_lald (tt := 1) rfl dX13_compareHeads_223 ?_
  refine s_callS hZ.1 (Met_X13_stands hZ) (Nat.le_of_ble_eq_true rfl) vy_X13_stands zw3207 (Or.inl zw3206) dX13_compareHeads_224 ?_
  exact s_if_ne dX13_compareHeads_227 (by decide) (wX13_compareHeads_242 hZ j hj) (wX13_compareHeads_230 hZ j hj)
noncomputable def vX13_compareHeads_189 (j : Nat → rx_K) : rx_K := o_ld rx_isI 7 (o_ld rx_isR 0 (o_getf 13 32 (o_ld rx_isI 1 (o_ald 0 (o_c2 rx_lt (vX13_compareHeads_200 j) (vX13_compareHeads_248 j))))))
set_option maxRecDepth 20000 in
theorem wX13_compareHeads_189 (hZ : zO b e D A X) (j : Nat → rx_K) (hj : ∀ k pc, [189, 251, 379][k]? = some pc → rx_OK (zV b e D A X) mX13_compareHeads 4 pc (j k)) : rx_OK (zV b e D A X) mX13_compareHeads 4 189 (vX13_compareHeads_189 j) := by
  unfold vX13_compareHeads_189
  refine s_iload hZ.1 dX13_compareHeads_189 ?_
  refine s_aload_n hZ.1 dX13_compareHeads_191 rfl ?_
  refine yg13_32 dX13_compareHeads_192 zw4153 ?_
  refine s_iload_n hZ.1 dX13_compareHeads_195 rfl ?_
  refine s_iald (tt := 0) rfl dX13_compareHeads_196 ?_
  exact s_icmp_ge dX13_compareHeads_197 (by decide) (wX13_compareHeads_248 hZ j hj) (wX13_compareHeads_200 hZ j hj)
noncomputable def vX13_compareHeads_186 (j : Nat → rx_K) : rx_K := o_const 0 (o_st rx_isI 7 ((vX13_compareHeads_189 j)))
set_option maxRecDepth 20000 in
theorem wX13_compareHeads_186 (hZ : zO b e D A X) (j : Nat → rx_K) (hj : ∀ k pc, [189, 251, 379][k]? = some pc → rx_OK (zV b e D A X) mX13_compareHeads 4 pc (j k)) : rx_OK (zV b e D A X) mX13_compareHeads 4 186 (vX13_compareHeads_186 j) := by
  unfold vX13_compareHeads_186
  refine s_iconst dX13_compareHeads_186 (by decide +kernel) ?_
  refine s_istore hZ.1 dX13_compareHeads_187 (Nat.le_of_ble_eq_true rfl) ?_
  exact (wX13_compareHeads_189 hZ j hj)
noncomputable def vX13_compareHeads_174 (j : Nat → rx_K) : rx_K := o_ld rx_isR 0 (o_const 72 (o_ld rx_isI 1 (o_ld rx_isI 2 (o_const 34359738352 (o_const 34359738352 (o_callV 5 13 FX13_differs ((vX13_compareHeads_186 j))))))))
set_option maxRecDepth 20000 in
theorem wX13_compareHeads_174 (hZ : zO b e D A X) (j : Nat → rx_K) (hj : ∀ k pc, [189, 251, 379][k]? = some pc → rx_OK (zV b e D A X) mX13_compareHeads 4 pc (j k)) : rx_OK (zV b e D A X) mX13_compareHeads 4 174 (vX13_compareHeads_174 j) := by
  unfold vX13_compareHeads_174
  refine s_aload_n hZ.1 dX13_compareHeads_174 rfl ?_
  refine s_bipush dX13_compareHeads_175 (by decide +kernel) ?_
  refine s_iload_n hZ.1 dX13_compareHeads_177 rfl ?_
  refine s_iload_n hZ.1 dX13_compareHeads_178 rfl ?_
  refine s_bipush dX13_compareHeads_179 (by decide +kernel) ?_
  refine s_bipush dX13_compareHeads_181 (by decide +kernel) ?_
  refine s_callV hZ.1 (Met_X13_differs hZ) (Nat.le_of_ble_eq_true rfl) vy_X13_differs zcl13 zw3996 zw387 (Or.inl zw3994) dX13_compareHeads_183 ?_
  exact (wX13_compareHeads_186 hZ j hj)
noncomputable def vX13_compareHeads_167 (j : Nat → rx_K) : rx_K := o_ld rx_isL 3 (o_ld rx_isL 5 (o_bc (fun x y => lg_cmp x y) (o_c1 rx_eq (vX13_compareHeads_186 j) (vX13_compareHeads_174 j))))
set_option maxRecDepth 20000 in
theorem wX13_compareHeads_167 (hZ : zO b e D A X) (j : Nat → rx_K) (hj : ∀ k pc, [189, 251, 379][k]? = some pc → rx_OK (zV b e D A X) mX13_compareHeads 4 pc (j k)) : rx_OK (zV b e D A X) mX13_compareHeads 4 167 (vX13_compareHeads_167 j) := by
  unfold vX13_compareHeads_167
  refine s_lload_n hZ.1 dX13_compareHeads_167 rfl ?_
  refine s_lload hZ.1 dX13_compareHeads_168 ?_
  refine s_lcmp dX13_compareHeads_170 ?_
  exact s_if_eq dX13_compareHeads_171 (by decide) (wX13_compareHeads_186 hZ j hj) (wX13_compareHeads_174 hZ j hj)
noncomputable def vX13_compareHeads_157 (j : Nat → rx_K) : rx_K := o_stL 5 (o_ld rx_isR 0 (o_ld rx_isI 1 (o_callV 1 13 FX13_isFace (o_c1 rx_eq (vX13_compareHeads_167 j) (vX13_compareHeads_186 j)))))
set_option maxRecDepth 20000 in
theorem wX13_compareHeads_157 (hZ : zO b e D A X) (j : Nat → rx_K) (hj : ∀ k pc, [189, 251, 379][k]? = some pc → rx_OK (zV b e D A X) mX13_compareHeads 4 pc (j k)) : rx_OK (zV b e D A X) mX13_compareHeads 4 157 (vX13_compareHeads_157 j) := by
  unfold vX13_compareHeads_157
  refine s_lstore hZ.1 dX13_compareHeads_157 (Nat.le_of_ble_eq_true rfl) ?_
  refine s_aload_n hZ.1 dX13_compareHeads_159 rfl ?_
  refine s_iload_n hZ.1 dX13_compareHeads_160 rfl ?_
  refine s_callV hZ.1 (Met_X13_isFace hZ) (Nat.le_of_ble_eq_true rfl) vy_X13_isFace zcl13 zw3192 zw227 (Or.inl zw3190) dX13_compareHeads_161 ?_
  exact s_if_ne dX13_compareHeads_164 (by decide) (wX13_compareHeads_186 hZ j hj) (wX13_compareHeads_167 hZ j hj)
noncomputable def vX13_compareHeads_151 (j : Nat → rx_K) : rx_K := o_ld rx_isR 0 (o_getf 13 28 (o_ld rx_isI 2 (o_ald 1 ((vX13_compareHeads_157 j)))))
set_option maxRecDepth 20000 in
theorem wX13_compareHeads_151 (hZ : zO b e D A X) (j : Nat → rx_K) (hj : ∀ k pc, [189, 251, 379][k]? = some pc → rx_OK (zV b e D A X) mX13_compareHeads 4 pc (j k)) : rx_OK (zV b e D A X) mX13_compareHeads 4 151 (vX13_compareHeads_151 j) := by
  unfold vX13_compareHeads_151
  refine s_aload_n hZ.1 dX13_compareHeads_151 rfl ?_
  refine yg13_28 dX13_compareHeads_152 zw4149 ?_
  refine s_iload_n hZ.1 dX13_compareHeads_155 rfl ?_
  refine s_lald (tt := 1) rfl dX13_compareHeads_156 ?_
  exact (wX13_compareHeads_157 hZ j hj)
noncomputable def vX13_compareHeads_145 (j : Nat → rx_K) : rx_K := o_const 18446744073764969673 ((vX13_compareHeads_157 j))
set_option maxRecDepth 20000 in
theorem wX13_compareHeads_145 (hZ : zO b e D A X) (j : Nat → rx_K) (hj : ∀ k pc, [189, 251, 379][k]? = some pc → rx_OK (zV b e D A X) mX13_compareHeads 4 pc (j k)) : rx_OK (zV b e D A X) mX13_compareHeads 4 145 (vX13_compareHeads_145 j) := by
  unfold vX13_compareHeads_145
  refine s_ldc2 dX13_compareHeads_145 zw3188 (by decide +kernel) ?_
  exact s_goto dX13_compareHeads_148 (by decide) (wX13_compareHeads_157 hZ j hj)
noncomputable def vX13_compareHeads_133 (j : Nat → rx_K) : rx_K := o_stL 3 (o_ld rx_isR 0 (o_getf 13 28 (o_ld rx_isI 2 (o_ald 1 (o_const 1 (o_bc (fun x y => lg_cmp x y) (o_c1 rx_eq (vX13_compareHeads_145 j) (vX13_compareHeads_151 j))))))))
set_option maxRecDepth 20000 in
theorem wX13_compareHeads_133 (hZ : zO b e D A X) (j : Nat → rx_K) (hj : ∀ k pc, [189, 251, 379][k]? = some pc → rx_OK (zV b e D A X) mX13_compareHeads 4 pc (j k)) : rx_OK (zV b e D A X) mX13_compareHeads 4 133 (vX13_compareHeads_133 j) := by
  unfold vX13_compareHeads_133
  refine s_lstore_n hZ.1 dX13_compareHeads_133 rfl (Nat.le_of_ble_eq_true rfl) ?_
  refine s_aload_n hZ.1 dX13_compareHeads_134 rfl ?_
  refine yg13_28 dX13_compareHeads_135 zw4149 ?_
  refine s_iload_n hZ.1 dX13_compareHeads_138 rfl ?_
  refine s_lald (tt := 1) rfl dX13_compareHeads_139 ?_
  refine s_lconst dX13_compareHeads_140 (by decide +kernel) ?_
  refine s_lcmp dX13_compareHeads_141 ?_
  exact s_if_ne dX13_compareHeads_142 (by decide) (wX13_compareHeads_151 hZ j hj) (wX13_compareHeads_145 hZ j hj)
noncomputable def vX13_compareHeads_127 (j : Nat → rx_K) : rx_K := o_ld rx_isR 0 (o_getf 13 28 (o_ld rx_isI 1 (o_ald 1 ((vX13_compareHeads_133 j)))))
set_option maxRecDepth 20000 in
theorem wX13_compareHeads_127 (hZ : zO b e D A X) (j : Nat → rx_K) (hj : ∀ k pc, [189, 251, 379][k]? = some pc → rx_OK (zV b e D A X) mX13_compareHeads 4 pc (j k)) : rx_OK (zV b e D A X) mX13_compareHeads 4 127 (vX13_compareHeads_127 j) := by
  unfold vX13_compareHeads_127
  refine s_aload_n hZ.1 dX13_compareHeads_127 rfl ?_
  refine yg13_28 dX13_compareHeads_128 zw4149 ?_
  refine s_iload_n hZ.1 dX13_compareHeads_131 rfl ?_
  refine s_lald (tt := 1) rfl dX13_compareHeads_132 ?_
  exact (wX13_compareHeads_133 hZ j hj)
noncomputable def vX13_compareHeads_121 (j : Nat → rx_K) : rx_K := o_const 18446744073764969673 ((vX13_compareHeads_133 j))
set_option maxRecDepth 20000 in
theorem wX13_compareHeads_121 (hZ : zO b e D A X) (j : Nat → rx_K) (hj : ∀ k pc, [189, 251, 379][k]? = some pc → rx_OK (zV b e D A X) mX13_compareHeads 4 pc (j k)) : rx_OK (zV b e D A X) mX13_compareHeads 4 121 (vX13_compareHeads_121 j) := by
  unfold vX13_compareHeads_121
  refine s_ldc2 dX13_compareHeads_121 zw3188 (by decide +kernel) ?_
  exact s_goto dX13_compareHeads_124 (by decide) (wX13_compareHeads_133 hZ j hj)
noncomputable def vX13_compareHeads_105 (j : Nat → rx_K) : rx_K := o_ld rx_isI 1 (o_ld rx_isI 2 (o_callV 5 13 FX13_either (o_ld rx_isR 0 (o_getf 13 28 (o_ld rx_isI 1 (o_ald 1 (o_const 1 (o_bc (fun x y => lg_cmp x y) (o_c1 rx_eq (vX13_compareHeads_121 j) (vX13_compareHeads_127 j))))))))))
set_option maxRecDepth 20000 in
theorem wX13_compareHeads_105 (hZ : zO b e D A X) (j : Nat → rx_K) (hj : ∀ k pc, [189, 251, 379][k]? = some pc → rx_OK (zV b e D A X) mX13_compareHeads 4 pc (j k)) : rx_OK (zV b e D A X) mX13_compareHeads 4 105 (vX13_compareHeads_105 j) := by
  unfold vX13_compareHeads_105
  refine s_iload_n hZ.1 dX13_compareHeads_105 rfl ?_
  refine s_iload_n hZ.1 dX13_compareHeads_106 rfl ?_
  refine s_callV hZ.1 (Met_X13_either hZ) (Nat.le_of_ble_eq_true rfl) vy_X13_either zcl13 zw4008 zw390 (Or.inl zw4006) dX13_compareHeads_107 ?_
  refine s_aload_n hZ.1 dX13_compareHeads_110 rfl ?_
  refine yg13_28 dX13_compareHeads_111 zw4149 ?_
  refine s_iload_n hZ.1 dX13_compareHeads_114 rfl ?_
  refine s_lald (tt := 1) rfl dX13_compareHeads_115 ?_
  refine s_lconst dX13_compareHeads_116 (by decide +kernel) ?_
  refine s_lcmp dX13_compareHeads_117 ?_
  exact s_if_ne dX13_compareHeads_118 (by decide) (wX13_compareHeads_127 hZ j hj) (wX13_compareHeads_121 hZ j hj)
noncomputable def vX13_compareHeads_104 (j : Nat → rx_K) : rx_K := o_const 0 ((vX13_compareHeads_105 j))
set_option maxRecDepth 20000 in
theorem wX13_compareHeads_104 (hZ : zO b e D A X) (j : Nat → rx_K) (hj : ∀ k pc, [189, 251, 379][k]? = some pc → rx_OK (zV b e D A X) mX13_compareHeads 4 pc (j k)) : rx_OK (zV b e D A X) mX13_compareHeads 4 104 (vX13_compareHeads_104 j) := by
  unfold vX13_compareHeads_104
  refine s_iconst dX13_compareHeads_104 (by decide +kernel) ?_
  exact (wX13_compareHeads_105 hZ j hj)
noncomputable def vX13_compareHeads_100 (j : Nat → rx_K) : rx_K := o_const 8 ((vX13_compareHeads_105 j))
set_option maxRecDepth 20000 in
theorem wX13_compareHeads_100 (hZ : zO b e D A X) (j : Nat → rx_K) (hj : ∀ k pc, [189, 251, 379][k]? = some pc → rx_OK (zV b e D A X) mX13_compareHeads 4 pc (j k)) : rx_OK (zV b e D A X) mX13_compareHeads 4 100 (vX13_compareHeads_100 j) := by
  unfold vX13_compareHeads_100
  refine s_iconst dX13_compareHeads_100 (by decide +kernel) ?_
  exact s_goto dX13_compareHeads_101 (by decide) (wX13_compareHeads_105 hZ j hj)
noncomputable def vX13_compareHeads_90 (j : Nat → rx_K) : rx_K := o_ld rx_isR 0 (o_getf 13 27 (o_ld rx_isI 2 (o_ald 0 (o_const 16 (o_c2 rx_eq (vX13_compareHeads_100 j) (vX13_compareHeads_104 j))))))
set_option maxRecDepth 20000 in
theorem wX13_compareHeads_90 (hZ : zO b e D A X) (j : Nat → rx_K) (hj : ∀ k pc, [189, 251, 379][k]? = some pc → rx_OK (zV b e D A X) mX13_compareHeads 4 pc (j k)) : rx_OK (zV b e D A X) mX13_compareHeads 4 90 (vX13_compareHeads_90 j) := by
  unfold vX13_compareHeads_90
  refine s_aload_n hZ.1 dX13_compareHeads_90 rfl ?_
  refine yg13_27 dX13_compareHeads_91 zw4148 ?_
  refine s_iload_n hZ.1 dX13_compareHeads_94 rfl ?_
  refine s_iald (tt := 0) rfl dX13_compareHeads_95 ?_
  refine s_iconst dX13_compareHeads_96 (by decide +kernel) ?_
  exact s_icmp_ne dX13_compareHeads_97 (by decide) (wX13_compareHeads_104 hZ j hj) (wX13_compareHeads_100 hZ j hj)
noncomputable def vX13_compareHeads_89 (j : Nat → rx_K) : rx_K := o_const 0 ((vX13_compareHeads_90 j))
set_option maxRecDepth 20000 in
theorem wX13_compareHeads_89 (hZ : zO b e D A X) (j : Nat → rx_K) (hj : ∀ k pc, [189, 251, 379][k]? = some pc → rx_OK (zV b e D A X) mX13_compareHeads 4 pc (j k)) : rx_OK (zV b e D A X) mX13_compareHeads 4 89 (vX13_compareHeads_89 j) := by
  unfold vX13_compareHeads_89
  refine s_iconst dX13_compareHeads_89 (by decide +kernel) ?_
  exact (wX13_compareHeads_90 hZ j hj)
noncomputable def vX13_compareHeads_85 (j : Nat → rx_K) : rx_K := o_const 8 ((vX13_compareHeads_90 j))
set_option maxRecDepth 20000 in
theorem wX13_compareHeads_85 (hZ : zO b e D A X) (j : Nat → rx_K) (hj : ∀ k pc, [189, 251, 379][k]? = some pc → rx_OK (zV b e D A X) mX13_compareHeads 4 pc (j k)) : rx_OK (zV b e D A X) mX13_compareHeads 4 85 (vX13_compareHeads_85 j) := by
  unfold vX13_compareHeads_85
  refine s_iconst dX13_compareHeads_85 (by decide +kernel) ?_
  exact s_goto dX13_compareHeads_86 (by decide) (wX13_compareHeads_90 hZ j hj)
noncomputable def vX13_compareHeads_67 (j : Nat → rx_K) : rx_K := o_ld rx_isI 1 (o_ld rx_isI 2 (o_callV 5 13 FX13_either (o_ld rx_isR 0 (o_const 56 (o_ld rx_isR 0 (o_getf 13 27 (o_ld rx_isI 1 (o_ald 0 (o_const 16 (o_c2 rx_eq (vX13_compareHeads_85 j) (vX13_compareHeads_89 j)))))))))))
set_option maxRecDepth 20000 in
theorem wX13_compareHeads_67 (hZ : zO b e D A X) (j : Nat → rx_K) (hj : ∀ k pc, [189, 251, 379][k]? = some pc → rx_OK (zV b e D A X) mX13_compareHeads 4 pc (j k)) : rx_OK (zV b e D A X) mX13_compareHeads 4 67 (vX13_compareHeads_67 j) := by
  unfold vX13_compareHeads_67
  refine s_iload_n hZ.1 dX13_compareHeads_67 rfl ?_
  refine s_iload_n hZ.1 dX13_compareHeads_68 rfl ?_
  refine s_callV hZ.1 (Met_X13_either hZ) (Nat.le_of_ble_eq_true rfl) vy_X13_either zcl13 zw4008 zw390 (Or.inl zw4006) dX13_compareHeads_69 ?_
  refine s_aload_n hZ.1 dX13_compareHeads_72 rfl ?_
  refine s_bipush dX13_compareHeads_73 (by decide +kernel) ?_
  refine s_aload_n hZ.1 dX13_compareHeads_75 rfl ?_
  refine yg13_27 dX13_compareHeads_76 zw4148 ?_
  refine s_iload_n hZ.1 dX13_compareHeads_79 rfl ?_
  refine s_iald (tt := 0) rfl dX13_compareHeads_80 ?_
  refine s_iconst dX13_compareHeads_81 (by decide +kernel) ?_
  exact s_icmp_ne dX13_compareHeads_82 (by decide) (wX13_compareHeads_89 hZ j hj) (wX13_compareHeads_85 hZ j hj)
noncomputable def vX13_compareHeads_66 (j : Nat → rx_K) : rx_K := o_const 0 ((vX13_compareHeads_67 j))
set_option maxRecDepth 20000 in
theorem wX13_compareHeads_66 (hZ : zO b e D A X) (j : Nat → rx_K) (hj : ∀ k pc, [189, 251, 379][k]? = some pc → rx_OK (zV b e D A X) mX13_compareHeads 4 pc (j k)) : rx_OK (zV b e D A X) mX13_compareHeads 4 66 (vX13_compareHeads_66 j) := by
  unfold vX13_compareHeads_66
  refine s_iconst dX13_compareHeads_66 (by decide +kernel) ?_
  exact (wX13_compareHeads_67 hZ j hj)
noncomputable def vX13_compareHeads_62 (j : Nat → rx_K) : rx_K := o_const 8 ((vX13_compareHeads_67 j))
set_option maxRecDepth 20000 in
theorem wX13_compareHeads_62 (hZ : zO b e D A X) (j : Nat → rx_K) (hj : ∀ k pc, [189, 251, 379][k]? = some pc → rx_OK (zV b e D A X) mX13_compareHeads 4 pc (j k)) : rx_OK (zV b e D A X) mX13_compareHeads 4 62 (vX13_compareHeads_62 j) := by
  unfold vX13_compareHeads_62
  refine s_iconst dX13_compareHeads_62 (by decide +kernel) ?_
  exact s_goto dX13_compareHeads_63 (by decide) (wX13_compareHeads_67 hZ j hj)
noncomputable def vX13_compareHeads_52 (j : Nat → rx_K) : rx_K := o_ld rx_isR 0 (o_getf 13 27 (o_ld rx_isI 2 (o_ald 0 (o_const 8 (o_c2 rx_eq (vX13_compareHeads_62 j) (vX13_compareHeads_66 j))))))
set_option maxRecDepth 20000 in
theorem wX13_compareHeads_52 (hZ : zO b e D A X) (j : Nat → rx_K) (hj : ∀ k pc, [189, 251, 379][k]? = some pc → rx_OK (zV b e D A X) mX13_compareHeads 4 pc (j k)) : rx_OK (zV b e D A X) mX13_compareHeads 4 52 (vX13_compareHeads_52 j) := by
  unfold vX13_compareHeads_52
  refine s_aload_n hZ.1 dX13_compareHeads_52 rfl ?_
  refine yg13_27 dX13_compareHeads_53 zw4148 ?_
  refine s_iload_n hZ.1 dX13_compareHeads_56 rfl ?_
  refine s_iald (tt := 0) rfl dX13_compareHeads_57 ?_
  refine s_iconst dX13_compareHeads_58 (by decide +kernel) ?_
  exact s_icmp_ne dX13_compareHeads_59 (by decide) (wX13_compareHeads_66 hZ j hj) (wX13_compareHeads_62 hZ j hj)
noncomputable def vX13_compareHeads_51 (j : Nat → rx_K) : rx_K := o_const 0 ((vX13_compareHeads_52 j))
set_option maxRecDepth 20000 in
theorem wX13_compareHeads_51 (hZ : zO b e D A X) (j : Nat → rx_K) (hj : ∀ k pc, [189, 251, 379][k]? = some pc → rx_OK (zV b e D A X) mX13_compareHeads 4 pc (j k)) : rx_OK (zV b e D A X) mX13_compareHeads 4 51 (vX13_compareHeads_51 j) := by
  unfold vX13_compareHeads_51
  refine s_iconst dX13_compareHeads_51 (by decide +kernel) ?_
  exact (wX13_compareHeads_52 hZ j hj)
noncomputable def vX13_compareHeads_47 (j : Nat → rx_K) : rx_K := o_const 8 ((vX13_compareHeads_52 j))
set_option maxRecDepth 20000 in
theorem wX13_compareHeads_47 (hZ : zO b e D A X) (j : Nat → rx_K) (hj : ∀ k pc, [189, 251, 379][k]? = some pc → rx_OK (zV b e D A X) mX13_compareHeads 4 pc (j k)) : rx_OK (zV b e D A X) mX13_compareHeads 4 47 (vX13_compareHeads_47 j) := by
  unfold vX13_compareHeads_47
  refine s_iconst dX13_compareHeads_47 (by decide +kernel) ?_
  exact s_goto dX13_compareHeads_48 (by decide) (wX13_compareHeads_52 hZ j hj)
noncomputable def vX13_compareHeads_30 (j : Nat → rx_K) : rx_K := o_ld rx_isI 1 (o_ld rx_isI 2 (o_callV 5 13 FX13_either (o_ld rx_isR 0 (o_const 40 (o_ld rx_isR 0 (o_getf 13 27 (o_ld rx_isI 1 (o_ald 0 (o_const 8 (o_c2 rx_eq (vX13_compareHeads_47 j) (vX13_compareHeads_51 j)))))))))))
set_option maxRecDepth 20000 in
theorem wX13_compareHeads_30 (hZ : zO b e D A X) (j : Nat → rx_K) (hj : ∀ k pc, [189, 251, 379][k]? = some pc → rx_OK (zV b e D A X) mX13_compareHeads 4 pc (j k)) : rx_OK (zV b e D A X) mX13_compareHeads 4 30 (vX13_compareHeads_30 j) := by
  unfold vX13_compareHeads_30
  refine s_iload_n hZ.1 dX13_compareHeads_30 rfl ?_
  refine s_iload_n hZ.1 dX13_compareHeads_31 rfl ?_
  refine s_callV hZ.1 (Met_X13_either hZ) (Nat.le_of_ble_eq_true rfl) vy_X13_either zcl13 zw4008 zw390 (Or.inl zw4006) dX13_compareHeads_32 ?_
  refine s_aload_n hZ.1 dX13_compareHeads_35 rfl ?_
  refine s_iconst dX13_compareHeads_36 (by decide +kernel) ?_
  refine s_aload_n hZ.1 dX13_compareHeads_37 rfl ?_
  refine yg13_27 dX13_compareHeads_38 zw4148 ?_
  refine s_iload_n hZ.1 dX13_compareHeads_41 rfl ?_
  refine s_iald (tt := 0) rfl dX13_compareHeads_42 ?_
  refine s_iconst dX13_compareHeads_43 (by decide +kernel) ?_
  exact s_icmp_ne dX13_compareHeads_44 (by decide) (wX13_compareHeads_51 hZ j hj) (wX13_compareHeads_47 hZ j hj)
noncomputable def vX13_compareHeads_29 (j : Nat → rx_K) : rx_K := o_const 0 ((vX13_compareHeads_30 j))
set_option maxRecDepth 20000 in
theorem wX13_compareHeads_29 (hZ : zO b e D A X) (j : Nat → rx_K) (hj : ∀ k pc, [189, 251, 379][k]? = some pc → rx_OK (zV b e D A X) mX13_compareHeads 4 pc (j k)) : rx_OK (zV b e D A X) mX13_compareHeads 4 29 (vX13_compareHeads_29 j) := by
  unfold vX13_compareHeads_29
  refine s_iconst dX13_compareHeads_29 (by decide +kernel) ?_
  exact (wX13_compareHeads_30 hZ j hj)
noncomputable def vX13_compareHeads_25 (j : Nat → rx_K) : rx_K := o_const 8 ((vX13_compareHeads_30 j))
set_option maxRecDepth 20000 in
theorem wX13_compareHeads_25 (hZ : zO b e D A X) (j : Nat → rx_K) (hj : ∀ k pc, [189, 251, 379][k]? = some pc → rx_OK (zV b e D A X) mX13_compareHeads 4 pc (j k)) : rx_OK (zV b e D A X) mX13_compareHeads 4 25 (vX13_compareHeads_25 j) := by
  unfold vX13_compareHeads_25
  refine s_iconst dX13_compareHeads_25 (by decide +kernel) ?_
  exact s_goto dX13_compareHeads_26 (by decide) (wX13_compareHeads_30 hZ j hj)
noncomputable def vX13_compareHeads_16 (j : Nat → rx_K) : rx_K := o_ld rx_isR 0 (o_getf 13 26 (o_ld rx_isI 2 (o_ald 3 (o_c1 rx_eq (vX13_compareHeads_25 j) (vX13_compareHeads_29 j)))))
set_option maxRecDepth 20000 in
theorem wX13_compareHeads_16 (hZ : zO b e D A X) (j : Nat → rx_K) (hj : ∀ k pc, [189, 251, 379][k]? = some pc → rx_OK (zV b e D A X) mX13_compareHeads 4 pc (j k)) : rx_OK (zV b e D A X) mX13_compareHeads 4 16 (vX13_compareHeads_16 j) := by
  unfold vX13_compareHeads_16
  refine s_aload_n hZ.1 dX13_compareHeads_16 rfl ?_
  refine yg13_26 dX13_compareHeads_17 zw4147 ?_
  refine s_iload_n hZ.1 dX13_compareHeads_20 rfl ?_
  refine s_zald (tt := 3) rfl dX13_compareHeads_21 ?_
  exact s_if_ne dX13_compareHeads_22 (by decide) (wX13_compareHeads_29 hZ j hj) (wX13_compareHeads_25 hZ j hj)
noncomputable def vX13_compareHeads_15 (j : Nat → rx_K) : rx_K := o_const 0 ((vX13_compareHeads_16 j))
set_option maxRecDepth 20000 in
theorem wX13_compareHeads_15 (hZ : zO b e D A X) (j : Nat → rx_K) (hj : ∀ k pc, [189, 251, 379][k]? = some pc → rx_OK (zV b e D A X) mX13_compareHeads 4 pc (j k)) : rx_OK (zV b e D A X) mX13_compareHeads 4 15 (vX13_compareHeads_15 j) := by
  unfold vX13_compareHeads_15
  refine s_iconst dX13_compareHeads_15 (by decide +kernel) ?_
  exact (wX13_compareHeads_16 hZ j hj)
noncomputable def vX13_compareHeads_11 (j : Nat → rx_K) : rx_K := o_const 8 ((vX13_compareHeads_16 j))
set_option maxRecDepth 20000 in
theorem wX13_compareHeads_11 (hZ : zO b e D A X) (j : Nat → rx_K) (hj : ∀ k pc, [189, 251, 379][k]? = some pc → rx_OK (zV b e D A X) mX13_compareHeads 4 pc (j k)) : rx_OK (zV b e D A X) mX13_compareHeads 4 11 (vX13_compareHeads_11 j) := by
  unfold vX13_compareHeads_11
  refine s_iconst dX13_compareHeads_11 (by decide +kernel) ?_
  exact s_goto dX13_compareHeads_12 (by decide) (wX13_compareHeads_16 hZ j hj)
noncomputable def vX13_compareHeads_0 (j : Nat → rx_K) : rx_K := o_ld rx_isR 0 (o_const 24 (o_ld rx_isR 0 (o_getf 13 26 (o_ld rx_isI 1 (o_ald 3 (o_c1 rx_eq (vX13_compareHeads_11 j) (vX13_compareHeads_15 j)))))))
set_option maxRecDepth 20000 in
theorem wX13_compareHeads_0 (hZ : zO b e D A X) (j : Nat → rx_K) (hj : ∀ k pc, [189, 251, 379][k]? = some pc → rx_OK (zV b e D A X) mX13_compareHeads 4 pc (j k)) : rx_OK (zV b e D A X) mX13_compareHeads 4 0 (vX13_compareHeads_0 j) := by
  unfold vX13_compareHeads_0
  refine s_aload_n hZ.1 dX13_compareHeads_0 rfl ?_
  refine s_iconst dX13_compareHeads_1 (by decide +kernel) ?_
  refine s_aload_n hZ.1 dX13_compareHeads_2 rfl ?_
  refine yg13_26 dX13_compareHeads_3 zw4147 ?_
  refine s_iload_n hZ.1 dX13_compareHeads_6 rfl ?_
  refine s_zald (tt := 3) rfl dX13_compareHeads_7 ?_
  exact s_if_ne dX13_compareHeads_8 (by decide) (wX13_compareHeads_15 hZ j hj) (wX13_compareHeads_11 hZ j hj)
noncomputable def vhX13_compareHeads (j : Nat → rx_K) : List rx_K := [vX13_compareHeads_189 j, vX13_compareHeads_251 j, vX13_compareHeads_379 j]
theorem vlX13_compareHeads (hZ : zO b e D A X) : ∀ n k pc, [189, 251, 379][k]? = some pc → rx_OK (zV b e D A X) mX13_compareHeads 4 pc (rx_J (vhX13_compareHeads) n k) := rx_loop fun j hj k pc h => by
  match k, h with
  | 0, h =>
    have e9 := Option.some.inj (show some 189 = some pc from h)
    subst e9
    exact wX13_compareHeads_189 hZ j hj
  | 1, h =>
    have e9 := Option.some.inj (show some 251 = some pc from h)
    subst e9
    exact wX13_compareHeads_251 hZ j hj
  | 2, h =>
    have e9 := Option.some.inj (show some 379 = some pc from h)
    subst e9
    exact wX13_compareHeads_379 hZ j hj
  | _ + 3, h => exact absurd h (by simp)
noncomputable def FX13_compareHeads : List Nat → rx_H → Option (Nat × rx_H) := rx_ent 10 (vX13_compareHeads_0 (rx_J (vhX13_compareHeads) 4000000000))
theorem Met_X13_compareHeads (hZ : zO b e D A X) : rx_Met (zV b e D A X) 4 yX13_compareHeads mX13_compareHeads (FX13_compareHeads) := rx_entry hZ.1 (wX13_compareHeads_0 hZ _ (vlX13_compareHeads hZ 4000000000)) (by decide +kernel) rfl (fun h => by cases h)
abbrev mX13_alike : rx_M := (RX13, cX13_alike, 5, (some .int), false)
theorem vy_X13_alike : rx_Y (zV b e D A X) yX13_alike mX13_alike 2 := ⟨zw4029, zw431, by decide, by decide +kernel, by decide +kernel, by decide +kernel⟩
noncomputable def vX13_alike_82 (j : Nat → rx_K) : rx_K := o_const 34359738352 (o_ret1 rx_isI)
set_option maxRecDepth 20000 in
theorem wX13_alike_82 (hZ : zO b e D A X) (j : Nat → rx_K) (hj : ∀ k pc, [2][k]? = some pc → rx_OK (zV b e D A X) mX13_alike 1 pc (j k)) : rx_OK (zV b e D A X) mX13_alike 1 82 (vX13_alike_82 j) := by
  unfold vX13_alike_82
  refine s_bipush dX13_alike_82 (by decide +kernel) ?_
  exact s_iret hZ.1 rfl dX13_alike_84
noncomputable def vX13_alike_76 (j : Nat → rx_K) : rx_K := o_inc 3 (1) ((j 0))
set_option maxRecDepth 20000 in
theorem wX13_alike_76 (hZ : zO b e D A X) (j : Nat → rx_K) (hj : ∀ k pc, [2][k]? = some pc → rx_OK (zV b e D A X) mX13_alike 1 pc (j k)) : rx_OK (zV b e D A X) mX13_alike 1 76 (vX13_alike_76 j) := by
  unfold vX13_alike_76
  refine s_iinc hZ.1 dX13_alike_76 (Nat.le_of_ble_eq_true rfl) ?_
  exact s_goto dX13_alike_79 (by decide) (hj 0 2 rfl)
noncomputable def vX13_alike_73 (j : Nat → rx_K) : rx_K := o_ld rx_isI 4 (o_ret1 rx_isI)
set_option maxRecDepth 20000 in
theorem wX13_alike_73 (hZ : zO b e D A X) (j : Nat → rx_K) (hj : ∀ k pc, [2][k]? = some pc → rx_OK (zV b e D A X) mX13_alike 1 pc (j k)) : rx_OK (zV b e D A X) mX13_alike 1 73 (vX13_alike_73 j) := by
  unfold vX13_alike_73
  refine s_iload hZ.1 dX13_alike_73 ?_
  exact s_iret hZ.1 rfl dX13_alike_75
noncomputable def vX13_alike_63 (j : Nat → rx_K) : rx_K := o_ld rx_isR 0 (o_ld rx_isI 2 (o_ld rx_isI 4 (o_callV 2 13 FX13_sameParams (o_c1 rx_eq (vX13_alike_76 j) (vX13_alike_73 j)))))
set_option maxRecDepth 20000 in
theorem wX13_alike_63 (hZ : zO b e D A X) (j : Nat → rx_K) (hj : ∀ k pc, [2][k]? = some pc → rx_OK (zV b e D A X) mX13_alike 1 pc (j k)) : rx_OK (zV b e D A X) mX13_alike 1 63 (vX13_alike_63 j) := by
  unfold vX13_alike_63
  refine s_aload_n hZ.1 dX13_alike_63 rfl ?_
  refine s_iload_n hZ.1 dX13_alike_64 rfl ?_
  refine s_iload hZ.1 dX13_alike_65 ?_
  refine s_callV hZ.1 (Met_X13_sameParams hZ) (Nat.le_of_ble_eq_true rfl) vy_X13_sameParams zcl13 zw3243 zw238 (Or.inl zw3241) dX13_alike_67 ?_
  exact s_if_eq dX13_alike_70 (by decide) (wX13_alike_76 hZ j hj) (wX13_alike_73 hZ j hj)
noncomputable def vX13_alike_46 (j : Nat → rx_K) : rx_K := o_ld rx_isR 0 (o_getf 13 51 (o_ld rx_isI 4 (o_ald 1 (o_ld rx_isR 0 (o_getf 13 51 (o_ld rx_isI 2 (o_ald 1 (o_bc (fun x y => lg_cmp x y) (o_c1 rx_eq (vX13_alike_63 j) (vX13_alike_76 j))))))))))
set_option maxRecDepth 20000 in
theorem wX13_alike_46 (hZ : zO b e D A X) (j : Nat → rx_K) (hj : ∀ k pc, [2][k]? = some pc → rx_OK (zV b e D A X) mX13_alike 1 pc (j k)) : rx_OK (zV b e D A X) mX13_alike 1 46 (vX13_alike_46 j) := by
  unfold vX13_alike_46
  refine s_aload_n hZ.1 dX13_alike_46 rfl ?_
  refine yg13_51 dX13_alike_47 zw4172 ?_
  refine s_iload hZ.1 dX13_alike_50 ?_
  refine s_lald (tt := 1) rfl dX13_alike_52 ?_
  refine s_aload_n hZ.1 dX13_alike_53 rfl ?_
  refine yg13_51 dX13_alike_54 zw4172 ?_
  refine s_iload_n hZ.1 dX13_alike_57 rfl ?_
  refine s_lald (tt := 1) rfl dX13_alike_58 ?_
  refine s_lcmp dX13_alike_59 ?_
  exact s_if_ne dX13_alike_60 (by decide) (wX13_alike_76 hZ j hj) (wX13_alike_63 hZ j hj)
noncomputable def vX13_alike_36 (j : Nat → rx_K) : rx_K := o_ld rx_isR 0 (o_getf 13 49 (o_ld rx_isI 4 (o_ald 3 (o_c1 rx_eq (vX13_alike_46 j) (vX13_alike_76 j)))))
set_option maxRecDepth 20000 in
theorem wX13_alike_36 (hZ : zO b e D A X) (j : Nat → rx_K) (hj : ∀ k pc, [2][k]? = some pc → rx_OK (zV b e D A X) mX13_alike 1 pc (j k)) : rx_OK (zV b e D A X) mX13_alike 1 36 (vX13_alike_36 j) := by
  unfold vX13_alike_36
  refine s_aload_n hZ.1 dX13_alike_36 rfl ?_
  refine yg13_49 dX13_alike_37 zw4170 ?_
  refine s_iload hZ.1 dX13_alike_40 ?_
  refine s_zald (tt := 3) rfl dX13_alike_42 ?_
  exact s_if_ne dX13_alike_43 (by decide) (wX13_alike_76 hZ j hj) (wX13_alike_46 hZ j hj)
noncomputable def vX13_alike_12 (j : Nat → rx_K) : rx_K := o_ld rx_isI 1 (o_const 272 (o_bi (fun x y => x * y) (o_ld rx_isI 3 (o_bi (fun x y => x + y) (o_st rx_isI 4 (o_ld rx_isR 0 (o_getf 13 42 (o_ld rx_isI 4 (o_ald 0 (o_ld rx_isR 0 (o_getf 13 42 (o_ld rx_isI 2 (o_ald 0 (o_c2 rx_eq (vX13_alike_36 j) (vX13_alike_76 j)))))))))))))))
set_option maxRecDepth 20000 in
theorem wX13_alike_12 (hZ : zO b e D A X) (j : Nat → rx_K) (hj : ∀ k pc, [2][k]? = some pc → rx_OK (zV b e D A X) mX13_alike 1 pc (j k)) : rx_OK (zV b e D A X) mX13_alike 1 12 (vX13_alike_12 j) := by
  unfold vX13_alike_12
  refine s_iload_n hZ.1 dX13_alike_12 rfl ?_
  refine s_bipush dX13_alike_13 (by decide +kernel) ?_
  refine s_imul dX13_alike_15 ?_
  refine s_iload_n hZ.1 dX13_alike_16 rfl ?_
  refine s_iadd dX13_alike_17 ?_
  refine s_istore hZ.1 dX13_alike_18 (Nat.le_of_ble_eq_true rfl) ?_
  refine s_aload_n hZ.1 dX13_alike_20 rfl ?_
  refine yg13_42 dX13_alike_21 zw4163 ?_
  refine s_iload hZ.1 dX13_alike_24 ?_
  refine s_iald (tt := 0) rfl dX13_alike_26 ?_
  refine s_aload_n hZ.1 dX13_alike_27 rfl ?_
  refine yg13_42 dX13_alike_28 zw4163 ?_
  refine s_iload_n hZ.1 dX13_alike_31 rfl ?_
  refine s_iald (tt := 0) rfl dX13_alike_32 ?_
  exact s_icmp_ne dX13_alike_33 (by decide) (wX13_alike_76 hZ j hj) (wX13_alike_36 hZ j hj)
noncomputable def vX13_alike_2 (j : Nat → rx_K) : rx_K := o_ld rx_isI 3 (o_ld rx_isR 0 (o_getf 13 41 (o_ld rx_isI 1 (o_ald 0 (o_c2 rx_lt (vX13_alike_12 j) (vX13_alike_82 j))))))
set_option maxRecDepth 20000 in
theorem wX13_alike_2 (hZ : zO b e D A X) (j : Nat → rx_K) (hj : ∀ k pc, [2][k]? = some pc → rx_OK (zV b e D A X) mX13_alike 1 pc (j k)) : rx_OK (zV b e D A X) mX13_alike 1 2 (vX13_alike_2 j) := by
  unfold vX13_alike_2
  refine s_iload_n hZ.1 dX13_alike_2 rfl ?_
  refine s_aload_n hZ.1 dX13_alike_3 rfl ?_
  refine yg13_41 dX13_alike_4 zw4162 ?_
  refine s_iload_n hZ.1 dX13_alike_7 rfl ?_
  refine s_iald (tt := 0) rfl dX13_alike_8 ?_
  exact s_icmp_ge dX13_alike_9 (by decide) (wX13_alike_82 hZ j hj) (wX13_alike_12 hZ j hj)
noncomputable def vX13_alike_0 (j : Nat → rx_K) : rx_K := o_const 0 (o_st rx_isI 3 ((vX13_alike_2 j)))
set_option maxRecDepth 20000 in
theorem wX13_alike_0 (hZ : zO b e D A X) (j : Nat → rx_K) (hj : ∀ k pc, [2][k]? = some pc → rx_OK (zV b e D A X) mX13_alike 1 pc (j k)) : rx_OK (zV b e D A X) mX13_alike 1 0 (vX13_alike_0 j) := by
  unfold vX13_alike_0
  refine s_iconst dX13_alike_0 (by decide +kernel) ?_
  refine s_istore_n hZ.1 dX13_alike_1 rfl (Nat.le_of_ble_eq_true rfl) ?_
  exact (wX13_alike_2 hZ j hj)
noncomputable def vhX13_alike (j : Nat → rx_K) : List rx_K := [vX13_alike_2 j]
theorem vlX13_alike (hZ : zO b e D A X) : ∀ n k pc, [2][k]? = some pc → rx_OK (zV b e D A X) mX13_alike 1 pc (rx_J (vhX13_alike) n k) := rx_loop fun j hj k pc h => by
  match k, h with
  | 0, h =>
    have e9 := Option.some.inj (show some 2 = some pc from h)
    subst e9
    exact wX13_alike_2 hZ j hj
  | _ + 1, h => exact absurd h (by simp)
noncomputable def FX13_alike : List Nat → rx_H → Option (Nat × rx_H) := rx_ent 5 (vX13_alike_0 (rx_J (vhX13_alike) 4000000000))
theorem Met_X13_alike (hZ : zO b e D A X) : rx_Met (zV b e D A X) 1 yX13_alike mX13_alike (FX13_alike) := rx_entry hZ.1 (wX13_alike_0 hZ _ (vlX13_alike hZ 4000000000)) (by decide +kernel) rfl (fun h => by cases h)
abbrev mX13_sameToken : rx_M := (RX13, cX13_sameToken, 3, (some .boolean), false)
theorem vy_X13_sameToken : rx_Y (zV b e D A X) yX13_sameToken mX13_sameToken 2 := ⟨zw4037, zw431, by decide, by decide +kernel, by decide +kernel, by decide +kernel⟩
noncomputable def vX13_sameToken_80 : rx_K := o_ret1 rx_isZ
set_option maxRecDepth 20000 in
theorem wX13_sameToken_80 (hZ : zO b e D A X) : rx_OK (zV b e D A X) mX13_sameToken 0 80 vX13_sameToken_80 := by
  unfold vX13_sameToken_80
  exact s_zret rx_z_ok rfl dX13_sameToken_80
noncomputable def vX13_sameToken_79 : rx_K := o_const 0 (vX13_sameToken_80)
set_option maxRecDepth 20000 in
theorem wX13_sameToken_79 (hZ : zO b e D A X) : rx_OK (zV b e D A X) mX13_sameToken 0 79 vX13_sameToken_79 := by
  unfold vX13_sameToken_79
  refine s_iconst dX13_sameToken_79 (by decide +kernel) ?_
  exact (wX13_sameToken_80 hZ)
noncomputable def vX13_sameToken_75 : rx_K := o_const 8 (vX13_sameToken_80)
set_option maxRecDepth 20000 in
theorem wX13_sameToken_75 (hZ : zO b e D A X) : rx_OK (zV b e D A X) mX13_sameToken 0 75 vX13_sameToken_75 := by
  unfold vX13_sameToken_75
  refine s_iconst dX13_sameToken_75 (by decide +kernel) ?_
  exact s_goto dX13_sameToken_76 (by decide) (wX13_sameToken_80 hZ)
noncomputable def vX13_sameToken_46 : rx_K := o_ld rx_isR 0 (o_getf 13 13 (o_ld rx_isI 1 (o_ald 0 (o_ld rx_isR 0 (o_getf 13 12 (o_ld rx_isI 1 (o_ald 0 (o_bi (fun x y => x - y) (o_ld rx_isR 0 (o_getf 13 13 (o_ld rx_isI 2 (o_ald 0 (o_ld rx_isR 0 (o_getf 13 12 (o_ld rx_isI 2 (o_ald 0 (o_bi (fun x y => x - y) (o_c2 rx_eq vX13_sameToken_75 vX13_sameToken_79))))))))))))))))))
set_option maxRecDepth 20000 in
theorem wX13_sameToken_46 (hZ : zO b e D A X) : rx_OK (zV b e D A X) mX13_sameToken 0 46 vX13_sameToken_46 := by
  unfold vX13_sameToken_46
  refine s_aload_n hZ.1 dX13_sameToken_46 rfl ?_
  refine yg13_13 dX13_sameToken_47 zw4134 ?_
  refine s_iload_n hZ.1 dX13_sameToken_50 rfl ?_
  refine s_iald (tt := 0) rfl dX13_sameToken_51 ?_
  refine s_aload_n hZ.1 dX13_sameToken_52 rfl ?_
  refine yg13_12 dX13_sameToken_53 zw4133 ?_
  refine s_iload_n hZ.1 dX13_sameToken_56 rfl ?_
  refine s_iald (tt := 0) rfl dX13_sameToken_57 ?_
  refine s_isub dX13_sameToken_58 ?_
  refine s_aload_n hZ.1 dX13_sameToken_59 rfl ?_
  refine yg13_13 dX13_sameToken_60 zw4134 ?_
  refine s_iload_n hZ.1 dX13_sameToken_63 rfl ?_
  refine s_iald (tt := 0) rfl dX13_sameToken_64 ?_
  refine s_aload_n hZ.1 dX13_sameToken_65 rfl ?_
  refine yg13_12 dX13_sameToken_66 zw4133 ?_
  refine s_iload_n hZ.1 dX13_sameToken_69 rfl ?_
  refine s_iald (tt := 0) rfl dX13_sameToken_70 ?_
  refine s_isub dX13_sameToken_71 ?_
  exact s_icmp_ne dX13_sameToken_72 (by decide) (wX13_sameToken_79 hZ) (wX13_sameToken_75 hZ)
noncomputable def vX13_sameToken_31 : rx_K := o_ld rx_isR 0 (o_getf 13 15 (o_ld rx_isI 1 (o_ald 0 (o_ld rx_isR 0 (o_getf 13 15 (o_ld rx_isI 2 (o_ald 0 (o_c2 rx_eq vX13_sameToken_46 vX13_sameToken_79))))))))
set_option maxRecDepth 20000 in
theorem wX13_sameToken_31 (hZ : zO b e D A X) : rx_OK (zV b e D A X) mX13_sameToken 0 31 vX13_sameToken_31 := by
  unfold vX13_sameToken_31
  refine s_aload_n hZ.1 dX13_sameToken_31 rfl ?_
  refine yg13_15 dX13_sameToken_32 zw4136 ?_
  refine s_iload_n hZ.1 dX13_sameToken_35 rfl ?_
  refine s_iald (tt := 0) rfl dX13_sameToken_36 ?_
  refine s_aload_n hZ.1 dX13_sameToken_37 rfl ?_
  refine yg13_15 dX13_sameToken_38 zw4136 ?_
  refine s_iload_n hZ.1 dX13_sameToken_41 rfl ?_
  refine s_iald (tt := 0) rfl dX13_sameToken_42 ?_
  exact s_icmp_ne dX13_sameToken_43 (by decide) (wX13_sameToken_79 hZ) (wX13_sameToken_46 hZ)
noncomputable def vX13_sameToken_15 : rx_K := o_ld rx_isR 0 (o_getf 13 14 (o_ld rx_isI 1 (o_ald 1 (o_ld rx_isR 0 (o_getf 13 14 (o_ld rx_isI 2 (o_ald 1 (o_bc (fun x y => lg_cmp x y) (o_c1 rx_eq vX13_sameToken_31 vX13_sameToken_79)))))))))
set_option maxRecDepth 20000 in
theorem wX13_sameToken_15 (hZ : zO b e D A X) : rx_OK (zV b e D A X) mX13_sameToken 0 15 vX13_sameToken_15 := by
  unfold vX13_sameToken_15
  refine s_aload_n hZ.1 dX13_sameToken_15 rfl ?_
  refine yg13_14 dX13_sameToken_16 zw4135 ?_
  refine s_iload_n hZ.1 dX13_sameToken_19 rfl ?_
  refine s_lald (tt := 1) rfl dX13_sameToken_20 ?_
  refine s_aload_n hZ.1 dX13_sameToken_21 rfl ?_
  refine yg13_14 dX13_sameToken_22 zw4135 ?_
  refine s_iload_n hZ.1 dX13_sameToken_25 rfl ?_
  refine s_lald (tt := 1) rfl dX13_sameToken_26 ?_
  refine s_lcmp dX13_sameToken_27 ?_
  exact s_if_ne dX13_sameToken_28 (by decide) (wX13_sameToken_79 hZ) (wX13_sameToken_31 hZ)
noncomputable def vX13_sameToken_0 : rx_K := o_ld rx_isR 0 (o_getf 13 11 (o_ld rx_isI 1 (o_ald 0 (o_ld rx_isR 0 (o_getf 13 11 (o_ld rx_isI 2 (o_ald 0 (o_c2 rx_eq vX13_sameToken_15 vX13_sameToken_79))))))))
set_option maxRecDepth 20000 in
theorem wX13_sameToken_0 (hZ : zO b e D A X) : rx_OK (zV b e D A X) mX13_sameToken 0 0 vX13_sameToken_0 := by
  unfold vX13_sameToken_0
  refine s_aload_n hZ.1 dX13_sameToken_0 rfl ?_
  refine yg13_11 dX13_sameToken_1 zw4132 ?_
  refine s_iload_n hZ.1 dX13_sameToken_4 rfl ?_
  refine s_iald (tt := 0) rfl dX13_sameToken_5 ?_
  refine s_aload_n hZ.1 dX13_sameToken_6 rfl ?_
  refine yg13_11 dX13_sameToken_7 zw4132 ?_
  refine s_iload_n hZ.1 dX13_sameToken_10 rfl ?_
  refine s_iald (tt := 0) rfl dX13_sameToken_11 ?_
  exact s_icmp_ne dX13_sameToken_12 (by decide) (wX13_sameToken_79 hZ) (wX13_sameToken_15 hZ)
noncomputable def FX13_sameToken : List Nat → rx_H → Option (Nat × rx_H) := rx_ent 3 vX13_sameToken_0
theorem Met_X13_sameToken (hZ : zO b e D A X) : rx_Met (zV b e D A X) 0 yX13_sameToken mX13_sameToken (FX13_sameToken) := rx_entry hZ.1 (wX13_sameToken_0 hZ) (by decide +kernel) rfl (fun h => by cases h)
abbrev mX13_sameTokens : rx_M := (RX13, cX13_sameTokens, 9, (some .boolean), false)
theorem vy_X13_sameTokens : rx_Y (zV b e D A X) yX13_sameTokens mX13_sameTokens 2 := ⟨zw4033, zw431, by decide, by decide +kernel, by decide +kernel, by decide +kernel⟩
noncomputable def vX13_sameTokens_173 (j : Nat → rx_K) : rx_K := o_ld rx_isI 5 (o_ret1 rx_isZ)
set_option maxRecDepth 20000 in
theorem wX13_sameTokens_173 (hZ : zO b e D A X) (j : Nat → rx_K) (hj : ∀ k pc, [140][k]? = some pc → rx_OK (zV b e D A X) mX13_sameTokens 1 pc (j k)) : rx_OK (zV b e D A X) mX13_sameTokens 1 173 (vX13_sameTokens_173 j) := by
  unfold vX13_sameTokens_173
  refine s_iload hZ.1 dX13_sameTokens_173 ?_
  exact s_zret rx_z_ok rfl dX13_sameTokens_175
noncomputable def vX13_sameTokens_151 (j : Nat → rx_K) : rx_K := o_ld rx_isR 0 (o_ld rx_isI 6 (o_ld rx_isI 8 (o_bi (fun x y => x + y) (o_ld rx_isI 7 (o_ld rx_isI 8 (o_bi (fun x y => x + y) (o_callV 2 13 FX13_sameToken (o_st rx_isI 5 (o_inc 8 (1) ((j 0)))))))))))
set_option maxRecDepth 20000 in
theorem wX13_sameTokens_151 (hZ : zO b e D A X) (j : Nat → rx_K) (hj : ∀ k pc, [140][k]? = some pc → rx_OK (zV b e D A X) mX13_sameTokens 1 pc (j k)) : rx_OK (zV b e D A X) mX13_sameTokens 1 151 (vX13_sameTokens_151 j) := by
  unfold vX13_sameTokens_151
  refine s_aload_n hZ.1 dX13_sameTokens_151 rfl ?_
  refine s_iload hZ.1 dX13_sameTokens_152 ?_
  refine s_iload hZ.1 dX13_sameTokens_154 ?_
  refine s_iadd dX13_sameTokens_156 ?_
  refine s_iload hZ.1 dX13_sameTokens_157 ?_
  refine s_iload hZ.1 dX13_sameTokens_159 ?_
  refine s_iadd dX13_sameTokens_161 ?_
  refine s_callV hZ.1 (Met_X13_sameToken hZ) (Nat.le_of_ble_eq_true rfl) vy_X13_sameToken zcl13 zw4036 zw397 (Or.inl zw4034) dX13_sameTokens_162 ?_
  refine s_istore hZ.1 dX13_sameTokens_165 (Nat.le_of_ble_eq_true rfl) ?_
  refine s_iinc hZ.1 dX13_sameTokens_167 (Nat.le_of_ble_eq_true rfl) ?_
  exact s_goto dX13_sameTokens_170 (by decide) (hj 0 140 rfl)
noncomputable def vX13_sameTokens_146 (j : Nat → rx_K) : rx_K := o_ld rx_isI 5 (o_c1 rx_eq (vX13_sameTokens_173 j) (vX13_sameTokens_151 j))
set_option maxRecDepth 20000 in
theorem wX13_sameTokens_146 (hZ : zO b e D A X) (j : Nat → rx_K) (hj : ∀ k pc, [140][k]? = some pc → rx_OK (zV b e D A X) mX13_sameTokens 1 pc (j k)) : rx_OK (zV b e D A X) mX13_sameTokens 1 146 (vX13_sameTokens_146 j) := by
  unfold vX13_sameTokens_146
  refine s_iload hZ.1 dX13_sameTokens_146 ?_
  exact s_if_eq dX13_sameTokens_148 (by decide) (wX13_sameTokens_173 hZ j hj) (wX13_sameTokens_151 hZ j hj)
noncomputable def vX13_sameTokens_140 (j : Nat → rx_K) : rx_K := o_ld rx_isI 8 (o_ld rx_isI 3 (o_c2 rx_lt (vX13_sameTokens_146 j) (vX13_sameTokens_173 j)))
set_option maxRecDepth 20000 in
theorem wX13_sameTokens_140 (hZ : zO b e D A X) (j : Nat → rx_K) (hj : ∀ k pc, [140][k]? = some pc → rx_OK (zV b e D A X) mX13_sameTokens 1 pc (j k)) : rx_OK (zV b e D A X) mX13_sameTokens 1 140 (vX13_sameTokens_140 j) := by
  unfold vX13_sameTokens_140
  refine s_iload hZ.1 dX13_sameTokens_140 ?_
  refine s_iload_n hZ.1 dX13_sameTokens_142 rfl ?_
  exact s_icmp_ge dX13_sameTokens_143 (by decide) (wX13_sameTokens_173 hZ j hj) (wX13_sameTokens_146 hZ j hj)
noncomputable def vX13_sameTokens_134 (j : Nat → rx_K) : rx_K := o_bi (fun x y => x + y) (o_st rx_isI 7 (o_const 0 (o_st rx_isI 8 ((vX13_sameTokens_140 j)))))
set_option maxRecDepth 20000 in
theorem wX13_sameTokens_134 (hZ : zO b e D A X) (j : Nat → rx_K) (hj : ∀ k pc, [140][k]? = some pc → rx_OK (zV b e D A X) mX13_sameTokens 1 pc (j k)) : rx_OK (zV b e D A X) mX13_sameTokens 1 134 (vX13_sameTokens_134 j) := by
  unfold vX13_sameTokens_134
  refine s_iadd dX13_sameTokens_134 ?_
  refine s_istore hZ.1 dX13_sameTokens_135 (Nat.le_of_ble_eq_true rfl) ?_
  refine s_iconst dX13_sameTokens_137 (by decide +kernel) ?_
  refine s_istore hZ.1 dX13_sameTokens_138 (Nat.le_of_ble_eq_true rfl) ?_
  exact (wX13_sameTokens_140 hZ j hj)
noncomputable def vX13_sameTokens_97 (j : Nat → rx_K) : rx_K := o_ld rx_isI 1 (o_const 272 (o_bin (fun x y => x / y) (o_const 96 (o_bin (fun x y => x / y) (o_const 5616 (o_bi (fun x y => x * y) (o_ld rx_isR 0 (o_getf 13 62 (o_ld rx_isI 1 (o_ald 0 (o_bi (fun x y => x + y) (o_st rx_isI 6 (o_ld rx_isI 2 (o_const 272 (o_bin (fun x y => x / y) (o_const 96 (o_bin (fun x y => x / y) (o_const 5616 (o_bi (fun x y => x * y) (o_ld rx_isR 0 (o_getf 13 62 (o_ld rx_isI 2 (o_ald 0 ((vX13_sameTokens_134 j)))))))))))))))))))))))))
set_option maxRecDepth 20000 in
theorem wX13_sameTokens_97 (hZ : zO b e D A X) (j : Nat → rx_K) (hj : ∀ k pc, [140][k]? = some pc → rx_OK (zV b e D A X) mX13_sameTokens 1 pc (j k)) : rx_OK (zV b e D A X) mX13_sameTokens 1 97 (vX13_sameTokens_97 j) := by
  unfold vX13_sameTokens_97
  refine s_iload_n hZ.1 dX13_sameTokens_97 rfl ?_
  refine s_bipush dX13_sameTokens_98 (by decide +kernel) ?_
  refine s_idiv dX13_sameTokens_100 ?_
  refine s_bipush dX13_sameTokens_101 (by decide +kernel) ?_
  refine s_idiv dX13_sameTokens_103 ?_
  refine s_sipush dX13_sameTokens_104 (by decide +kernel) ?_
  refine s_imul dX13_sameTokens_107 ?_
  refine s_aload_n hZ.1 dX13_sameTokens_108 rfl ?_
  refine yg13_62 dX13_sameTokens_109 zw4183 ?_
  refine s_iload_n hZ.1 dX13_sameTokens_112 rfl ?_
  refine s_iald (tt := 0) rfl dX13_sameTokens_113 ?_
  refine s_iadd dX13_sameTokens_114 ?_
  refine s_istore hZ.1 dX13_sameTokens_115 (Nat.le_of_ble_eq_true rfl) ?_
  refine s_iload_n hZ.1 dX13_sameTokens_117 rfl ?_
  refine s_bipush dX13_sameTokens_118 (by decide +kernel) ?_
  refine s_idiv dX13_sameTokens_120 ?_
  refine s_bipush dX13_sameTokens_121 (by decide +kernel) ?_
  refine s_idiv dX13_sameTokens_123 ?_
  refine s_sipush dX13_sameTokens_124 (by decide +kernel) ?_
  refine s_imul dX13_sameTokens_127 ?_
  refine s_aload_n hZ.1 dX13_sameTokens_128 rfl ?_
  refine yg13_62 dX13_sameTokens_129 zw4183 ?_
  refine s_iload_n hZ.1 dX13_sameTokens_132 rfl ?_
  refine s_iald (tt := 0) rfl dX13_sameTokens_133 ?_
  exact (wX13_sameTokens_134 hZ j hj)
noncomputable def vX13_sameTokens_94 (j : Nat → rx_K) : rx_K := o_ld rx_isI 5 (o_ret1 rx_isZ)
set_option maxRecDepth 20000 in
theorem wX13_sameTokens_94 (hZ : zO b e D A X) (j : Nat → rx_K) (hj : ∀ k pc, [140][k]? = some pc → rx_OK (zV b e D A X) mX13_sameTokens 1 pc (j k)) : rx_OK (zV b e D A X) mX13_sameTokens 1 94 (vX13_sameTokens_94 j) := by
  unfold vX13_sameTokens_94
  refine s_iload hZ.1 dX13_sameTokens_94 ?_
  exact s_zret rx_z_ok rfl dX13_sameTokens_96
noncomputable def vX13_sameTokens_83 (j : Nat → rx_K) : rx_K := o_ld rx_isR 0 (o_getf 13 61 (o_ld rx_isI 2 (o_ald 0 (o_const 34359738352 (o_c2 rx_eq (vX13_sameTokens_94 j) (vX13_sameTokens_97 j))))))
set_option maxRecDepth 20000 in
theorem wX13_sameTokens_83 (hZ : zO b e D A X) (j : Nat → rx_K) (hj : ∀ k pc, [140][k]? = some pc → rx_OK (zV b e D A X) mX13_sameTokens 1 pc (j k)) : rx_OK (zV b e D A X) mX13_sameTokens 1 83 (vX13_sameTokens_83 j) := by
  unfold vX13_sameTokens_83
  refine s_aload_n hZ.1 dX13_sameTokens_83 rfl ?_
  refine yg13_61 dX13_sameTokens_84 zw4182 ?_
  refine s_iload_n hZ.1 dX13_sameTokens_87 rfl ?_
  refine s_iald (tt := 0) rfl dX13_sameTokens_88 ?_
  refine s_bipush dX13_sameTokens_89 (by decide +kernel) ?_
  exact s_icmp_ne dX13_sameTokens_91 (by decide) (wX13_sameTokens_97 hZ j hj) (wX13_sameTokens_94 hZ j hj)
noncomputable def vX13_sameTokens_70 (j : Nat → rx_K) : rx_K := o_st rx_isI 5 (o_ld rx_isR 0 (o_getf 13 61 (o_ld rx_isI 1 (o_ald 0 (o_const 34359738352 (o_c2 rx_eq (vX13_sameTokens_94 j) (vX13_sameTokens_83 j)))))))
set_option maxRecDepth 20000 in
theorem wX13_sameTokens_70 (hZ : zO b e D A X) (j : Nat → rx_K) (hj : ∀ k pc, [140][k]? = some pc → rx_OK (zV b e D A X) mX13_sameTokens 1 pc (j k)) : rx_OK (zV b e D A X) mX13_sameTokens 1 70 (vX13_sameTokens_70 j) := by
  unfold vX13_sameTokens_70
  refine s_istore hZ.1 dX13_sameTokens_70 (Nat.le_of_ble_eq_true rfl) ?_
  refine s_aload_n hZ.1 dX13_sameTokens_72 rfl ?_
  refine yg13_61 dX13_sameTokens_73 zw4182 ?_
  refine s_iload_n hZ.1 dX13_sameTokens_76 rfl ?_
  refine s_iald (tt := 0) rfl dX13_sameTokens_77 ?_
  refine s_bipush dX13_sameTokens_78 (by decide +kernel) ?_
  exact s_icmp_eq dX13_sameTokens_80 (by decide) (wX13_sameTokens_94 hZ j hj) (wX13_sameTokens_83 hZ j hj)
noncomputable def vX13_sameTokens_69 (j : Nat → rx_K) : rx_K := o_const 0 ((vX13_sameTokens_70 j))
set_option maxRecDepth 20000 in
theorem wX13_sameTokens_69 (hZ : zO b e D A X) (j : Nat → rx_K) (hj : ∀ k pc, [140][k]? = some pc → rx_OK (zV b e D A X) mX13_sameTokens 1 pc (j k)) : rx_OK (zV b e D A X) mX13_sameTokens 1 69 (vX13_sameTokens_69 j) := by
  unfold vX13_sameTokens_69
  refine s_iconst dX13_sameTokens_69 (by decide +kernel) ?_
  exact (wX13_sameTokens_70 hZ j hj)
noncomputable def vX13_sameTokens_65 (j : Nat → rx_K) : rx_K := o_const 8 ((vX13_sameTokens_70 j))
set_option maxRecDepth 20000 in
theorem wX13_sameTokens_65 (hZ : zO b e D A X) (j : Nat → rx_K) (hj : ∀ k pc, [140][k]? = some pc → rx_OK (zV b e D A X) mX13_sameTokens 1 pc (j k)) : rx_OK (zV b e D A X) mX13_sameTokens 1 65 (vX13_sameTokens_65 j) := by
  unfold vX13_sameTokens_65
  refine s_iconst dX13_sameTokens_65 (by decide +kernel) ?_
  exact s_goto dX13_sameTokens_66 (by decide) (wX13_sameTokens_70 hZ j hj)
noncomputable def vX13_sameTokens_57 (j : Nat → rx_K) : rx_K := o_st rx_isI 4 (o_ld rx_isI 3 (o_ld rx_isI 4 (o_c2 rx_eq (vX13_sameTokens_65 j) (vX13_sameTokens_69 j))))
set_option maxRecDepth 20000 in
theorem wX13_sameTokens_57 (hZ : zO b e D A X) (j : Nat → rx_K) (hj : ∀ k pc, [140][k]? = some pc → rx_OK (zV b e D A X) mX13_sameTokens 1 pc (j k)) : rx_OK (zV b e D A X) mX13_sameTokens 1 57 (vX13_sameTokens_57 j) := by
  unfold vX13_sameTokens_57
  refine s_istore hZ.1 dX13_sameTokens_57 (Nat.le_of_ble_eq_true rfl) ?_
  refine s_iload_n hZ.1 dX13_sameTokens_59 rfl ?_
  refine s_iload hZ.1 dX13_sameTokens_60 ?_
  exact s_icmp_ne dX13_sameTokens_62 (by decide) (wX13_sameTokens_69 hZ j hj) (wX13_sameTokens_65 hZ j hj)
noncomputable def vX13_sameTokens_44 (j : Nat → rx_K) : rx_K := o_ld rx_isR 0 (o_getf 13 63 (o_ld rx_isI 2 (o_ald 0 (o_ld rx_isR 0 (o_getf 13 62 (o_ld rx_isI 2 (o_ald 0 (o_bi (fun x y => x - y) ((vX13_sameTokens_57 j))))))))))
set_option maxRecDepth 20000 in
theorem wX13_sameTokens_44 (hZ : zO b e D A X) (j : Nat → rx_K) (hj : ∀ k pc, [140][k]? = some pc → rx_OK (zV b e D A X) mX13_sameTokens 1 pc (j k)) : rx_OK (zV b e D A X) mX13_sameTokens 1 44 (vX13_sameTokens_44 j) := by
  unfold vX13_sameTokens_44
  refine s_aload_n hZ.1 dX13_sameTokens_44 rfl ?_
  refine yg13_63 dX13_sameTokens_45 zw4184 ?_
  refine s_iload_n hZ.1 dX13_sameTokens_48 rfl ?_
  refine s_iald (tt := 0) rfl dX13_sameTokens_49 ?_
  refine s_aload_n hZ.1 dX13_sameTokens_50 rfl ?_
  refine yg13_62 dX13_sameTokens_51 zw4183 ?_
  refine s_iload_n hZ.1 dX13_sameTokens_54 rfl ?_
  refine s_iald (tt := 0) rfl dX13_sameTokens_55 ?_
  refine s_isub dX13_sameTokens_56 ?_
  exact (wX13_sameTokens_57 hZ j hj)
noncomputable def vX13_sameTokens_40 (j : Nat → rx_K) : rx_K := o_const 16 ((vX13_sameTokens_57 j))
set_option maxRecDepth 20000 in
theorem wX13_sameTokens_40 (hZ : zO b e D A X) (j : Nat → rx_K) (hj : ∀ k pc, [140][k]? = some pc → rx_OK (zV b e D A X) mX13_sameTokens 1 pc (j k)) : rx_OK (zV b e D A X) mX13_sameTokens 1 40 (vX13_sameTokens_40 j) := by
  unfold vX13_sameTokens_40
  refine s_iconst dX13_sameTokens_40 (by decide +kernel) ?_
  exact s_goto dX13_sameTokens_41 (by decide) (wX13_sameTokens_57 hZ j hj)
noncomputable def vX13_sameTokens_28 (j : Nat → rx_K) : rx_K := o_st rx_isI 3 (o_ld rx_isR 0 (o_getf 13 61 (o_ld rx_isI 2 (o_ald 0 (o_const 34359738352 (o_c2 rx_eq (vX13_sameTokens_40 j) (vX13_sameTokens_44 j)))))))
set_option maxRecDepth 20000 in
theorem wX13_sameTokens_28 (hZ : zO b e D A X) (j : Nat → rx_K) (hj : ∀ k pc, [140][k]? = some pc → rx_OK (zV b e D A X) mX13_sameTokens 1 pc (j k)) : rx_OK (zV b e D A X) mX13_sameTokens 1 28 (vX13_sameTokens_28 j) := by
  unfold vX13_sameTokens_28
  refine s_istore_n hZ.1 dX13_sameTokens_28 rfl (Nat.le_of_ble_eq_true rfl) ?_
  refine s_aload_n hZ.1 dX13_sameTokens_29 rfl ?_
  refine yg13_61 dX13_sameTokens_30 zw4182 ?_
  refine s_iload_n hZ.1 dX13_sameTokens_33 rfl ?_
  refine s_iald (tt := 0) rfl dX13_sameTokens_34 ?_
  refine s_bipush dX13_sameTokens_35 (by decide +kernel) ?_
  exact s_icmp_ne dX13_sameTokens_37 (by decide) (wX13_sameTokens_44 hZ j hj) (wX13_sameTokens_40 hZ j hj)
noncomputable def vX13_sameTokens_15 (j : Nat → rx_K) : rx_K := o_ld rx_isR 0 (o_getf 13 63 (o_ld rx_isI 1 (o_ald 0 (o_ld rx_isR 0 (o_getf 13 62 (o_ld rx_isI 1 (o_ald 0 (o_bi (fun x y => x - y) ((vX13_sameTokens_28 j))))))))))
set_option maxRecDepth 20000 in
theorem wX13_sameTokens_15 (hZ : zO b e D A X) (j : Nat → rx_K) (hj : ∀ k pc, [140][k]? = some pc → rx_OK (zV b e D A X) mX13_sameTokens 1 pc (j k)) : rx_OK (zV b e D A X) mX13_sameTokens 1 15 (vX13_sameTokens_15 j) := by
  unfold vX13_sameTokens_15
  refine s_aload_n hZ.1 dX13_sameTokens_15 rfl ?_
  refine yg13_63 dX13_sameTokens_16 zw4184 ?_
  refine s_iload_n hZ.1 dX13_sameTokens_19 rfl ?_
  refine s_iald (tt := 0) rfl dX13_sameTokens_20 ?_
  refine s_aload_n hZ.1 dX13_sameTokens_21 rfl ?_
  refine yg13_62 dX13_sameTokens_22 zw4183 ?_
  refine s_iload_n hZ.1 dX13_sameTokens_25 rfl ?_
  refine s_iald (tt := 0) rfl dX13_sameTokens_26 ?_
  refine s_isub dX13_sameTokens_27 ?_
  exact (wX13_sameTokens_28 hZ j hj)
noncomputable def vX13_sameTokens_11 (j : Nat → rx_K) : rx_K := o_const 16 ((vX13_sameTokens_28 j))
set_option maxRecDepth 20000 in
theorem wX13_sameTokens_11 (hZ : zO b e D A X) (j : Nat → rx_K) (hj : ∀ k pc, [140][k]? = some pc → rx_OK (zV b e D A X) mX13_sameTokens 1 pc (j k)) : rx_OK (zV b e D A X) mX13_sameTokens 1 11 (vX13_sameTokens_11 j) := by
  unfold vX13_sameTokens_11
  refine s_iconst dX13_sameTokens_11 (by decide +kernel) ?_
  exact s_goto dX13_sameTokens_12 (by decide) (wX13_sameTokens_28 hZ j hj)
noncomputable def vX13_sameTokens_0 (j : Nat → rx_K) : rx_K := o_ld rx_isR 0 (o_getf 13 61 (o_ld rx_isI 1 (o_ald 0 (o_const 34359738352 (o_c2 rx_eq (vX13_sameTokens_11 j) (vX13_sameTokens_15 j))))))
set_option maxRecDepth 20000 in
theorem wX13_sameTokens_0 (hZ : zO b e D A X) (j : Nat → rx_K) (hj : ∀ k pc, [140][k]? = some pc → rx_OK (zV b e D A X) mX13_sameTokens 1 pc (j k)) : rx_OK (zV b e D A X) mX13_sameTokens 1 0 (vX13_sameTokens_0 j) := by
  unfold vX13_sameTokens_0
  refine s_aload_n hZ.1 dX13_sameTokens_0 rfl ?_
  refine yg13_61 dX13_sameTokens_1 zw4182 ?_
  refine s_iload_n hZ.1 dX13_sameTokens_4 rfl ?_
  refine s_iald (tt := 0) rfl dX13_sameTokens_5 ?_
  refine s_bipush dX13_sameTokens_6 (by decide +kernel) ?_
  exact s_icmp_ne dX13_sameTokens_8 (by decide) (wX13_sameTokens_15 hZ j hj) (wX13_sameTokens_11 hZ j hj)
noncomputable def vhX13_sameTokens (j : Nat → rx_K) : List rx_K := [vX13_sameTokens_140 j]
theorem vlX13_sameTokens (hZ : zO b e D A X) : ∀ n k pc, [140][k]? = some pc → rx_OK (zV b e D A X) mX13_sameTokens 1 pc (rx_J (vhX13_sameTokens) n k) := rx_loop fun j hj k pc h => by
  match k, h with
  | 0, h =>
    have e9 := Option.some.inj (show some 140 = some pc from h)
    subst e9
    exact wX13_sameTokens_140 hZ j hj
  | _ + 1, h => exact absurd h (by simp)
noncomputable def FX13_sameTokens : List Nat → rx_H → Option (Nat × rx_H) := rx_ent 9 (vX13_sameTokens_0 (rx_J (vhX13_sameTokens) 4000000000))
theorem Met_X13_sameTokens (hZ : zO b e D A X) : rx_Met (zV b e D A X) 1 yX13_sameTokens mX13_sameTokens (FX13_sameTokens) := rx_entry hZ.1 (wX13_sameTokens_0 hZ _ (vlX13_sameTokens hZ 4000000000)) (by decide +kernel) rfl (fun h => by cases h)
end ZM69

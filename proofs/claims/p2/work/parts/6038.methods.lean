section ZM38
variable {b : Nat} {e : Nat → Value} {D : va_G} {A : Nat → ClassId} {X : State → Prop}
abbrev mX13_tokenAt : rx_M := (RX13, cX13_tokenAt, 8, (some .int), false)
theorem vy_X13_tokenAt : rx_Y (zV b e D A X) yX13_tokenAt mX13_tokenAt 2 := ⟨zw2945, zw431, by decide, by decide +kernel, by decide +kernel, by decide +kernel⟩
noncomputable def vX13_tokenAt_502 (j : Nat → rx_K) : rx_K := o_ret1 rx_isI
set_option maxRecDepth 20000 in
theorem wX13_tokenAt_502 (hZ : zO b e D A X) (j : Nat → rx_K) (hj : ∀ k pc, [80, 155, 258][k]? = some pc → rx_OK (zV b e D A X) mX13_tokenAt 2 pc (j k)) : rx_OK (zV b e D A X) mX13_tokenAt 2 502 (vX13_tokenAt_502 j) := by
  unfold vX13_tokenAt_502
  exact s_iret hZ.1 rfl dX13_tokenAt_502
noncomputable def vX13_tokenAt_499 (j : Nat → rx_K) : rx_K := o_ld rx_isI 2 (o_const 8 (o_bi (fun x y => x + y) ((vX13_tokenAt_502 j))))
set_option maxRecDepth 20000 in
theorem wX13_tokenAt_499 (hZ : zO b e D A X) (j : Nat → rx_K) (hj : ∀ k pc, [80, 155, 258][k]? = some pc → rx_OK (zV b e D A X) mX13_tokenAt 2 pc (j k)) : rx_OK (zV b e D A X) mX13_tokenAt 2 499 (vX13_tokenAt_499 j) := by
  unfold vX13_tokenAt_499
  refine s_iload_n hZ.1 dX13_tokenAt_499 rfl ?_
  refine s_iconst dX13_tokenAt_500 (by decide +kernel) ?_
  refine s_iadd dX13_tokenAt_501 ?_
  exact (wX13_tokenAt_502 hZ j hj)
noncomputable def vX13_tokenAt_493 (j : Nat → rx_K) : rx_K := o_ld rx_isI 2 (o_const 16 (o_bi (fun x y => x + y) ((vX13_tokenAt_502 j))))
set_option maxRecDepth 20000 in
theorem wX13_tokenAt_493 (hZ : zO b e D A X) (j : Nat → rx_K) (hj : ∀ k pc, [80, 155, 258][k]? = some pc → rx_OK (zV b e D A X) mX13_tokenAt 2 pc (j k)) : rx_OK (zV b e D A X) mX13_tokenAt 2 493 (vX13_tokenAt_493 j) := by
  unfold vX13_tokenAt_493
  refine s_iload_n hZ.1 dX13_tokenAt_493 rfl ?_
  refine s_iconst dX13_tokenAt_494 (by decide +kernel) ?_
  refine s_iadd dX13_tokenAt_495 ?_
  exact s_goto dX13_tokenAt_496 (by decide) (wX13_tokenAt_502 hZ j hj)
noncomputable def vX13_tokenAt_487 (j : Nat → rx_K) : rx_K := o_ast 0 (fun v => v) rx_isI (o_ld rx_isI 5 (o_c1 rx_eq (vX13_tokenAt_499 j) (vX13_tokenAt_493 j)))
set_option maxRecDepth 20000 in
theorem wX13_tokenAt_487 (hZ : zO b e D A X) (j : Nat → rx_K) (hj : ∀ k pc, [80, 155, 258][k]? = some pc → rx_OK (zV b e D A X) mX13_tokenAt 2 pc (j k)) : rx_OK (zV b e D A X) mX13_tokenAt 2 487 (vX13_tokenAt_487 j) := by
  unfold vX13_tokenAt_487
  refine s_iast hZ.1 (tt := 0) rfl dX13_tokenAt_487 ?_
  refine s_iload hZ.1 dX13_tokenAt_488 ?_
  exact s_if_eq dX13_tokenAt_490 (by decide) (wX13_tokenAt_499 hZ j hj) (wX13_tokenAt_493 hZ j hj)
noncomputable def vX13_tokenAt_486 (j : Nat → rx_K) : rx_K := o_ld rx_isI 3 ((vX13_tokenAt_487 j))
set_option maxRecDepth 20000 in
theorem wX13_tokenAt_486 (hZ : zO b e D A X) (j : Nat → rx_K) (hj : ∀ k pc, [80, 155, 258][k]? = some pc → rx_OK (zV b e D A X) mX13_tokenAt 2 pc (j k)) : rx_OK (zV b e D A X) mX13_tokenAt 2 486 (vX13_tokenAt_486 j) := by
  unfold vX13_tokenAt_486
  refine s_iload_n hZ.1 dX13_tokenAt_486 rfl ?_
  exact (wX13_tokenAt_487 hZ j hj)
noncomputable def vX13_tokenAt_480 (j : Nat → rx_K) : rx_K := o_const 2048 ((vX13_tokenAt_487 j))
set_option maxRecDepth 20000 in
theorem wX13_tokenAt_480 (hZ : zO b e D A X) (j : Nat → rx_K) (hj : ∀ k pc, [80, 155, 258][k]? = some pc → rx_OK (zV b e D A X) mX13_tokenAt 2 pc (j k)) : rx_OK (zV b e D A X) mX13_tokenAt 2 480 (vX13_tokenAt_480 j) := by
  unfold vX13_tokenAt_480
  refine s_sipush dX13_tokenAt_480 (by decide +kernel) ?_
  exact s_goto dX13_tokenAt_483 (by decide) (wX13_tokenAt_487 hZ j hj)
noncomputable def vX13_tokenAt_468 (j : Nat → rx_K) : rx_K := o_st rx_isI 5 (o_ld rx_isR 0 (o_getf 13 15 (o_ld rx_isI 1 (o_ld rx_isI 5 (o_c1 rx_eq (vX13_tokenAt_486 j) (vX13_tokenAt_480 j))))))
set_option maxRecDepth 20000 in
theorem wX13_tokenAt_468 (hZ : zO b e D A X) (j : Nat → rx_K) (hj : ∀ k pc, [80, 155, 258][k]? = some pc → rx_OK (zV b e D A X) mX13_tokenAt 2 pc (j k)) : rx_OK (zV b e D A X) mX13_tokenAt 2 468 (vX13_tokenAt_468 j) := by
  unfold vX13_tokenAt_468
  refine s_istore hZ.1 dX13_tokenAt_468 (Nat.le_of_ble_eq_true rfl) ?_
  refine s_aload_n hZ.1 dX13_tokenAt_470 rfl ?_
  refine yg13_15 dX13_tokenAt_471 zw4136 ?_
  refine s_iload_n hZ.1 dX13_tokenAt_474 rfl ?_
  refine s_iload hZ.1 dX13_tokenAt_475 ?_
  exact s_if_eq dX13_tokenAt_477 (by decide) (wX13_tokenAt_486 hZ j hj) (wX13_tokenAt_480 hZ j hj)
noncomputable def vX13_tokenAt_467 (j : Nat → rx_K) : rx_K := o_const 0 ((vX13_tokenAt_468 j))
set_option maxRecDepth 20000 in
theorem wX13_tokenAt_467 (hZ : zO b e D A X) (j : Nat → rx_K) (hj : ∀ k pc, [80, 155, 258][k]? = some pc → rx_OK (zV b e D A X) mX13_tokenAt 2 pc (j k)) : rx_OK (zV b e D A X) mX13_tokenAt 2 467 (vX13_tokenAt_467 j) := by
  unfold vX13_tokenAt_467
  refine s_iconst dX13_tokenAt_467 (by decide +kernel) ?_
  exact (wX13_tokenAt_468 hZ j hj)
noncomputable def vX13_tokenAt_463 (j : Nat → rx_K) : rx_K := o_const 8 ((vX13_tokenAt_468 j))
set_option maxRecDepth 20000 in
theorem wX13_tokenAt_463 (hZ : zO b e D A X) (j : Nat → rx_K) (hj : ∀ k pc, [80, 155, 258][k]? = some pc → rx_OK (zV b e D A X) mX13_tokenAt 2 pc (j k)) : rx_OK (zV b e D A X) mX13_tokenAt 2 463 (vX13_tokenAt_463 j) := by
  unfold vX13_tokenAt_463
  refine s_iconst dX13_tokenAt_463 (by decide +kernel) ?_
  exact s_goto dX13_tokenAt_464 (by decide) (wX13_tokenAt_468 hZ j hj)
noncomputable def vX13_tokenAt_451 (j : Nat → rx_K) : rx_K := o_ld rx_isR 0 (o_ld rx_isI 2 (o_const 8 (o_bi (fun x y => x + y) (o_callV 1 13 FX13_byteAt (o_const 488 (o_c2 rx_eq (vX13_tokenAt_463 j) (vX13_tokenAt_467 j)))))))
set_option maxRecDepth 20000 in
theorem wX13_tokenAt_451 (hZ : zO b e D A X) (j : Nat → rx_K) (hj : ∀ k pc, [80, 155, 258][k]? = some pc → rx_OK (zV b e D A X) mX13_tokenAt 2 pc (j k)) : rx_OK (zV b e D A X) mX13_tokenAt 2 451 (vX13_tokenAt_451 j) := by
  unfold vX13_tokenAt_451
  refine s_aload_n hZ.1 dX13_tokenAt_451 rfl ?_
  refine s_iload_n hZ.1 dX13_tokenAt_452 rfl ?_
  refine s_iconst dX13_tokenAt_453 (by decide +kernel) ?_
  refine s_iadd dX13_tokenAt_454 ?_
  refine s_callV hZ.1 (Met_X13_byteAt hZ) (Nat.le_of_ble_eq_true rfl) vy_X13_byteAt zcl13 zw2940 zw178 (Or.inl zw2938) dX13_tokenAt_455 ?_
  refine s_bipush dX13_tokenAt_458 (by decide +kernel) ?_
  exact s_icmp_ne dX13_tokenAt_460 (by decide) (wX13_tokenAt_467 hZ j hj) (wX13_tokenAt_463 hZ j hj)
noncomputable def vX13_tokenAt_444 (j : Nat → rx_K) : rx_K := o_ast 0 (fun v => v) rx_isI (o_ld rx_isI 3 (o_const 488 (o_c2 rx_eq (vX13_tokenAt_451 j) (vX13_tokenAt_467 j))))
set_option maxRecDepth 20000 in
theorem wX13_tokenAt_444 (hZ : zO b e D A X) (j : Nat → rx_K) (hj : ∀ k pc, [80, 155, 258][k]? = some pc → rx_OK (zV b e D A X) mX13_tokenAt 2 pc (j k)) : rx_OK (zV b e D A X) mX13_tokenAt 2 444 (vX13_tokenAt_444 j) := by
  unfold vX13_tokenAt_444
  refine s_iast hZ.1 (tt := 0) rfl dX13_tokenAt_444 ?_
  refine s_iload_n hZ.1 dX13_tokenAt_445 rfl ?_
  refine s_bipush dX13_tokenAt_446 (by decide +kernel) ?_
  exact s_icmp_ne dX13_tokenAt_448 (by decide) (wX13_tokenAt_467 hZ j hj) (wX13_tokenAt_451 hZ j hj)
noncomputable def vX13_tokenAt_442 (j : Nat → rx_K) : rx_K := o_const 48 ((vX13_tokenAt_444 j))
set_option maxRecDepth 20000 in
theorem wX13_tokenAt_442 (hZ : zO b e D A X) (j : Nat → rx_K) (hj : ∀ k pc, [80, 155, 258][k]? = some pc → rx_OK (zV b e D A X) mX13_tokenAt 2 pc (j k)) : rx_OK (zV b e D A X) mX13_tokenAt 2 442 (vX13_tokenAt_442 j) := by
  unfold vX13_tokenAt_442
  refine s_bipush dX13_tokenAt_442 (by decide +kernel) ?_
  exact (wX13_tokenAt_444 hZ j hj)
noncomputable def vX13_tokenAt_438 (j : Nat → rx_K) : rx_K := o_const 40 ((vX13_tokenAt_444 j))
set_option maxRecDepth 20000 in
theorem wX13_tokenAt_438 (hZ : zO b e D A X) (j : Nat → rx_K) (hj : ∀ k pc, [80, 155, 258][k]? = some pc → rx_OK (zV b e D A X) mX13_tokenAt 2 pc (j k)) : rx_OK (zV b e D A X) mX13_tokenAt 2 438 (vX13_tokenAt_438 j) := by
  unfold vX13_tokenAt_438
  refine s_iconst dX13_tokenAt_438 (by decide +kernel) ?_
  exact s_goto dX13_tokenAt_439 (by decide) (wX13_tokenAt_444 hZ j hj)
noncomputable def vX13_tokenAt_426 (j : Nat → rx_K) : rx_K := o_st rx_isI 4 (o_ld rx_isR 0 (o_getf 13 11 (o_ld rx_isI 1 (o_ld rx_isI 4 (o_c1 rx_eq (vX13_tokenAt_442 j) (vX13_tokenAt_438 j))))))
set_option maxRecDepth 20000 in
theorem wX13_tokenAt_426 (hZ : zO b e D A X) (j : Nat → rx_K) (hj : ∀ k pc, [80, 155, 258][k]? = some pc → rx_OK (zV b e D A X) mX13_tokenAt 2 pc (j k)) : rx_OK (zV b e D A X) mX13_tokenAt 2 426 (vX13_tokenAt_426 j) := by
  unfold vX13_tokenAt_426
  refine s_istore hZ.1 dX13_tokenAt_426 (Nat.le_of_ble_eq_true rfl) ?_
  refine s_aload_n hZ.1 dX13_tokenAt_428 rfl ?_
  refine yg13_11 dX13_tokenAt_429 zw4132 ?_
  refine s_iload_n hZ.1 dX13_tokenAt_432 rfl ?_
  refine s_iload hZ.1 dX13_tokenAt_433 ?_
  exact s_if_eq dX13_tokenAt_435 (by decide) (wX13_tokenAt_442 hZ j hj) (wX13_tokenAt_438 hZ j hj)
noncomputable def vX13_tokenAt_425 (j : Nat → rx_K) : rx_K := o_const 0 ((vX13_tokenAt_426 j))
set_option maxRecDepth 20000 in
theorem wX13_tokenAt_425 (hZ : zO b e D A X) (j : Nat → rx_K) (hj : ∀ k pc, [80, 155, 258][k]? = some pc → rx_OK (zV b e D A X) mX13_tokenAt 2 pc (j k)) : rx_OK (zV b e D A X) mX13_tokenAt 2 425 (vX13_tokenAt_425 j) := by
  unfold vX13_tokenAt_425
  refine s_iconst dX13_tokenAt_425 (by decide +kernel) ?_
  exact (wX13_tokenAt_426 hZ j hj)
noncomputable def vX13_tokenAt_421 (j : Nat → rx_K) : rx_K := o_const 8 ((vX13_tokenAt_426 j))
set_option maxRecDepth 20000 in
theorem wX13_tokenAt_421 (hZ : zO b e D A X) (j : Nat → rx_K) (hj : ∀ k pc, [80, 155, 258][k]? = some pc → rx_OK (zV b e D A X) mX13_tokenAt 2 pc (j k)) : rx_OK (zV b e D A X) mX13_tokenAt 2 421 (vX13_tokenAt_421 j) := by
  unfold vX13_tokenAt_421
  refine s_iconst dX13_tokenAt_421 (by decide +kernel) ?_
  exact s_goto dX13_tokenAt_422 (by decide) (wX13_tokenAt_426 hZ j hj)
noncomputable def vX13_tokenAt_415 (j : Nat → rx_K) : rx_K := o_ld rx_isI 3 (o_const 336 (o_c2 rx_eq (vX13_tokenAt_421 j) (vX13_tokenAt_425 j)))
set_option maxRecDepth 20000 in
theorem wX13_tokenAt_415 (hZ : zO b e D A X) (j : Nat → rx_K) (hj : ∀ k pc, [80, 155, 258][k]? = some pc → rx_OK (zV b e D A X) mX13_tokenAt 2 pc (j k)) : rx_OK (zV b e D A X) mX13_tokenAt 2 415 (vX13_tokenAt_415 j) := by
  unfold vX13_tokenAt_415
  refine s_iload_n hZ.1 dX13_tokenAt_415 rfl ?_
  refine s_bipush dX13_tokenAt_416 (by decide +kernel) ?_
  exact s_icmp_ne dX13_tokenAt_418 (by decide) (wX13_tokenAt_425 hZ j hj) (wX13_tokenAt_421 hZ j hj)
noncomputable def vX13_tokenAt_409 (j : Nat → rx_K) : rx_K := o_ld rx_isI 3 (o_const 360 (o_c2 rx_eq (vX13_tokenAt_421 j) (vX13_tokenAt_415 j)))
set_option maxRecDepth 20000 in
theorem wX13_tokenAt_409 (hZ : zO b e D A X) (j : Nat → rx_K) (hj : ∀ k pc, [80, 155, 258][k]? = some pc → rx_OK (zV b e D A X) mX13_tokenAt 2 pc (j k)) : rx_OK (zV b e D A X) mX13_tokenAt 2 409 (vX13_tokenAt_409 j) := by
  unfold vX13_tokenAt_409
  refine s_iload_n hZ.1 dX13_tokenAt_409 rfl ?_
  refine s_bipush dX13_tokenAt_410 (by decide +kernel) ?_
  exact s_icmp_eq dX13_tokenAt_412 (by decide) (wX13_tokenAt_421 hZ j hj) (wX13_tokenAt_415 hZ j hj)
noncomputable def vX13_tokenAt_403 (j : Nat → rx_K) : rx_K := o_ld rx_isI 3 (o_const 344 (o_c2 rx_eq (vX13_tokenAt_421 j) (vX13_tokenAt_409 j)))
set_option maxRecDepth 20000 in
theorem wX13_tokenAt_403 (hZ : zO b e D A X) (j : Nat → rx_K) (hj : ∀ k pc, [80, 155, 258][k]? = some pc → rx_OK (zV b e D A X) mX13_tokenAt 2 pc (j k)) : rx_OK (zV b e D A X) mX13_tokenAt 2 403 (vX13_tokenAt_403 j) := by
  unfold vX13_tokenAt_403
  refine s_iload_n hZ.1 dX13_tokenAt_403 rfl ?_
  refine s_bipush dX13_tokenAt_404 (by decide +kernel) ?_
  exact s_icmp_eq dX13_tokenAt_406 (by decide) (wX13_tokenAt_421 hZ j hj) (wX13_tokenAt_409 hZ j hj)
noncomputable def vX13_tokenAt_397 (j : Nat → rx_K) : rx_K := o_ld rx_isI 3 (o_const 480 (o_c2 rx_eq (vX13_tokenAt_421 j) (vX13_tokenAt_403 j)))
set_option maxRecDepth 20000 in
theorem wX13_tokenAt_397 (hZ : zO b e D A X) (j : Nat → rx_K) (hj : ∀ k pc, [80, 155, 258][k]? = some pc → rx_OK (zV b e D A X) mX13_tokenAt 2 pc (j k)) : rx_OK (zV b e D A X) mX13_tokenAt 2 397 (vX13_tokenAt_397 j) := by
  unfold vX13_tokenAt_397
  refine s_iload_n hZ.1 dX13_tokenAt_397 rfl ?_
  refine s_bipush dX13_tokenAt_398 (by decide +kernel) ?_
  exact s_icmp_eq dX13_tokenAt_400 (by decide) (wX13_tokenAt_421 hZ j hj) (wX13_tokenAt_403 hZ j hj)
noncomputable def vX13_tokenAt_391 (j : Nat → rx_K) : rx_K := o_ld rx_isI 3 (o_const 488 (o_c2 rx_eq (vX13_tokenAt_421 j) (vX13_tokenAt_397 j)))
set_option maxRecDepth 20000 in
theorem wX13_tokenAt_391 (hZ : zO b e D A X) (j : Nat → rx_K) (hj : ∀ k pc, [80, 155, 258][k]? = some pc → rx_OK (zV b e D A X) mX13_tokenAt 2 pc (j k)) : rx_OK (zV b e D A X) mX13_tokenAt 2 391 (vX13_tokenAt_391 j) := by
  unfold vX13_tokenAt_391
  refine s_iload_n hZ.1 dX13_tokenAt_391 rfl ?_
  refine s_bipush dX13_tokenAt_392 (by decide +kernel) ?_
  exact s_icmp_eq dX13_tokenAt_394 (by decide) (wX13_tokenAt_421 hZ j hj) (wX13_tokenAt_397 hZ j hj)
noncomputable def vX13_tokenAt_385 (j : Nat → rx_K) : rx_K := o_ld rx_isI 3 (o_const 368 (o_c2 rx_eq (vX13_tokenAt_421 j) (vX13_tokenAt_391 j)))
set_option maxRecDepth 20000 in
theorem wX13_tokenAt_385 (hZ : zO b e D A X) (j : Nat → rx_K) (hj : ∀ k pc, [80, 155, 258][k]? = some pc → rx_OK (zV b e D A X) mX13_tokenAt 2 pc (j k)) : rx_OK (zV b e D A X) mX13_tokenAt 2 385 (vX13_tokenAt_385 j) := by
  unfold vX13_tokenAt_385
  refine s_iload_n hZ.1 dX13_tokenAt_385 rfl ?_
  refine s_bipush dX13_tokenAt_386 (by decide +kernel) ?_
  exact s_icmp_eq dX13_tokenAt_388 (by decide) (wX13_tokenAt_421 hZ j hj) (wX13_tokenAt_391 hZ j hj)
noncomputable def vX13_tokenAt_379 (j : Nat → rx_K) : rx_K := o_ld rx_isI 3 (o_const 472 (o_c2 rx_eq (vX13_tokenAt_421 j) (vX13_tokenAt_385 j)))
set_option maxRecDepth 20000 in
theorem wX13_tokenAt_379 (hZ : zO b e D A X) (j : Nat → rx_K) (hj : ∀ k pc, [80, 155, 258][k]? = some pc → rx_OK (zV b e D A X) mX13_tokenAt 2 pc (j k)) : rx_OK (zV b e D A X) mX13_tokenAt 2 379 (vX13_tokenAt_379 j) := by
  unfold vX13_tokenAt_379
  refine s_iload_n hZ.1 dX13_tokenAt_379 rfl ?_
  refine s_bipush dX13_tokenAt_380 (by decide +kernel) ?_
  exact s_icmp_eq dX13_tokenAt_382 (by decide) (wX13_tokenAt_421 hZ j hj) (wX13_tokenAt_385 hZ j hj)
noncomputable def vX13_tokenAt_373 (j : Nat → rx_K) : rx_K := o_ld rx_isI 3 (o_const 352 (o_c2 rx_eq (vX13_tokenAt_421 j) (vX13_tokenAt_379 j)))
set_option maxRecDepth 20000 in
theorem wX13_tokenAt_373 (hZ : zO b e D A X) (j : Nat → rx_K) (hj : ∀ k pc, [80, 155, 258][k]? = some pc → rx_OK (zV b e D A X) mX13_tokenAt 2 pc (j k)) : rx_OK (zV b e D A X) mX13_tokenAt 2 373 (vX13_tokenAt_373 j) := by
  unfold vX13_tokenAt_373
  refine s_iload_n hZ.1 dX13_tokenAt_373 rfl ?_
  refine s_bipush dX13_tokenAt_374 (by decide +kernel) ?_
  exact s_icmp_eq dX13_tokenAt_376 (by decide) (wX13_tokenAt_421 hZ j hj) (wX13_tokenAt_379 hZ j hj)
noncomputable def vX13_tokenAt_367 (j : Nat → rx_K) : rx_K := o_ld rx_isI 3 (o_const 328 (o_c2 rx_eq (vX13_tokenAt_421 j) (vX13_tokenAt_373 j)))
set_option maxRecDepth 20000 in
theorem wX13_tokenAt_367 (hZ : zO b e D A X) (j : Nat → rx_K) (hj : ∀ k pc, [80, 155, 258][k]? = some pc → rx_OK (zV b e D A X) mX13_tokenAt 2 pc (j k)) : rx_OK (zV b e D A X) mX13_tokenAt 2 367 (vX13_tokenAt_367 j) := by
  unfold vX13_tokenAt_367
  refine s_iload_n hZ.1 dX13_tokenAt_367 rfl ?_
  refine s_bipush dX13_tokenAt_368 (by decide +kernel) ?_
  exact s_icmp_eq dX13_tokenAt_370 (by decide) (wX13_tokenAt_421 hZ j hj) (wX13_tokenAt_373 hZ j hj)
noncomputable def vX13_tokenAt_361 (j : Nat → rx_K) : rx_K := o_ld rx_isI 3 (o_const 320 (o_c2 rx_eq (vX13_tokenAt_421 j) (vX13_tokenAt_367 j)))
set_option maxRecDepth 20000 in
theorem wX13_tokenAt_361 (hZ : zO b e D A X) (j : Nat → rx_K) (hj : ∀ k pc, [80, 155, 258][k]? = some pc → rx_OK (zV b e D A X) mX13_tokenAt 2 pc (j k)) : rx_OK (zV b e D A X) mX13_tokenAt 2 361 (vX13_tokenAt_361 j) := by
  unfold vX13_tokenAt_361
  refine s_iload_n hZ.1 dX13_tokenAt_361 rfl ?_
  refine s_bipush dX13_tokenAt_362 (by decide +kernel) ?_
  exact s_icmp_eq dX13_tokenAt_364 (by decide) (wX13_tokenAt_421 hZ j hj) (wX13_tokenAt_367 hZ j hj)
noncomputable def vX13_tokenAt_355 (j : Nat → rx_K) : rx_K := o_ld rx_isI 3 (o_const 1000 (o_c2 rx_eq (vX13_tokenAt_421 j) (vX13_tokenAt_361 j)))
set_option maxRecDepth 20000 in
theorem wX13_tokenAt_355 (hZ : zO b e D A X) (j : Nat → rx_K) (hj : ∀ k pc, [80, 155, 258][k]? = some pc → rx_OK (zV b e D A X) mX13_tokenAt 2 pc (j k)) : rx_OK (zV b e D A X) mX13_tokenAt 2 355 (vX13_tokenAt_355 j) := by
  unfold vX13_tokenAt_355
  refine s_iload_n hZ.1 dX13_tokenAt_355 rfl ?_
  refine s_bipush dX13_tokenAt_356 (by decide +kernel) ?_
  exact s_icmp_eq dX13_tokenAt_358 (by decide) (wX13_tokenAt_421 hZ j hj) (wX13_tokenAt_361 hZ j hj)
noncomputable def vX13_tokenAt_349 (j : Nat → rx_K) : rx_K := o_ld rx_isI 3 (o_const 984 (o_c2 rx_eq (vX13_tokenAt_421 j) (vX13_tokenAt_355 j)))
set_option maxRecDepth 20000 in
theorem wX13_tokenAt_349 (hZ : zO b e D A X) (j : Nat → rx_K) (hj : ∀ k pc, [80, 155, 258][k]? = some pc → rx_OK (zV b e D A X) mX13_tokenAt 2 pc (j k)) : rx_OK (zV b e D A X) mX13_tokenAt 2 349 (vX13_tokenAt_349 j) := by
  unfold vX13_tokenAt_349
  refine s_iload_n hZ.1 dX13_tokenAt_349 rfl ?_
  refine s_bipush dX13_tokenAt_350 (by decide +kernel) ?_
  exact s_icmp_eq dX13_tokenAt_352 (by decide) (wX13_tokenAt_421 hZ j hj) (wX13_tokenAt_355 hZ j hj)
noncomputable def vX13_tokenAt_337 (j : Nat → rx_K) : rx_K := o_ast 0 (fun v => v) rx_isI (o_ld rx_isR 0 (o_getf 13 15 (o_ld rx_isI 1 (o_ld rx_isI 5 (o_ast 0 (fun v => v) rx_isI (o_ld rx_isI 4 (o_ret1 rx_isI)))))))
set_option maxRecDepth 20000 in
theorem wX13_tokenAt_337 (hZ : zO b e D A X) (j : Nat → rx_K) (hj : ∀ k pc, [80, 155, 258][k]? = some pc → rx_OK (zV b e D A X) mX13_tokenAt 2 pc (j k)) : rx_OK (zV b e D A X) mX13_tokenAt 2 337 (vX13_tokenAt_337 j) := by
  unfold vX13_tokenAt_337
  refine s_iast hZ.1 (tt := 0) rfl dX13_tokenAt_337 ?_
  refine s_aload_n hZ.1 dX13_tokenAt_338 rfl ?_
  refine yg13_15 dX13_tokenAt_339 zw4136 ?_
  refine s_iload_n hZ.1 dX13_tokenAt_342 rfl ?_
  refine s_iload hZ.1 dX13_tokenAt_343 ?_
  refine s_iast hZ.1 (tt := 0) rfl dX13_tokenAt_345 ?_
  refine s_iload hZ.1 dX13_tokenAt_346 ?_
  exact s_iret hZ.1 rfl dX13_tokenAt_348
noncomputable def vX13_tokenAt_336 (j : Nat → rx_K) : rx_K := o_const 32 ((vX13_tokenAt_337 j))
set_option maxRecDepth 20000 in
theorem wX13_tokenAt_336 (hZ : zO b e D A X) (j : Nat → rx_K) (hj : ∀ k pc, [80, 155, 258][k]? = some pc → rx_OK (zV b e D A X) mX13_tokenAt 2 pc (j k)) : rx_OK (zV b e D A X) mX13_tokenAt 2 336 (vX13_tokenAt_336 j) := by
  unfold vX13_tokenAt_336
  refine s_iconst dX13_tokenAt_336 (by decide +kernel) ?_
  exact (wX13_tokenAt_337 hZ j hj)
noncomputable def vX13_tokenAt_331 (j : Nat → rx_K) : rx_K := o_const 48 ((vX13_tokenAt_337 j))
set_option maxRecDepth 20000 in
theorem wX13_tokenAt_331 (hZ : zO b e D A X) (j : Nat → rx_K) (hj : ∀ k pc, [80, 155, 258][k]? = some pc → rx_OK (zV b e D A X) mX13_tokenAt 2 pc (j k)) : rx_OK (zV b e D A X) mX13_tokenAt 2 331 (vX13_tokenAt_331 j) := by
  unfold vX13_tokenAt_331
  refine s_bipush dX13_tokenAt_331 (by decide +kernel) ?_
  exact s_goto dX13_tokenAt_333 (by decide) (wX13_tokenAt_337 hZ j hj)
noncomputable def vX13_tokenAt_317 (j : Nat → rx_K) : rx_K := o_ld rx_isR 0 (o_getf 13 11 (o_ld rx_isI 1 (o_ld rx_isI 4 (o_ld rx_isI 2 (o_bi (fun x y => x - y) (o_const 72 (o_c2 (fun h x y => rx_lt h y x) (vX13_tokenAt_331 j) (vX13_tokenAt_336 j))))))))
set_option maxRecDepth 20000 in
theorem wX13_tokenAt_317 (hZ : zO b e D A X) (j : Nat → rx_K) (hj : ∀ k pc, [80, 155, 258][k]? = some pc → rx_OK (zV b e D A X) mX13_tokenAt 2 pc (j k)) : rx_OK (zV b e D A X) mX13_tokenAt 2 317 (vX13_tokenAt_317 j) := by
  unfold vX13_tokenAt_317
  refine s_aload_n hZ.1 dX13_tokenAt_317 rfl ?_
  refine yg13_11 dX13_tokenAt_318 zw4132 ?_
  refine s_iload_n hZ.1 dX13_tokenAt_321 rfl ?_
  refine s_iload hZ.1 dX13_tokenAt_322 ?_
  refine s_iload_n hZ.1 dX13_tokenAt_324 rfl ?_
  refine s_isub dX13_tokenAt_325 ?_
  refine s_bipush dX13_tokenAt_326 (by decide +kernel) ?_
  exact s_icmp_le dX13_tokenAt_328 (by decide) (wX13_tokenAt_336 hZ j hj) (wX13_tokenAt_331 hZ j hj)
noncomputable def vX13_tokenAt_309 (j : Nat → rx_K) : rx_K := o_st rx_isI 5 (o_inc 4 (1) ((j 2)))
set_option maxRecDepth 20000 in
theorem wX13_tokenAt_309 (hZ : zO b e D A X) (j : Nat → rx_K) (hj : ∀ k pc, [80, 155, 258][k]? = some pc → rx_OK (zV b e D A X) mX13_tokenAt 2 pc (j k)) : rx_OK (zV b e D A X) mX13_tokenAt 2 309 (vX13_tokenAt_309 j) := by
  unfold vX13_tokenAt_309
  refine s_istore hZ.1 dX13_tokenAt_309 (Nat.le_of_ble_eq_true rfl) ?_
  refine s_iinc hZ.1 dX13_tokenAt_311 (Nat.le_of_ble_eq_true rfl) ?_
  exact s_goto dX13_tokenAt_314 (by decide) (hj 2 258 rfl)
noncomputable def vX13_tokenAt_307 (j : Nat → rx_K) : rx_K := o_ld rx_isI 5 ((vX13_tokenAt_309 j))
set_option maxRecDepth 20000 in
theorem wX13_tokenAt_307 (hZ : zO b e D A X) (j : Nat → rx_K) (hj : ∀ k pc, [80, 155, 258][k]? = some pc → rx_OK (zV b e D A X) mX13_tokenAt 2 pc (j k)) : rx_OK (zV b e D A X) mX13_tokenAt 2 307 (vX13_tokenAt_307 j) := by
  unfold vX13_tokenAt_307
  refine s_iload hZ.1 dX13_tokenAt_307 ?_
  exact (wX13_tokenAt_309 hZ j hj)
noncomputable def vX13_tokenAt_289 (j : Nat → rx_K) : rx_K := o_const 80 (o_ld rx_isI 5 (o_bi (fun x y => x * y) (o_ld rx_isR 0 (o_ld rx_isI 4 (o_callV 1 13 FX13_byteAt (o_bi (fun x y => x + y) (o_const 384 (o_bi (fun x y => x - y) ((vX13_tokenAt_309 j))))))))))
set_option maxRecDepth 20000 in
theorem wX13_tokenAt_289 (hZ : zO b e D A X) (j : Nat → rx_K) (hj : ∀ k pc, [80, 155, 258][k]? = some pc → rx_OK (zV b e D A X) mX13_tokenAt 2 pc (j k)) : rx_OK (zV b e D A X) mX13_tokenAt 2 289 (vX13_tokenAt_289 j) := by
  unfold vX13_tokenAt_289
  refine s_bipush dX13_tokenAt_289 (by decide +kernel) ?_
  refine s_iload hZ.1 dX13_tokenAt_291 ?_
  refine s_imul dX13_tokenAt_293 ?_
  refine s_aload_n hZ.1 dX13_tokenAt_294 rfl ?_
  refine s_iload hZ.1 dX13_tokenAt_295 ?_
  refine s_callV hZ.1 (Met_X13_byteAt hZ) (Nat.le_of_ble_eq_true rfl) vy_X13_byteAt zcl13 zw2940 zw178 (Or.inl zw2938) dX13_tokenAt_297 ?_
  refine s_iadd dX13_tokenAt_300 ?_
  refine s_bipush dX13_tokenAt_301 (by decide +kernel) ?_
  refine s_isub dX13_tokenAt_303 ?_
  exact s_goto dX13_tokenAt_304 (by decide) (wX13_tokenAt_309 hZ j hj)
noncomputable def vX13_tokenAt_280 (j : Nat → rx_K) : rx_K := o_ld rx_isI 4 (o_ld rx_isI 2 (o_bi (fun x y => x - y) (o_const 72 (o_c2 rx_lt (vX13_tokenAt_289 j) (vX13_tokenAt_307 j)))))
set_option maxRecDepth 20000 in
theorem wX13_tokenAt_280 (hZ : zO b e D A X) (j : Nat → rx_K) (hj : ∀ k pc, [80, 155, 258][k]? = some pc → rx_OK (zV b e D A X) mX13_tokenAt 2 pc (j k)) : rx_OK (zV b e D A X) mX13_tokenAt 2 280 (vX13_tokenAt_280 j) := by
  unfold vX13_tokenAt_280
  refine s_iload hZ.1 dX13_tokenAt_280 ?_
  refine s_iload_n hZ.1 dX13_tokenAt_282 rfl ?_
  refine s_isub dX13_tokenAt_283 ?_
  refine s_bipush dX13_tokenAt_284 (by decide +kernel) ?_
  exact s_icmp_ge dX13_tokenAt_286 (by decide) (wX13_tokenAt_307 hZ j hj) (wX13_tokenAt_289 hZ j hj)
noncomputable def vX13_tokenAt_269 (j : Nat → rx_K) : rx_K := o_ld rx_isR 0 (o_ld rx_isI 4 (o_callV 1 13 FX13_byteAt (o_const 456 (o_c2 (fun h x y => rx_lt h y x) (vX13_tokenAt_317 j) (vX13_tokenAt_280 j)))))
set_option maxRecDepth 20000 in
theorem wX13_tokenAt_269 (hZ : zO b e D A X) (j : Nat → rx_K) (hj : ∀ k pc, [80, 155, 258][k]? = some pc → rx_OK (zV b e D A X) mX13_tokenAt 2 pc (j k)) : rx_OK (zV b e D A X) mX13_tokenAt 2 269 (vX13_tokenAt_269 j) := by
  unfold vX13_tokenAt_269
  refine s_aload_n hZ.1 dX13_tokenAt_269 rfl ?_
  refine s_iload hZ.1 dX13_tokenAt_270 ?_
  refine s_callV hZ.1 (Met_X13_byteAt hZ) (Nat.le_of_ble_eq_true rfl) vy_X13_byteAt zcl13 zw2940 zw178 (Or.inl zw2938) dX13_tokenAt_272 ?_
  refine s_bipush dX13_tokenAt_275 (by decide +kernel) ?_
  exact s_icmp_gt dX13_tokenAt_277 (by decide) (wX13_tokenAt_317 hZ j hj) (wX13_tokenAt_280 hZ j hj)
noncomputable def vX13_tokenAt_258 (j : Nat → rx_K) : rx_K := o_ld rx_isR 0 (o_ld rx_isI 4 (o_callV 1 13 FX13_byteAt (o_const 384 (o_c2 rx_lt (vX13_tokenAt_317 j) (vX13_tokenAt_269 j)))))
set_option maxRecDepth 20000 in
theorem wX13_tokenAt_258 (hZ : zO b e D A X) (j : Nat → rx_K) (hj : ∀ k pc, [80, 155, 258][k]? = some pc → rx_OK (zV b e D A X) mX13_tokenAt 2 pc (j k)) : rx_OK (zV b e D A X) mX13_tokenAt 2 258 (vX13_tokenAt_258 j) := by
  unfold vX13_tokenAt_258
  refine s_aload_n hZ.1 dX13_tokenAt_258 rfl ?_
  refine s_iload hZ.1 dX13_tokenAt_259 ?_
  refine s_callV hZ.1 (Met_X13_byteAt hZ) (Nat.le_of_ble_eq_true rfl) vy_X13_byteAt zcl13 zw2940 zw178 (Or.inl zw2938) dX13_tokenAt_261 ?_
  refine s_bipush dX13_tokenAt_264 (by decide +kernel) ?_
  exact s_icmp_lt dX13_tokenAt_266 (by decide) (wX13_tokenAt_317 hZ j hj) (wX13_tokenAt_269 hZ j hj)
noncomputable def vX13_tokenAt_252 (j : Nat → rx_K) : rx_K := o_ld rx_isI 2 (o_st rx_isI 4 (o_const 0 (o_st rx_isI 5 ((vX13_tokenAt_258 j)))))
set_option maxRecDepth 20000 in
theorem wX13_tokenAt_252 (hZ : zO b e D A X) (j : Nat → rx_K) (hj : ∀ k pc, [80, 155, 258][k]? = some pc → rx_OK (zV b e D A X) mX13_tokenAt 2 pc (j k)) : rx_OK (zV b e D A X) mX13_tokenAt 2 252 (vX13_tokenAt_252 j) := by
  unfold vX13_tokenAt_252
  refine s_iload_n hZ.1 dX13_tokenAt_252 rfl ?_
  refine s_istore hZ.1 dX13_tokenAt_253 (Nat.le_of_ble_eq_true rfl) ?_
  refine s_iconst dX13_tokenAt_255 (by decide +kernel) ?_
  refine s_istore hZ.1 dX13_tokenAt_256 (Nat.le_of_ble_eq_true rfl) ?_
  exact (wX13_tokenAt_258 hZ j hj)
noncomputable def vX13_tokenAt_246 (j : Nat → rx_K) : rx_K := o_ld rx_isI 3 (o_const 456 (o_c2 (fun h x y => rx_lt h y x) (vX13_tokenAt_349 j) (vX13_tokenAt_252 j)))
set_option maxRecDepth 20000 in
theorem wX13_tokenAt_246 (hZ : zO b e D A X) (j : Nat → rx_K) (hj : ∀ k pc, [80, 155, 258][k]? = some pc → rx_OK (zV b e D A X) mX13_tokenAt 2 pc (j k)) : rx_OK (zV b e D A X) mX13_tokenAt 2 246 (vX13_tokenAt_246 j) := by
  unfold vX13_tokenAt_246
  refine s_iload_n hZ.1 dX13_tokenAt_246 rfl ?_
  refine s_bipush dX13_tokenAt_247 (by decide +kernel) ?_
  exact s_icmp_gt dX13_tokenAt_249 (by decide) (wX13_tokenAt_349 hZ j hj) (wX13_tokenAt_252 hZ j hj)
noncomputable def vX13_tokenAt_240 (j : Nat → rx_K) : rx_K := o_ld rx_isI 3 (o_const 384 (o_c2 rx_lt (vX13_tokenAt_349 j) (vX13_tokenAt_246 j)))
set_option maxRecDepth 20000 in
theorem wX13_tokenAt_240 (hZ : zO b e D A X) (j : Nat → rx_K) (hj : ∀ k pc, [80, 155, 258][k]? = some pc → rx_OK (zV b e D A X) mX13_tokenAt 2 pc (j k)) : rx_OK (zV b e D A X) mX13_tokenAt 2 240 (vX13_tokenAt_240 j) := by
  unfold vX13_tokenAt_240
  refine s_iload_n hZ.1 dX13_tokenAt_240 rfl ?_
  refine s_bipush dX13_tokenAt_241 (by decide +kernel) ?_
  exact s_icmp_lt dX13_tokenAt_243 (by decide) (wX13_tokenAt_349 hZ j hj) (wX13_tokenAt_246 hZ j hj)
noncomputable def vX13_tokenAt_228 (j : Nat → rx_K) : rx_K := o_ast 0 (fun v => v) rx_isI (o_ld rx_isR 0 (o_getf 13 14 (o_ld rx_isI 1 (o_ld rx_isL 5 (o_ast 1 (fun v => v) rx_isL (o_ld rx_isI 4 (o_ret1 rx_isI)))))))
set_option maxRecDepth 20000 in
theorem wX13_tokenAt_228 (hZ : zO b e D A X) (j : Nat → rx_K) (hj : ∀ k pc, [80, 155, 258][k]? = some pc → rx_OK (zV b e D A X) mX13_tokenAt 2 pc (j k)) : rx_OK (zV b e D A X) mX13_tokenAt 2 228 (vX13_tokenAt_228 j) := by
  unfold vX13_tokenAt_228
  refine s_iast hZ.1 (tt := 0) rfl dX13_tokenAt_228 ?_
  refine s_aload_n hZ.1 dX13_tokenAt_229 rfl ?_
  refine yg13_14 dX13_tokenAt_230 zw4135 ?_
  refine s_iload_n hZ.1 dX13_tokenAt_233 rfl ?_
  refine s_lload hZ.1 dX13_tokenAt_234 ?_
  refine s_last (tt := 1) rfl dX13_tokenAt_236 ?_
  refine s_iload hZ.1 dX13_tokenAt_237 ?_
  exact s_iret hZ.1 rfl dX13_tokenAt_239
noncomputable def vX13_tokenAt_227 (j : Nat → rx_K) : rx_K := o_const 16 ((vX13_tokenAt_228 j))
set_option maxRecDepth 20000 in
theorem wX13_tokenAt_227 (hZ : zO b e D A X) (j : Nat → rx_K) (hj : ∀ k pc, [80, 155, 258][k]? = some pc → rx_OK (zV b e D A X) mX13_tokenAt 2 pc (j k)) : rx_OK (zV b e D A X) mX13_tokenAt 2 227 (vX13_tokenAt_227 j) := by
  unfold vX13_tokenAt_227
  refine s_iconst dX13_tokenAt_227 (by decide +kernel) ?_
  exact (wX13_tokenAt_228 hZ j hj)
noncomputable def vX13_tokenAt_223 (j : Nat → rx_K) : rx_K := o_const 24 ((vX13_tokenAt_228 j))
set_option maxRecDepth 20000 in
theorem wX13_tokenAt_223 (hZ : zO b e D A X) (j : Nat → rx_K) (hj : ∀ k pc, [80, 155, 258][k]? = some pc → rx_OK (zV b e D A X) mX13_tokenAt 2 pc (j k)) : rx_OK (zV b e D A X) mX13_tokenAt 2 223 (vX13_tokenAt_223 j) := by
  unfold vX13_tokenAt_223
  refine s_iconst dX13_tokenAt_223 (by decide +kernel) ?_
  exact s_goto dX13_tokenAt_224 (by decide) (wX13_tokenAt_228 hZ j hj)
noncomputable def vX13_tokenAt_214 (j : Nat → rx_K) : rx_K := o_ld rx_isR 0 (o_ld rx_isL 5 (o_callV 1 13 FX13_isWord (o_c1 rx_eq (vX13_tokenAt_227 j) (vX13_tokenAt_223 j))))
set_option maxRecDepth 20000 in
theorem wX13_tokenAt_214 (hZ : zO b e D A X) (j : Nat → rx_K) (hj : ∀ k pc, [80, 155, 258][k]? = some pc → rx_OK (zV b e D A X) mX13_tokenAt 2 pc (j k)) : rx_OK (zV b e D A X) mX13_tokenAt 2 214 (vX13_tokenAt_214 j) := by
  unfold vX13_tokenAt_214
  refine s_aload_n hZ.1 dX13_tokenAt_214 rfl ?_
  refine s_lload hZ.1 dX13_tokenAt_215 ?_
  refine s_callV hZ.1 (Met_X13_isWord hZ) (Nat.le_of_ble_eq_true rfl) vy_X13_isWord zcl13 zw2962 zw181 (Or.inl zw2960) dX13_tokenAt_217 ?_
  exact s_if_eq dX13_tokenAt_220 (by decide) (wX13_tokenAt_227 hZ j hj) (wX13_tokenAt_223 hZ j hj)
noncomputable def vX13_tokenAt_209 (j : Nat → rx_K) : rx_K := o_const 48 ((vX13_tokenAt_228 j))
set_option maxRecDepth 20000 in
theorem wX13_tokenAt_209 (hZ : zO b e D A X) (j : Nat → rx_K) (hj : ∀ k pc, [80, 155, 258][k]? = some pc → rx_OK (zV b e D A X) mX13_tokenAt 2 pc (j k)) : rx_OK (zV b e D A X) mX13_tokenAt 2 209 (vX13_tokenAt_209 j) := by
  unfold vX13_tokenAt_209
  refine s_bipush dX13_tokenAt_209 (by decide +kernel) ?_
  exact s_goto dX13_tokenAt_211 (by decide) (wX13_tokenAt_228 hZ j hj)
noncomputable def vX13_tokenAt_195 (j : Nat → rx_K) : rx_K := o_ld rx_isR 0 (o_getf 13 11 (o_ld rx_isI 1 (o_ld rx_isI 4 (o_ld rx_isI 2 (o_bi (fun x y => x - y) (o_const 80 (o_c2 (fun h x y => rx_lt h y x) (vX13_tokenAt_209 j) (vX13_tokenAt_214 j))))))))
set_option maxRecDepth 20000 in
theorem wX13_tokenAt_195 (hZ : zO b e D A X) (j : Nat → rx_K) (hj : ∀ k pc, [80, 155, 258][k]? = some pc → rx_OK (zV b e D A X) mX13_tokenAt 2 pc (j k)) : rx_OK (zV b e D A X) mX13_tokenAt 2 195 (vX13_tokenAt_195 j) := by
  unfold vX13_tokenAt_195
  refine s_aload_n hZ.1 dX13_tokenAt_195 rfl ?_
  refine yg13_11 dX13_tokenAt_196 zw4132 ?_
  refine s_iload_n hZ.1 dX13_tokenAt_199 rfl ?_
  refine s_iload hZ.1 dX13_tokenAt_200 ?_
  refine s_iload_n hZ.1 dX13_tokenAt_202 rfl ?_
  refine s_isub dX13_tokenAt_203 ?_
  refine s_bipush dX13_tokenAt_204 (by decide +kernel) ?_
  exact s_icmp_le dX13_tokenAt_206 (by decide) (wX13_tokenAt_214 hZ j hj) (wX13_tokenAt_209 hZ j hj)
noncomputable def vX13_tokenAt_171 (j : Nat → rx_K) : rx_K := o_ld rx_isL 5 (o_const 48 (o_bs (fun x y => x <<< (y.toInt64 &&& 63)) (o_ld rx_isR 0 (o_ld rx_isI 7 (o_callV 1 13 FX13_byteAt (o_callS 1 FX13_sym (o_il (fun x => x.toInt64) (o_bl (fun x y => x ||| y) (o_stL 5 (o_inc 7 (1) ((j 1))))))))))))
set_option maxRecDepth 20000 in
theorem wX13_tokenAt_171 (hZ : zO b e D A X) (j : Nat → rx_K) (hj : ∀ k pc, [80, 155, 258][k]? = some pc → rx_OK (zV b e D A X) mX13_tokenAt 2 pc (j k)) : rx_OK (zV b e D A X) mX13_tokenAt 2 171 (vX13_tokenAt_171 j) := by
  unfold vX13_tokenAt_171
  refine s_lload hZ.1 dX13_tokenAt_171 ?_
  refine s_bipush dX13_tokenAt_173 (by decide +kernel) ?_
  refine s_lshl dX13_tokenAt_175 ?_
  refine s_aload_n hZ.1 dX13_tokenAt_176 rfl ?_
  refine s_iload hZ.1 dX13_tokenAt_177 ?_
  refine s_callV hZ.1 (Met_X13_byteAt hZ) (Nat.le_of_ble_eq_true rfl) vy_X13_byteAt zcl13 zw2940 zw178 (Or.inl zw2938) dX13_tokenAt_179 ?_
  refine s_callS hZ.1 (Met_X13_sym hZ) (Nat.le_of_ble_eq_true rfl) vy_X13_sym zw2957 (Or.inl zw2956) dX13_tokenAt_182 ?_
  refine s_i2l dX13_tokenAt_185 ?_
  refine s_lor dX13_tokenAt_186 ?_
  refine s_lstore hZ.1 dX13_tokenAt_187 (Nat.le_of_ble_eq_true rfl) ?_
  refine s_iinc hZ.1 dX13_tokenAt_189 (Nat.le_of_ble_eq_true rfl) ?_
  exact s_goto dX13_tokenAt_192 (by decide) (hj 1 155 rfl)
noncomputable def vX13_tokenAt_162 (j : Nat → rx_K) : rx_K := o_ld rx_isI 7 (o_ld rx_isI 2 (o_const 80 (o_bi (fun x y => x + y) (o_c2 rx_lt (vX13_tokenAt_171 j) (vX13_tokenAt_195 j)))))
set_option maxRecDepth 20000 in
theorem wX13_tokenAt_162 (hZ : zO b e D A X) (j : Nat → rx_K) (hj : ∀ k pc, [80, 155, 258][k]? = some pc → rx_OK (zV b e D A X) mX13_tokenAt 2 pc (j k)) : rx_OK (zV b e D A X) mX13_tokenAt 2 162 (vX13_tokenAt_162 j) := by
  unfold vX13_tokenAt_162
  refine s_iload hZ.1 dX13_tokenAt_162 ?_
  refine s_iload_n hZ.1 dX13_tokenAt_164 rfl ?_
  refine s_bipush dX13_tokenAt_165 (by decide +kernel) ?_
  refine s_iadd dX13_tokenAt_167 ?_
  exact s_icmp_ge dX13_tokenAt_168 (by decide) (wX13_tokenAt_195 hZ j hj) (wX13_tokenAt_171 hZ j hj)
noncomputable def vX13_tokenAt_155 (j : Nat → rx_K) : rx_K := o_ld rx_isI 7 (o_ld rx_isI 4 (o_c2 rx_lt (vX13_tokenAt_162 j) (vX13_tokenAt_195 j)))
set_option maxRecDepth 20000 in
theorem wX13_tokenAt_155 (hZ : zO b e D A X) (j : Nat → rx_K) (hj : ∀ k pc, [80, 155, 258][k]? = some pc → rx_OK (zV b e D A X) mX13_tokenAt 2 pc (j k)) : rx_OK (zV b e D A X) mX13_tokenAt 2 155 (vX13_tokenAt_155 j) := by
  unfold vX13_tokenAt_155
  refine s_iload hZ.1 dX13_tokenAt_155 ?_
  refine s_iload hZ.1 dX13_tokenAt_157 ?_
  exact s_icmp_ge dX13_tokenAt_159 (by decide) (wX13_tokenAt_195 hZ j hj) (wX13_tokenAt_162 hZ j hj)
noncomputable def vX13_tokenAt_142 (j : Nat → rx_K) : rx_K := o_ld rx_isR 0 (o_ld rx_isI 2 (o_callV 1 13 FX13_wordEnd (o_st rx_isI 4 (o_const 1 (o_stL 5 (o_ld rx_isI 2 (o_st rx_isI 7 ((vX13_tokenAt_155 j)))))))))
set_option maxRecDepth 20000 in
theorem wX13_tokenAt_142 (hZ : zO b e D A X) (j : Nat → rx_K) (hj : ∀ k pc, [80, 155, 258][k]? = some pc → rx_OK (zV b e D A X) mX13_tokenAt 2 pc (j k)) : rx_OK (zV b e D A X) mX13_tokenAt 2 142 (vX13_tokenAt_142 j) := by
  unfold vX13_tokenAt_142
  refine s_aload_n hZ.1 dX13_tokenAt_142 rfl ?_
  refine s_iload_n hZ.1 dX13_tokenAt_143 rfl ?_
  refine s_callV hZ.1 (Met_X13_wordEnd hZ) (Nat.le_of_ble_eq_true rfl) vy_X13_wordEnd zcl13 zw2954 zw180 (Or.inl zw2952) dX13_tokenAt_144 ?_
  refine s_istore hZ.1 dX13_tokenAt_147 (Nat.le_of_ble_eq_true rfl) ?_
  refine s_lconst dX13_tokenAt_149 (by decide +kernel) ?_
  refine s_lstore hZ.1 dX13_tokenAt_150 (Nat.le_of_ble_eq_true rfl) ?_
  refine s_iload_n hZ.1 dX13_tokenAt_152 rfl ?_
  refine s_istore hZ.1 dX13_tokenAt_153 (Nat.le_of_ble_eq_true rfl) ?_
  exact (wX13_tokenAt_155 hZ j hj)
noncomputable def vX13_tokenAt_135 (j : Nat → rx_K) : rx_K := o_ld rx_isI 3 (o_callS 1 FX13_isSmall (o_c1 rx_eq (vX13_tokenAt_240 j) (vX13_tokenAt_142 j)))
set_option maxRecDepth 20000 in
theorem wX13_tokenAt_135 (hZ : zO b e D A X) (j : Nat → rx_K) (hj : ∀ k pc, [80, 155, 258][k]? = some pc → rx_OK (zV b e D A X) mX13_tokenAt 2 pc (j k)) : rx_OK (zV b e D A X) mX13_tokenAt 2 135 (vX13_tokenAt_135 j) := by
  unfold vX13_tokenAt_135
  refine s_iload_n hZ.1 dX13_tokenAt_135 rfl ?_
  refine s_callS hZ.1 (Met_X13_isSmall hZ) (Nat.le_of_ble_eq_true rfl) vy_X13_isSmall zw2947 (Or.inl zw2946) dX13_tokenAt_136 ?_
  exact s_if_eq dX13_tokenAt_139 (by decide) (wX13_tokenAt_240 hZ j hj) (wX13_tokenAt_142 hZ j hj)
noncomputable def vX13_tokenAt_120 (j : Nat → rx_K) : rx_K := o_ld rx_isR 0 (o_getf 13 14 (o_ld rx_isI 1 (o_ld rx_isL 5 (o_const 18446744073709551617 (o_bl (fun x y => x ||| y) (o_ast 1 (fun v => v) rx_isL (o_ld rx_isI 4 (o_ret1 rx_isI))))))))
set_option maxRecDepth 20000 in
theorem wX13_tokenAt_120 (hZ : zO b e D A X) (j : Nat → rx_K) (hj : ∀ k pc, [80, 155, 258][k]? = some pc → rx_OK (zV b e D A X) mX13_tokenAt 2 pc (j k)) : rx_OK (zV b e D A X) mX13_tokenAt 2 120 (vX13_tokenAt_120 j) := by
  unfold vX13_tokenAt_120
  refine s_aload_n hZ.1 dX13_tokenAt_120 rfl ?_
  refine yg13_14 dX13_tokenAt_121 zw4135 ?_
  refine s_iload_n hZ.1 dX13_tokenAt_124 rfl ?_
  refine s_lload hZ.1 dX13_tokenAt_125 ?_
  refine s_ldc2 dX13_tokenAt_127 zw2959 (by decide +kernel) ?_
  refine s_lor dX13_tokenAt_130 ?_
  refine s_last (tt := 1) rfl dX13_tokenAt_131 ?_
  refine s_iload hZ.1 dX13_tokenAt_132 ?_
  exact s_iret hZ.1 rfl dX13_tokenAt_134
noncomputable def vX13_tokenAt_96 (j : Nat → rx_K) : rx_K := o_ld rx_isL 5 (o_const 48 (o_bs (fun x y => x <<< (y.toInt64 &&& 63)) (o_ld rx_isR 0 (o_ld rx_isI 7 (o_callV 1 13 FX13_byteAt (o_callS 1 FX13_sym (o_il (fun x => x.toInt64) (o_bl (fun x y => x ||| y) (o_stL 5 (o_inc 7 (1) ((j 0))))))))))))
set_option maxRecDepth 20000 in
theorem wX13_tokenAt_96 (hZ : zO b e D A X) (j : Nat → rx_K) (hj : ∀ k pc, [80, 155, 258][k]? = some pc → rx_OK (zV b e D A X) mX13_tokenAt 2 pc (j k)) : rx_OK (zV b e D A X) mX13_tokenAt 2 96 (vX13_tokenAt_96 j) := by
  unfold vX13_tokenAt_96
  refine s_lload hZ.1 dX13_tokenAt_96 ?_
  refine s_bipush dX13_tokenAt_98 (by decide +kernel) ?_
  refine s_lshl dX13_tokenAt_100 ?_
  refine s_aload_n hZ.1 dX13_tokenAt_101 rfl ?_
  refine s_iload hZ.1 dX13_tokenAt_102 ?_
  refine s_callV hZ.1 (Met_X13_byteAt hZ) (Nat.le_of_ble_eq_true rfl) vy_X13_byteAt zcl13 zw2940 zw178 (Or.inl zw2938) dX13_tokenAt_104 ?_
  refine s_callS hZ.1 (Met_X13_sym hZ) (Nat.le_of_ble_eq_true rfl) vy_X13_sym zw2957 (Or.inl zw2956) dX13_tokenAt_107 ?_
  refine s_i2l dX13_tokenAt_110 ?_
  refine s_lor dX13_tokenAt_111 ?_
  refine s_lstore hZ.1 dX13_tokenAt_112 (Nat.le_of_ble_eq_true rfl) ?_
  refine s_iinc hZ.1 dX13_tokenAt_114 (Nat.le_of_ble_eq_true rfl) ?_
  exact s_goto dX13_tokenAt_117 (by decide) (hj 0 80 rfl)
noncomputable def vX13_tokenAt_87 (j : Nat → rx_K) : rx_K := o_ld rx_isI 7 (o_ld rx_isI 2 (o_const 88 (o_bi (fun x y => x + y) (o_c2 rx_lt (vX13_tokenAt_96 j) (vX13_tokenAt_120 j)))))
set_option maxRecDepth 20000 in
theorem wX13_tokenAt_87 (hZ : zO b e D A X) (j : Nat → rx_K) (hj : ∀ k pc, [80, 155, 258][k]? = some pc → rx_OK (zV b e D A X) mX13_tokenAt 2 pc (j k)) : rx_OK (zV b e D A X) mX13_tokenAt 2 87 (vX13_tokenAt_87 j) := by
  unfold vX13_tokenAt_87
  refine s_iload hZ.1 dX13_tokenAt_87 ?_
  refine s_iload_n hZ.1 dX13_tokenAt_89 rfl ?_
  refine s_bipush dX13_tokenAt_90 (by decide +kernel) ?_
  refine s_iadd dX13_tokenAt_92 ?_
  exact s_icmp_ge dX13_tokenAt_93 (by decide) (wX13_tokenAt_120 hZ j hj) (wX13_tokenAt_96 hZ j hj)
noncomputable def vX13_tokenAt_80 (j : Nat → rx_K) : rx_K := o_ld rx_isI 7 (o_ld rx_isI 4 (o_c2 rx_lt (vX13_tokenAt_87 j) (vX13_tokenAt_120 j)))
set_option maxRecDepth 20000 in
theorem wX13_tokenAt_80 (hZ : zO b e D A X) (j : Nat → rx_K) (hj : ∀ k pc, [80, 155, 258][k]? = some pc → rx_OK (zV b e D A X) mX13_tokenAt 2 pc (j k)) : rx_OK (zV b e D A X) mX13_tokenAt 2 80 (vX13_tokenAt_80 j) := by
  unfold vX13_tokenAt_80
  refine s_iload hZ.1 dX13_tokenAt_80 ?_
  refine s_iload hZ.1 dX13_tokenAt_82 ?_
  exact s_icmp_ge dX13_tokenAt_84 (by decide) (wX13_tokenAt_120 hZ j hj) (wX13_tokenAt_87 hZ j hj)
noncomputable def vX13_tokenAt_67 (j : Nat → rx_K) : rx_K := o_ast 0 (fun v => v) rx_isI (o_ld rx_isI 3 (o_callS 1 FX13_sym (o_il (fun x => x.toInt64) (o_stL 5 (o_ld rx_isI 2 (o_const 16 (o_bi (fun x y => x + y) (o_st rx_isI 7 ((vX13_tokenAt_80 j))))))))))
set_option maxRecDepth 20000 in
theorem wX13_tokenAt_67 (hZ : zO b e D A X) (j : Nat → rx_K) (hj : ∀ k pc, [80, 155, 258][k]? = some pc → rx_OK (zV b e D A X) mX13_tokenAt 2 pc (j k)) : rx_OK (zV b e D A X) mX13_tokenAt 2 67 (vX13_tokenAt_67 j) := by
  unfold vX13_tokenAt_67
  refine s_iast hZ.1 (tt := 0) rfl dX13_tokenAt_67 ?_
  refine s_iload_n hZ.1 dX13_tokenAt_68 rfl ?_
  refine s_callS hZ.1 (Met_X13_sym hZ) (Nat.le_of_ble_eq_true rfl) vy_X13_sym zw2957 (Or.inl zw2956) dX13_tokenAt_69 ?_
  refine s_i2l dX13_tokenAt_72 ?_
  refine s_lstore hZ.1 dX13_tokenAt_73 (Nat.le_of_ble_eq_true rfl) ?_
  refine s_iload_n hZ.1 dX13_tokenAt_75 rfl ?_
  refine s_iconst dX13_tokenAt_76 (by decide +kernel) ?_
  refine s_iadd dX13_tokenAt_77 ?_
  refine s_istore hZ.1 dX13_tokenAt_78 (Nat.le_of_ble_eq_true rfl) ?_
  exact (wX13_tokenAt_80 hZ j hj)
noncomputable def vX13_tokenAt_66 (j : Nat → rx_K) : rx_K := o_const 8 ((vX13_tokenAt_67 j))
set_option maxRecDepth 20000 in
theorem wX13_tokenAt_66 (hZ : zO b e D A X) (j : Nat → rx_K) (hj : ∀ k pc, [80, 155, 258][k]? = some pc → rx_OK (zV b e D A X) mX13_tokenAt 2 pc (j k)) : rx_OK (zV b e D A X) mX13_tokenAt 2 66 (vX13_tokenAt_66 j) := by
  unfold vX13_tokenAt_66
  refine s_iconst dX13_tokenAt_66 (by decide +kernel) ?_
  exact (wX13_tokenAt_67 hZ j hj)
noncomputable def vX13_tokenAt_61 (j : Nat → rx_K) : rx_K := o_const 48 ((vX13_tokenAt_67 j))
set_option maxRecDepth 20000 in
theorem wX13_tokenAt_61 (hZ : zO b e D A X) (j : Nat → rx_K) (hj : ∀ k pc, [80, 155, 258][k]? = some pc → rx_OK (zV b e D A X) mX13_tokenAt 2 pc (j k)) : rx_OK (zV b e D A X) mX13_tokenAt 2 61 (vX13_tokenAt_61 j) := by
  unfold vX13_tokenAt_61
  refine s_bipush dX13_tokenAt_61 (by decide +kernel) ?_
  exact s_goto dX13_tokenAt_63 (by decide) (wX13_tokenAt_67 hZ j hj)
noncomputable def vX13_tokenAt_38 (j : Nat → rx_K) : rx_K := o_ld rx_isR 0 (o_ld rx_isI 2 (o_const 16 (o_bi (fun x y => x + y) (o_callV 1 13 FX13_wordEnd (o_st rx_isI 4 (o_ld rx_isR 0 (o_getf 13 11 (o_ld rx_isI 1 (o_ld rx_isI 4 (o_ld rx_isI 2 (o_bi (fun x y => x - y) (o_const 88 (o_c2 (fun h x y => rx_lt h y x) (vX13_tokenAt_61 j) (vX13_tokenAt_66 j))))))))))))))
set_option maxRecDepth 20000 in
theorem wX13_tokenAt_38 (hZ : zO b e D A X) (j : Nat → rx_K) (hj : ∀ k pc, [80, 155, 258][k]? = some pc → rx_OK (zV b e D A X) mX13_tokenAt 2 pc (j k)) : rx_OK (zV b e D A X) mX13_tokenAt 2 38 (vX13_tokenAt_38 j) := by
  unfold vX13_tokenAt_38
  refine s_aload_n hZ.1 dX13_tokenAt_38 rfl ?_
  refine s_iload_n hZ.1 dX13_tokenAt_39 rfl ?_
  refine s_iconst dX13_tokenAt_40 (by decide +kernel) ?_
  refine s_iadd dX13_tokenAt_41 ?_
  refine s_callV hZ.1 (Met_X13_wordEnd hZ) (Nat.le_of_ble_eq_true rfl) vy_X13_wordEnd zcl13 zw2954 zw180 (Or.inl zw2952) dX13_tokenAt_42 ?_
  refine s_istore hZ.1 dX13_tokenAt_45 (Nat.le_of_ble_eq_true rfl) ?_
  refine s_aload_n hZ.1 dX13_tokenAt_47 rfl ?_
  refine yg13_11 dX13_tokenAt_48 zw4132 ?_
  refine s_iload_n hZ.1 dX13_tokenAt_51 rfl ?_
  refine s_iload hZ.1 dX13_tokenAt_52 ?_
  refine s_iload_n hZ.1 dX13_tokenAt_54 rfl ?_
  refine s_isub dX13_tokenAt_55 ?_
  refine s_bipush dX13_tokenAt_56 (by decide +kernel) ?_
  exact s_icmp_le dX13_tokenAt_58 (by decide) (wX13_tokenAt_66 hZ j hj) (wX13_tokenAt_61 hZ j hj)
noncomputable def vX13_tokenAt_25 (j : Nat → rx_K) : rx_K := o_ld rx_isR 0 (o_ld rx_isI 2 (o_const 16 (o_bi (fun x y => x + y) (o_callV 1 13 FX13_byteAt (o_callS 1 FX13_isGreat (o_c1 rx_eq (vX13_tokenAt_135 j) (vX13_tokenAt_38 j)))))))
set_option maxRecDepth 20000 in
theorem wX13_tokenAt_25 (hZ : zO b e D A X) (j : Nat → rx_K) (hj : ∀ k pc, [80, 155, 258][k]? = some pc → rx_OK (zV b e D A X) mX13_tokenAt 2 pc (j k)) : rx_OK (zV b e D A X) mX13_tokenAt 2 25 (vX13_tokenAt_25 j) := by
  unfold vX13_tokenAt_25
  refine s_aload_n hZ.1 dX13_tokenAt_25 rfl ?_
  refine s_iload_n hZ.1 dX13_tokenAt_26 rfl ?_
  refine s_iconst dX13_tokenAt_27 (by decide +kernel) ?_
  refine s_iadd dX13_tokenAt_28 ?_
  refine s_callV hZ.1 (Met_X13_byteAt hZ) (Nat.le_of_ble_eq_true rfl) vy_X13_byteAt zcl13 zw2940 zw178 (Or.inl zw2938) dX13_tokenAt_29 ?_
  refine s_callS hZ.1 (Met_X13_isGreat hZ) (Nat.le_of_ble_eq_true rfl) vy_X13_isGreat zw2950 (Or.inl zw2949) dX13_tokenAt_32 ?_
  exact s_if_eq dX13_tokenAt_35 (by decide) (wX13_tokenAt_135 hZ j hj) (wX13_tokenAt_38 hZ j hj)
noncomputable def vX13_tokenAt_13 (j : Nat → rx_K) : rx_K := o_ld rx_isR 0 (o_ld rx_isI 2 (o_const 8 (o_bi (fun x y => x + y) (o_callV 1 13 FX13_byteAt (o_const 368 (o_c2 rx_eq (vX13_tokenAt_25 j) (vX13_tokenAt_135 j)))))))
set_option maxRecDepth 20000 in
theorem wX13_tokenAt_13 (hZ : zO b e D A X) (j : Nat → rx_K) (hj : ∀ k pc, [80, 155, 258][k]? = some pc → rx_OK (zV b e D A X) mX13_tokenAt 2 pc (j k)) : rx_OK (zV b e D A X) mX13_tokenAt 2 13 (vX13_tokenAt_13 j) := by
  unfold vX13_tokenAt_13
  refine s_aload_n hZ.1 dX13_tokenAt_13 rfl ?_
  refine s_iload_n hZ.1 dX13_tokenAt_14 rfl ?_
  refine s_iconst dX13_tokenAt_15 (by decide +kernel) ?_
  refine s_iadd dX13_tokenAt_16 ?_
  refine s_callV hZ.1 (Met_X13_byteAt hZ) (Nat.le_of_ble_eq_true rfl) vy_X13_byteAt zcl13 zw2940 zw178 (Or.inl zw2938) dX13_tokenAt_17 ?_
  refine s_bipush dX13_tokenAt_20 (by decide +kernel) ?_
  exact s_icmp_ne dX13_tokenAt_22 (by decide) (wX13_tokenAt_135 hZ j hj) (wX13_tokenAt_25 hZ j hj)
noncomputable def vX13_tokenAt_0 (j : Nat → rx_K) : rx_K := o_ld rx_isR 0 (o_ld rx_isI 2 (o_callV 1 13 FX13_byteAt (o_st rx_isI 3 (o_ld rx_isI 3 (o_callS 1 FX13_isSmall (o_c1 rx_eq (vX13_tokenAt_135 j) (vX13_tokenAt_13 j)))))))
set_option maxRecDepth 20000 in
theorem wX13_tokenAt_0 (hZ : zO b e D A X) (j : Nat → rx_K) (hj : ∀ k pc, [80, 155, 258][k]? = some pc → rx_OK (zV b e D A X) mX13_tokenAt 2 pc (j k)) : rx_OK (zV b e D A X) mX13_tokenAt 2 0 (vX13_tokenAt_0 j) := by
  unfold vX13_tokenAt_0
  refine s_aload_n hZ.1 dX13_tokenAt_0 rfl ?_
  refine s_iload_n hZ.1 dX13_tokenAt_1 rfl ?_
  refine s_callV hZ.1 (Met_X13_byteAt hZ) (Nat.le_of_ble_eq_true rfl) vy_X13_byteAt zcl13 zw2940 zw178 (Or.inl zw2938) dX13_tokenAt_2 ?_
  refine s_istore_n hZ.1 dX13_tokenAt_5 rfl (Nat.le_of_ble_eq_true rfl) ?_
  refine s_iload_n hZ.1 dX13_tokenAt_6 rfl ?_
  refine s_callS hZ.1 (Met_X13_isSmall hZ) (Nat.le_of_ble_eq_true rfl) vy_X13_isSmall zw2947 (Or.inl zw2946) dX13_tokenAt_7 ?_
  exact s_if_eq dX13_tokenAt_10 (by decide) (wX13_tokenAt_135 hZ j hj) (wX13_tokenAt_13 hZ j hj)
noncomputable def vhX13_tokenAt (j : Nat → rx_K) : List rx_K := [vX13_tokenAt_80 j, vX13_tokenAt_155 j, vX13_tokenAt_258 j]
theorem vlX13_tokenAt (hZ : zO b e D A X) : ∀ n k pc, [80, 155, 258][k]? = some pc → rx_OK (zV b e D A X) mX13_tokenAt 2 pc (rx_J (vhX13_tokenAt) n k) := rx_loop fun j hj k pc h => by
  match k, h with
  | 0, h =>
    have e9 := Option.some.inj (show some 80 = some pc from h)
    subst e9
    exact wX13_tokenAt_80 hZ j hj
  | 1, h =>
    have e9 := Option.some.inj (show some 155 = some pc from h)
    subst e9
    exact wX13_tokenAt_155 hZ j hj
  | 2, h =>
    have e9 := Option.some.inj (show some 258 = some pc from h)
    subst e9
    exact wX13_tokenAt_258 hZ j hj
  | _ + 3, h => exact absurd h (by simp)
noncomputable def FX13_tokenAt : List Nat → rx_H → Option (Nat × rx_H) := rx_ent 8 (vX13_tokenAt_0 (rx_J (vhX13_tokenAt) 4000000000))
theorem Met_X13_tokenAt (hZ : zO b e D A X) : rx_Met (zV b e D A X) 2 yX13_tokenAt mX13_tokenAt (FX13_tokenAt) := rx_entry hZ.1 (wX13_tokenAt_0 hZ _ (vlX13_tokenAt hZ 4000000000)) (by decide +kernel) rfl (fun h => by cases h)
abbrev mX13_tokenize : rx_M := (RX13, cX13_tokenize, 6, none, false)
theorem vy_X13_tokenize : rx_Y (zV b e D A X) yX13_tokenize mX13_tokenize 0 := ⟨zw2937, zw431, by decide, by decide +kernel, by decide +kernel, by decide +kernel⟩
noncomputable def vX13_tokenize_172 (j : Nat → rx_K) : rx_K := o_ld rx_isR 0 (o_getf 13 16 (o_ld rx_isR 0 (o_getf 13 19 (o_ld rx_isI 2 (o_ast 0 (fun v => v) rx_isI (o_ret0))))))
set_option maxRecDepth 20000 in
theorem wX13_tokenize_172 (hZ : zO b e D A X) (j : Nat → rx_K) (hj : ∀ k pc, [6, 10][k]? = some pc → rx_OK (zV b e D A X) mX13_tokenize 3 pc (j k)) : rx_OK (zV b e D A X) mX13_tokenize 3 172 (vX13_tokenize_172 j) := by
  unfold vX13_tokenize_172
  refine s_aload_n hZ.1 dX13_tokenize_172 rfl ?_
  refine yg13_16 dX13_tokenize_173 zw4137 ?_
  refine s_aload_n hZ.1 dX13_tokenize_176 rfl ?_
  refine yg13_19 dX13_tokenize_177 zw4140 ?_
  refine s_iload_n hZ.1 dX13_tokenize_180 rfl ?_
  refine s_iast hZ.1 (tt := 0) rfl dX13_tokenize_181 ?_
  exact s_vret rfl dX13_tokenize_182
noncomputable def vX13_tokenize_162 (j : Nat → rx_K) : rx_K := o_st rx_isI 3 (o_ld rx_isI 5 (o_st rx_isI 1 (o_inc 2 (1) ((j 0)))))
set_option maxRecDepth 20000 in
theorem wX13_tokenize_162 (hZ : zO b e D A X) (j : Nat → rx_K) (hj : ∀ k pc, [6, 10][k]? = some pc → rx_OK (zV b e D A X) mX13_tokenize 3 pc (j k)) : rx_OK (zV b e D A X) mX13_tokenize 3 162 (vX13_tokenize_162 j) := by
  unfold vX13_tokenize_162
  refine s_istore_n hZ.1 dX13_tokenize_162 rfl (Nat.le_of_ble_eq_true rfl) ?_
  refine s_iload hZ.1 dX13_tokenize_163 ?_
  refine s_istore_n hZ.1 dX13_tokenize_165 rfl (Nat.le_of_ble_eq_true rfl) ?_
  refine s_iinc hZ.1 dX13_tokenize_166 (Nat.le_of_ble_eq_true rfl) ?_
  exact s_goto dX13_tokenize_169 (by decide) (hj 0 6 rfl)
noncomputable def vX13_tokenize_161 (j : Nat → rx_K) : rx_K := o_const 0 ((vX13_tokenize_162 j))
set_option maxRecDepth 20000 in
theorem wX13_tokenize_161 (hZ : zO b e D A X) (j : Nat → rx_K) (hj : ∀ k pc, [6, 10][k]? = some pc → rx_OK (zV b e D A X) mX13_tokenize 3 pc (j k)) : rx_OK (zV b e D A X) mX13_tokenize 3 161 (vX13_tokenize_161 j) := by
  unfold vX13_tokenize_161
  refine s_iconst dX13_tokenize_161 (by decide +kernel) ?_
  exact (wX13_tokenize_162 hZ j hj)
noncomputable def vX13_tokenize_157 (j : Nat → rx_K) : rx_K := o_const 8 ((vX13_tokenize_162 j))
set_option maxRecDepth 20000 in
theorem wX13_tokenize_157 (hZ : zO b e D A X) (j : Nat → rx_K) (hj : ∀ k pc, [6, 10][k]? = some pc → rx_OK (zV b e D A X) mX13_tokenize 3 pc (j k)) : rx_OK (zV b e D A X) mX13_tokenize 3 157 (vX13_tokenize_157 j) := by
  unfold vX13_tokenize_157
  refine s_iconst dX13_tokenize_157 (by decide +kernel) ?_
  exact s_goto dX13_tokenize_158 (by decide) (wX13_tokenize_162 hZ j hj)
noncomputable def vX13_tokenize_150 (j : Nat → rx_K) : rx_K := o_ld rx_isI 2 (o_const 5600 (o_c2 rx_lt (vX13_tokenize_157 j) (vX13_tokenize_161 j)))
set_option maxRecDepth 20000 in
theorem wX13_tokenize_150 (hZ : zO b e D A X) (j : Nat → rx_K) (hj : ∀ k pc, [6, 10][k]? = some pc → rx_OK (zV b e D A X) mX13_tokenize 3 pc (j k)) : rx_OK (zV b e D A X) mX13_tokenize 3 150 (vX13_tokenize_150 j) := by
  unfold vX13_tokenize_150
  refine s_iload_n hZ.1 dX13_tokenize_150 rfl ?_
  refine s_sipush dX13_tokenize_151 (by decide +kernel) ?_
  exact s_icmp_ge dX13_tokenize_154 (by decide) (wX13_tokenize_161 hZ j hj) (wX13_tokenize_157 hZ j hj)
noncomputable def vX13_tokenize_138 (j : Nat → rx_K) : rx_K := o_ld rx_isR 0 (o_getf 13 11 (o_ld rx_isI 4 (o_ald 0 (o_const 48 (o_c2 rx_eq (vX13_tokenize_161 j) (vX13_tokenize_150 j))))))
set_option maxRecDepth 20000 in
theorem wX13_tokenize_138 (hZ : zO b e D A X) (j : Nat → rx_K) (hj : ∀ k pc, [6, 10][k]? = some pc → rx_OK (zV b e D A X) mX13_tokenize 3 pc (j k)) : rx_OK (zV b e D A X) mX13_tokenize 3 138 (vX13_tokenize_138 j) := by
  unfold vX13_tokenize_138
  refine s_aload_n hZ.1 dX13_tokenize_138 rfl ?_
  refine yg13_11 dX13_tokenize_139 zw4132 ?_
  refine s_iload hZ.1 dX13_tokenize_142 ?_
  refine s_iald (tt := 0) rfl dX13_tokenize_144 ?_
  refine s_bipush dX13_tokenize_145 (by decide +kernel) ?_
  exact s_icmp_eq dX13_tokenize_147 (by decide) (wX13_tokenize_161 hZ j hj) (wX13_tokenize_150 hZ j hj)
noncomputable def vX13_tokenize_117 (j : Nat → rx_K) : rx_K := o_st rx_isI 5 (o_ld rx_isR 0 (o_getf 13 13 (o_ld rx_isI 4 (o_ld rx_isI 5 (o_ast 0 (fun v => v) rx_isI (o_ld rx_isR 0 (o_getf 13 11 (o_ld rx_isI 4 (o_ald 0 (o_c1 rx_eq (vX13_tokenize_161 j) (vX13_tokenize_138 j)))))))))))
set_option maxRecDepth 20000 in
theorem wX13_tokenize_117 (hZ : zO b e D A X) (j : Nat → rx_K) (hj : ∀ k pc, [6, 10][k]? = some pc → rx_OK (zV b e D A X) mX13_tokenize 3 pc (j k)) : rx_OK (zV b e D A X) mX13_tokenize 3 117 (vX13_tokenize_117 j) := by
  unfold vX13_tokenize_117
  refine s_istore hZ.1 dX13_tokenize_117 (Nat.le_of_ble_eq_true rfl) ?_
  refine s_aload_n hZ.1 dX13_tokenize_119 rfl ?_
  refine yg13_13 dX13_tokenize_120 zw4134 ?_
  refine s_iload hZ.1 dX13_tokenize_123 ?_
  refine s_iload hZ.1 dX13_tokenize_125 ?_
  refine s_iast hZ.1 (tt := 0) rfl dX13_tokenize_127 ?_
  refine s_aload_n hZ.1 dX13_tokenize_128 rfl ?_
  refine yg13_11 dX13_tokenize_129 zw4132 ?_
  refine s_iload hZ.1 dX13_tokenize_132 ?_
  refine s_iald (tt := 0) rfl dX13_tokenize_134 ?_
  exact s_if_eq dX13_tokenize_135 (by decide) (wX13_tokenize_161 hZ j hj) (wX13_tokenize_138 hZ j hj)
noncomputable def vX13_tokenize_116 (j : Nat → rx_K) : rx_K := o_ld rx_isI 1 ((vX13_tokenize_117 j))
set_option maxRecDepth 20000 in
theorem wX13_tokenize_116 (hZ : zO b e D A X) (j : Nat → rx_K) (hj : ∀ k pc, [6, 10][k]? = some pc → rx_OK (zV b e D A X) mX13_tokenize 3 pc (j k)) : rx_OK (zV b e D A X) mX13_tokenize 3 116 (vX13_tokenize_116 j) := by
  unfold vX13_tokenize_116
  refine s_iload_n hZ.1 dX13_tokenize_116 rfl ?_
  exact (wX13_tokenize_117 hZ j hj)
noncomputable def vX13_tokenize_106 (j : Nat → rx_K) : rx_K := o_ld rx_isR 0 (o_ld rx_isI 4 (o_ld rx_isI 1 (o_callV 2 13 FX13_tokenAt ((vX13_tokenize_117 j)))))
set_option maxRecDepth 20000 in
theorem wX13_tokenize_106 (hZ : zO b e D A X) (j : Nat → rx_K) (hj : ∀ k pc, [6, 10][k]? = some pc → rx_OK (zV b e D A X) mX13_tokenize 3 pc (j k)) : rx_OK (zV b e D A X) mX13_tokenize 3 106 (vX13_tokenize_106 j) := by
  unfold vX13_tokenize_106
  refine s_aload_n hZ.1 dX13_tokenize_106 rfl ?_
  refine s_iload hZ.1 dX13_tokenize_107 ?_
  refine s_iload_n hZ.1 dX13_tokenize_109 rfl ?_
  refine s_callV hZ.1 (Met_X13_tokenAt hZ) (Nat.le_of_ble_eq_true rfl) vy_X13_tokenAt zcl13 zw2944 zw179 (Or.inl zw2942) dX13_tokenize_110 ?_
  exact s_goto dX13_tokenize_113 (by decide) (wX13_tokenize_117 hZ j hj)
noncomputable def vX13_tokenize_89 (j : Nat → rx_K) : rx_K := o_ld rx_isI 4 (o_const 0 (o_ast 0 (fun v => v) rx_isI (o_ld rx_isI 1 (o_ld rx_isR 0 (o_getf 13 6 (o_ld rx_isR 0 (o_getf 13 19 (o_ald 0 (o_c2 rx_lt (vX13_tokenize_106 j) (vX13_tokenize_116 j))))))))))
set_option maxRecDepth 20000 in
theorem wX13_tokenize_89 (hZ : zO b e D A X) (j : Nat → rx_K) (hj : ∀ k pc, [6, 10][k]? = some pc → rx_OK (zV b e D A X) mX13_tokenize 3 pc (j k)) : rx_OK (zV b e D A X) mX13_tokenize 3 89 (vX13_tokenize_89 j) := by
  unfold vX13_tokenize_89
  refine s_iload hZ.1 dX13_tokenize_89 ?_
  refine s_iconst dX13_tokenize_91 (by decide +kernel) ?_
  refine s_iast hZ.1 (tt := 0) rfl dX13_tokenize_92 ?_
  refine s_iload_n hZ.1 dX13_tokenize_93 rfl ?_
  refine s_aload_n hZ.1 dX13_tokenize_94 rfl ?_
  refine yg13_6 dX13_tokenize_95 zw4127 ?_
  refine s_aload_n hZ.1 dX13_tokenize_98 rfl ?_
  refine yg13_19 dX13_tokenize_99 zw4140 ?_
  refine s_iald (tt := 0) rfl dX13_tokenize_102 ?_
  exact s_icmp_ge dX13_tokenize_103 (by decide) (wX13_tokenize_116 hZ j hj) (wX13_tokenize_106 hZ j hj)
noncomputable def vX13_tokenize_49 (j : Nat → rx_K) : rx_K := o_ld rx_isR 0 (o_getf 13 19 (o_const 5616 (o_bi (fun x y => x * y) (o_ld rx_isI 2 (o_bi (fun x y => x + y) (o_st rx_isI 4 (o_ld rx_isR 0 (o_getf 13 12 (o_ld rx_isI 4 (o_ld rx_isI 1 (o_ast 0 (fun v => v) rx_isI (o_ld rx_isR 0 (o_getf 13 14 (o_ld rx_isI 4 (o_const 1 (o_ast 1 (fun v => v) rx_isL (o_ld rx_isR 0 (o_getf 13 15 (o_ld rx_isI 4 (o_const 0 (o_ast 0 (fun v => v) rx_isI (o_ld rx_isR 0 (o_getf 13 11 ((vX13_tokenize_89 j)))))))))))))))))))))))))
set_option maxRecDepth 20000 in
theorem wX13_tokenize_49 (hZ : zO b e D A X) (j : Nat → rx_K) (hj : ∀ k pc, [6, 10][k]? = some pc → rx_OK (zV b e D A X) mX13_tokenize 3 pc (j k)) : rx_OK (zV b e D A X) mX13_tokenize 3 49 (vX13_tokenize_49 j) := by
  unfold vX13_tokenize_49
  refine s_aload_n hZ.1 dX13_tokenize_49 rfl ?_
  refine yg13_19 dX13_tokenize_50 zw4140 ?_
  refine s_sipush dX13_tokenize_53 (by decide +kernel) ?_
  refine s_imul dX13_tokenize_56 ?_
  refine s_iload_n hZ.1 dX13_tokenize_57 rfl ?_
  refine s_iadd dX13_tokenize_58 ?_
  refine s_istore hZ.1 dX13_tokenize_59 (Nat.le_of_ble_eq_true rfl) ?_
  refine s_aload_n hZ.1 dX13_tokenize_61 rfl ?_
  refine yg13_12 dX13_tokenize_62 zw4133 ?_
  refine s_iload hZ.1 dX13_tokenize_65 ?_
  refine s_iload_n hZ.1 dX13_tokenize_67 rfl ?_
  refine s_iast hZ.1 (tt := 0) rfl dX13_tokenize_68 ?_
  refine s_aload_n hZ.1 dX13_tokenize_69 rfl ?_
  refine yg13_14 dX13_tokenize_70 zw4135 ?_
  refine s_iload hZ.1 dX13_tokenize_73 ?_
  refine s_lconst dX13_tokenize_75 (by decide +kernel) ?_
  refine s_last (tt := 1) rfl dX13_tokenize_76 ?_
  refine s_aload_n hZ.1 dX13_tokenize_77 rfl ?_
  refine yg13_15 dX13_tokenize_78 zw4136 ?_
  refine s_iload hZ.1 dX13_tokenize_81 ?_
  refine s_iconst dX13_tokenize_83 (by decide +kernel) ?_
  refine s_iast hZ.1 (tt := 0) rfl dX13_tokenize_84 ?_
  refine s_aload_n hZ.1 dX13_tokenize_85 rfl ?_
  refine yg13_11 dX13_tokenize_86 zw4132 ?_
  exact (wX13_tokenize_89 hZ j hj)
noncomputable def vX13_tokenize_43 (j : Nat → rx_K) : rx_K := o_inc 1 (1) ((j 1))
set_option maxRecDepth 20000 in
theorem wX13_tokenize_43 (hZ : zO b e D A X) (j : Nat → rx_K) (hj : ∀ k pc, [6, 10][k]? = some pc → rx_OK (zV b e D A X) mX13_tokenize 3 pc (j k)) : rx_OK (zV b e D A X) mX13_tokenize 3 43 (vX13_tokenize_43 j) := by
  unfold vX13_tokenize_43
  refine s_iinc hZ.1 dX13_tokenize_43 (Nat.le_of_ble_eq_true rfl) ?_
  exact s_goto dX13_tokenize_46 (by decide) (hj 1 10 rfl)
noncomputable def vX13_tokenize_33 (j : Nat → rx_K) : rx_K := o_ld rx_isR 0 (o_ld rx_isI 1 (o_callV 1 13 FX13_byteAt (o_const 256 (o_c2 rx_eq (vX13_tokenize_43 j) (vX13_tokenize_49 j)))))
set_option maxRecDepth 20000 in
theorem wX13_tokenize_33 (hZ : zO b e D A X) (j : Nat → rx_K) (hj : ∀ k pc, [6, 10][k]? = some pc → rx_OK (zV b e D A X) mX13_tokenize 3 pc (j k)) : rx_OK (zV b e D A X) mX13_tokenize 3 33 (vX13_tokenize_33 j) := by
  unfold vX13_tokenize_33
  refine s_aload_n hZ.1 dX13_tokenize_33 rfl ?_
  refine s_iload_n hZ.1 dX13_tokenize_34 rfl ?_
  refine s_callV hZ.1 (Met_X13_byteAt hZ) (Nat.le_of_ble_eq_true rfl) vy_X13_byteAt zcl13 zw2940 zw178 (Or.inl zw2938) dX13_tokenize_35 ?_
  refine s_bipush dX13_tokenize_38 (by decide +kernel) ?_
  exact s_icmp_ne dX13_tokenize_40 (by decide) (wX13_tokenize_49 hZ j hj) (wX13_tokenize_43 hZ j hj)
noncomputable def vX13_tokenize_23 (j : Nat → rx_K) : rx_K := o_ld rx_isR 0 (o_ld rx_isI 1 (o_callV 1 13 FX13_byteAt (o_const 80 (o_c2 rx_eq (vX13_tokenize_43 j) (vX13_tokenize_33 j)))))
set_option maxRecDepth 20000 in
theorem wX13_tokenize_23 (hZ : zO b e D A X) (j : Nat → rx_K) (hj : ∀ k pc, [6, 10][k]? = some pc → rx_OK (zV b e D A X) mX13_tokenize 3 pc (j k)) : rx_OK (zV b e D A X) mX13_tokenize 3 23 (vX13_tokenize_23 j) := by
  unfold vX13_tokenize_23
  refine s_aload_n hZ.1 dX13_tokenize_23 rfl ?_
  refine s_iload_n hZ.1 dX13_tokenize_24 rfl ?_
  refine s_callV hZ.1 (Met_X13_byteAt hZ) (Nat.le_of_ble_eq_true rfl) vy_X13_byteAt zcl13 zw2940 zw178 (Or.inl zw2938) dX13_tokenize_25 ?_
  refine s_bipush dX13_tokenize_28 (by decide +kernel) ?_
  exact s_icmp_eq dX13_tokenize_30 (by decide) (wX13_tokenize_43 hZ j hj) (wX13_tokenize_33 hZ j hj)
noncomputable def vX13_tokenize_10 (j : Nat → rx_K) : rx_K := o_ld rx_isI 1 (o_ld rx_isR 0 (o_getf 13 6 (o_ld rx_isR 0 (o_getf 13 19 (o_ald 0 (o_c2 rx_lt (vX13_tokenize_23 j) (vX13_tokenize_49 j)))))))
set_option maxRecDepth 20000 in
theorem wX13_tokenize_10 (hZ : zO b e D A X) (j : Nat → rx_K) (hj : ∀ k pc, [6, 10][k]? = some pc → rx_OK (zV b e D A X) mX13_tokenize 3 pc (j k)) : rx_OK (zV b e D A X) mX13_tokenize 3 10 (vX13_tokenize_10 j) := by
  unfold vX13_tokenize_10
  refine s_iload_n hZ.1 dX13_tokenize_10 rfl ?_
  refine s_aload_n hZ.1 dX13_tokenize_11 rfl ?_
  refine yg13_6 dX13_tokenize_12 zw4127 ?_
  refine s_aload_n hZ.1 dX13_tokenize_15 rfl ?_
  refine yg13_19 dX13_tokenize_16 zw4140 ?_
  refine s_iald (tt := 0) rfl dX13_tokenize_19 ?_
  exact s_icmp_ge dX13_tokenize_20 (by decide) (wX13_tokenize_49 hZ j hj) (wX13_tokenize_23 hZ j hj)
noncomputable def vX13_tokenize_6 (j : Nat → rx_K) : rx_K := o_ld rx_isI 3 (o_c1 rx_eq (vX13_tokenize_172 j) (vX13_tokenize_10 j))
set_option maxRecDepth 20000 in
theorem wX13_tokenize_6 (hZ : zO b e D A X) (j : Nat → rx_K) (hj : ∀ k pc, [6, 10][k]? = some pc → rx_OK (zV b e D A X) mX13_tokenize 3 pc (j k)) : rx_OK (zV b e D A X) mX13_tokenize 3 6 (vX13_tokenize_6 j) := by
  unfold vX13_tokenize_6
  refine s_iload_n hZ.1 dX13_tokenize_6 rfl ?_
  exact s_if_eq dX13_tokenize_7 (by decide) (wX13_tokenize_172 hZ j hj) (wX13_tokenize_10 hZ j hj)
noncomputable def vX13_tokenize_0 (j : Nat → rx_K) : rx_K := o_const 0 (o_st rx_isI 1 (o_const 0 (o_st rx_isI 2 (o_const 8 (o_st rx_isI 3 ((vX13_tokenize_6 j)))))))
set_option maxRecDepth 20000 in
theorem wX13_tokenize_0 (hZ : zO b e D A X) (j : Nat → rx_K) (hj : ∀ k pc, [6, 10][k]? = some pc → rx_OK (zV b e D A X) mX13_tokenize 3 pc (j k)) : rx_OK (zV b e D A X) mX13_tokenize 3 0 (vX13_tokenize_0 j) := by
  unfold vX13_tokenize_0
  refine s_iconst dX13_tokenize_0 (by decide +kernel) ?_
  refine s_istore_n hZ.1 dX13_tokenize_1 rfl (Nat.le_of_ble_eq_true rfl) ?_
  refine s_iconst dX13_tokenize_2 (by decide +kernel) ?_
  refine s_istore_n hZ.1 dX13_tokenize_3 rfl (Nat.le_of_ble_eq_true rfl) ?_
  refine s_iconst dX13_tokenize_4 (by decide +kernel) ?_
  refine s_istore_n hZ.1 dX13_tokenize_5 rfl (Nat.le_of_ble_eq_true rfl) ?_
  exact (wX13_tokenize_6 hZ j hj)
noncomputable def vhX13_tokenize (j : Nat → rx_K) : List rx_K := [vX13_tokenize_6 j, vX13_tokenize_10 j]
theorem vlX13_tokenize (hZ : zO b e D A X) : ∀ n k pc, [6, 10][k]? = some pc → rx_OK (zV b e D A X) mX13_tokenize 3 pc (rx_J (vhX13_tokenize) n k) := rx_loop fun j hj k pc h => by
  match k, h with
  | 0, h =>
    have e9 := Option.some.inj (show some 6 = some pc from h)
    subst e9
    exact wX13_tokenize_6 hZ j hj
  | 1, h =>
    have e9 := Option.some.inj (show some 10 = some pc from h)
    subst e9
    exact wX13_tokenize_10 hZ j hj
  | _ + 2, h => exact absurd h (by simp)
noncomputable def FX13_tokenize : List Nat → rx_H → Option (Nat × rx_H) := rx_ent 6 (vX13_tokenize_0 (rx_J (vhX13_tokenize) 4000000000))
theorem Met_X13_tokenize (hZ : zO b e D A X) : rx_Met (zV b e D A X) 3 yX13_tokenize mX13_tokenize (FX13_tokenize) := rx_entry hZ.1 (wX13_tokenize_0 hZ _ (vlX13_tokenize hZ 4000000000)) (by decide +kernel) rfl (fun h => by cases h)
abbrev mX13_fault : rx_M := (RX13, cX13_fault, 3, none, false)
theorem vy_X13_fault : rx_Y (zV b e D A X) yX13_fault mX13_fault 2 := ⟨zw3005, zw431, by decide, by decide +kernel, by decide +kernel, by decide +kernel⟩
noncomputable def vX13_fault_17 : rx_K := o_ret0
set_option maxRecDepth 20000 in
theorem wX13_fault_17 (hZ : zO b e D A X) : rx_OK (zV b e D A X) mX13_fault 0 17 vX13_fault_17 := by
  unfold vX13_fault_17
  exact s_vret rfl dX13_fault_17
noncomputable def vX13_fault_7 : rx_K := o_ld rx_isR 0 (o_ld rx_isI 1 (o_putf rx_isI 13 20 (o_ld rx_isR 0 (o_ld rx_isI 2 (o_putf rx_isI 13 21 (vX13_fault_17))))))
set_option maxRecDepth 20000 in
theorem wX13_fault_7 (hZ : zO b e D A X) : rx_OK (zV b e D A X) mX13_fault 0 7 vX13_fault_7 := by
  unfold vX13_fault_7
  refine s_aload_n hZ.1 dX13_fault_7 rfl ?_
  refine s_iload_n hZ.1 dX13_fault_8 rfl ?_
  refine yp13_20 hZ.1 dX13_fault_9 zw4141 ?_
  refine s_aload_n hZ.1 dX13_fault_12 rfl ?_
  refine s_iload_n hZ.1 dX13_fault_13 rfl ?_
  refine yp13_21 hZ.1 dX13_fault_14 zw4142 ?_
  exact (wX13_fault_17 hZ)
noncomputable def vX13_fault_0 : rx_K := o_ld rx_isR 0 (o_getf 13 20 (o_c1 rx_eq vX13_fault_7 vX13_fault_17))
set_option maxRecDepth 20000 in
theorem wX13_fault_0 (hZ : zO b e D A X) : rx_OK (zV b e D A X) mX13_fault 0 0 vX13_fault_0 := by
  unfold vX13_fault_0
  refine s_aload_n hZ.1 dX13_fault_0 rfl ?_
  refine yg13_20 dX13_fault_1 zw4141 ?_
  exact s_if_ne dX13_fault_4 (by decide) (wX13_fault_17 hZ) (wX13_fault_7 hZ)
noncomputable def FX13_fault : List Nat → rx_H → Option (Nat × rx_H) := rx_ent 3 vX13_fault_0
theorem Met_X13_fault (hZ : zO b e D A X) : rx_Met (zV b e D A X) 0 yX13_fault mX13_fault (FX13_fault) := rx_entry hZ.1 (wX13_fault_0 hZ) (by decide +kernel) rfl (fun h => by cases h)
abbrev mX13_kindAt : rx_M := (RX13, cX13_kindAt, 2, (some .int), false)
theorem vy_X13_kindAt : rx_Y (zV b e D A X) yX13_kindAt mX13_kindAt 1 := ⟨zw2971, zw431, by decide, by decide +kernel, by decide +kernel, by decide +kernel⟩
noncomputable def vX13_kindAt_0 : rx_K := o_ld rx_isR 0 (o_getf 13 11 (o_ld rx_isR 0 (o_getf 13 19 (o_const 5616 (o_bi (fun x y => x * y) (o_ld rx_isI 1 (o_bi (fun x y => x + y) (o_ald 0 (o_ret1 rx_isI)))))))))
set_option maxRecDepth 20000 in
theorem wX13_kindAt_0 (hZ : zO b e D A X) : rx_OK (zV b e D A X) mX13_kindAt 0 0 vX13_kindAt_0 := by
  unfold vX13_kindAt_0
  refine s_aload_n hZ.1 dX13_kindAt_0 rfl ?_
  refine yg13_11 dX13_kindAt_1 zw4132 ?_
  refine s_aload_n hZ.1 dX13_kindAt_4 rfl ?_
  refine yg13_19 dX13_kindAt_5 zw4140 ?_
  refine s_sipush dX13_kindAt_8 (by decide +kernel) ?_
  refine s_imul dX13_kindAt_11 ?_
  refine s_iload_n hZ.1 dX13_kindAt_12 rfl ?_
  refine s_iadd dX13_kindAt_13 ?_
  refine s_iald (tt := 0) rfl dX13_kindAt_14 ?_
  exact s_iret hZ.1 rfl dX13_kindAt_15
noncomputable def FX13_kindAt : List Nat → rx_H → Option (Nat × rx_H) := rx_ent 2 vX13_kindAt_0
theorem Met_X13_kindAt (hZ : zO b e D A X) : rx_Met (zV b e D A X) 0 yX13_kindAt mX13_kindAt (FX13_kindAt) := rx_entry hZ.1 (wX13_kindAt_0 hZ) (by decide +kernel) rfl (fun h => by cases h)
abbrev mX13_placeAt : rx_M := (RX13, cX13_placeAt, 2, (some .int), false)
theorem vy_X13_placeAt : rx_Y (zV b e D A X) yX13_placeAt mX13_placeAt 1 := ⟨zw3001, zw431, by decide, by decide +kernel, by decide +kernel, by decide +kernel⟩
noncomputable def vX13_placeAt_0 : rx_K := o_ld rx_isR 0 (o_getf 13 12 (o_ld rx_isR 0 (o_getf 13 19 (o_const 5616 (o_bi (fun x y => x * y) (o_ld rx_isI 1 (o_bi (fun x y => x + y) (o_ald 0 (o_ret1 rx_isI)))))))))
set_option maxRecDepth 20000 in
theorem wX13_placeAt_0 (hZ : zO b e D A X) : rx_OK (zV b e D A X) mX13_placeAt 0 0 vX13_placeAt_0 := by
  unfold vX13_placeAt_0
  refine s_aload_n hZ.1 dX13_placeAt_0 rfl ?_
  refine yg13_12 dX13_placeAt_1 zw4133 ?_
  refine s_aload_n hZ.1 dX13_placeAt_4 rfl ?_
  refine yg13_19 dX13_placeAt_5 zw4140 ?_
  refine s_sipush dX13_placeAt_8 (by decide +kernel) ?_
  refine s_imul dX13_placeAt_11 ?_
  refine s_iload_n hZ.1 dX13_placeAt_12 rfl ?_
  refine s_iadd dX13_placeAt_13 ?_
  refine s_iald (tt := 0) rfl dX13_placeAt_14 ?_
  exact s_iret hZ.1 rfl dX13_placeAt_15
noncomputable def FX13_placeAt : List Nat → rx_H → Option (Nat × rx_H) := rx_ent 2 vX13_placeAt_0
theorem Met_X13_placeAt (hZ : zO b e D A X) : rx_Met (zV b e D A X) 0 yX13_placeAt mX13_placeAt (FX13_placeAt) := rx_entry hZ.1 (wX13_placeAt_0 hZ) (by decide +kernel) rfl (fun h => by cases h)
abbrev mX13_nameAt : rx_M := (RX13, cX13_nameAt, 2, (some .long), false)
theorem vy_X13_nameAt : rx_Y (zV b e D A X) yX13_nameAt mX13_nameAt 1 := ⟨zw2988, zw431, by decide, by decide +kernel, by decide +kernel, by decide +kernel⟩
noncomputable def vX13_nameAt_0 : rx_K := o_ld rx_isR 0 (o_getf 13 14 (o_ld rx_isR 0 (o_getf 13 19 (o_const 5616 (o_bi (fun x y => x * y) (o_ld rx_isI 1 (o_bi (fun x y => x + y) (o_ald 1 (o_ret1 rx_isL)))))))))
set_option maxRecDepth 20000 in
theorem wX13_nameAt_0 (hZ : zO b e D A X) : rx_OK (zV b e D A X) mX13_nameAt 0 0 vX13_nameAt_0 := by
  unfold vX13_nameAt_0
  refine s_aload_n hZ.1 dX13_nameAt_0 rfl ?_
  refine yg13_14 dX13_nameAt_1 zw4135 ?_
  refine s_aload_n hZ.1 dX13_nameAt_4 rfl ?_
  refine yg13_19 dX13_nameAt_5 zw4140 ?_
  refine s_sipush dX13_nameAt_8 (by decide +kernel) ?_
  refine s_imul dX13_nameAt_11 ?_
  refine s_iload_n hZ.1 dX13_nameAt_12 rfl ?_
  refine s_iadd dX13_nameAt_13 ?_
  refine s_lald (tt := 1) rfl dX13_nameAt_14 ?_
  exact s_lret rfl dX13_nameAt_15
noncomputable def FX13_nameAt : List Nat → rx_H → Option (Nat × rx_H) := rx_ent 2 vX13_nameAt_0
theorem Met_X13_nameAt (hZ : zO b e D A X) : rx_Met (zV b e D A X) 0 yX13_nameAt mX13_nameAt (FX13_nameAt) := rx_entry hZ.1 (wX13_nameAt_0 hZ) (by decide +kernel) rfl (fun h => by cases h)
abbrev mX13_isSign : rx_M := (RX13, cX13_isSign, 2, (some .boolean), false)
theorem vy_X13_isSign : rx_Y (zV b e D A X) yX13_isSign mX13_isSign 1 := ⟨zw3031, zw431, by decide, by decide +kernel, by decide +kernel, by decide +kernel⟩
noncomputable def vX13_isSign_39 : rx_K := o_ret1 rx_isZ
set_option maxRecDepth 20000 in
theorem wX13_isSign_39 (hZ : zO b e D A X) : rx_OK (zV b e D A X) mX13_isSign 1 39 vX13_isSign_39 := by
  unfold vX13_isSign_39
  exact s_zret rx_z_ok rfl dX13_isSign_39
noncomputable def vX13_isSign_38 : rx_K := o_const 0 (vX13_isSign_39)
set_option maxRecDepth 20000 in
theorem wX13_isSign_38 (hZ : zO b e D A X) : rx_OK (zV b e D A X) mX13_isSign 1 38 vX13_isSign_38 := by
  unfold vX13_isSign_38
  refine s_iconst dX13_isSign_38 (by decide +kernel) ?_
  exact (wX13_isSign_39 hZ)
noncomputable def vX13_isSign_34 : rx_K := o_const 8 (vX13_isSign_39)
set_option maxRecDepth 20000 in
theorem wX13_isSign_34 (hZ : zO b e D A X) : rx_OK (zV b e D A X) mX13_isSign 1 34 vX13_isSign_34 := by
  unfold vX13_isSign_34
  refine s_iconst dX13_isSign_34 (by decide +kernel) ?_
  exact s_goto dX13_isSign_35 (by decide) (wX13_isSign_39 hZ)
noncomputable def vX13_isSign_12 : rx_K := o_ld rx_isR 0 (o_getf 13 15 (o_ld rx_isR 0 (o_getf 13 19 (o_const 5616 (o_bi (fun x y => x * y) (o_ld rx_isR 0 (o_getf 13 22 (o_bi (fun x y => x + y) (o_ald 0 (o_ld rx_isI 1 (o_c2 rx_eq vX13_isSign_34 vX13_isSign_38)))))))))))
set_option maxRecDepth 20000 in
theorem wX13_isSign_12 (hZ : zO b e D A X) : rx_OK (zV b e D A X) mX13_isSign 1 12 vX13_isSign_12 := by
  unfold vX13_isSign_12
  refine s_aload_n hZ.1 dX13_isSign_12 rfl ?_
  refine yg13_15 dX13_isSign_13 zw4136 ?_
  refine s_aload_n hZ.1 dX13_isSign_16 rfl ?_
  refine yg13_19 dX13_isSign_17 zw4140 ?_
  refine s_sipush dX13_isSign_20 (by decide +kernel) ?_
  refine s_imul dX13_isSign_23 ?_
  refine s_aload_n hZ.1 dX13_isSign_24 rfl ?_
  refine yg13_22 dX13_isSign_25 zw4143 ?_
  refine s_iadd dX13_isSign_28 ?_
  refine s_iald (tt := 0) rfl dX13_isSign_29 ?_
  refine s_iload_n hZ.1 dX13_isSign_30 rfl ?_
  exact s_icmp_ne dX13_isSign_31 (by decide) (wX13_isSign_38 hZ) (wX13_isSign_34 hZ)
noncomputable def vX13_isSign_0 : rx_K := o_ld rx_isR 0 (o_ld rx_isR 0 (o_getf 13 22 (o_callV 1 13 FX13_kindAt (o_const 40 (o_c2 rx_eq vX13_isSign_12 vX13_isSign_38)))))
set_option maxRecDepth 20000 in
theorem wX13_isSign_0 (hZ : zO b e D A X) : rx_OK (zV b e D A X) mX13_isSign 1 0 vX13_isSign_0 := by
  unfold vX13_isSign_0
  refine s_aload_n hZ.1 dX13_isSign_0 rfl ?_
  refine s_aload_n hZ.1 dX13_isSign_1 rfl ?_
  refine yg13_22 dX13_isSign_2 zw4143 ?_
  refine s_callV hZ.1 (Met_X13_kindAt hZ) (Nat.le_of_ble_eq_true rfl) vy_X13_kindAt zcl13 zw2970 zw183 (Or.inl zw2968) dX13_isSign_5 ?_
  refine s_iconst dX13_isSign_8 (by decide +kernel) ?_
  exact s_icmp_ne dX13_isSign_9 (by decide) (wX13_isSign_38 hZ) (wX13_isSign_12 hZ)
noncomputable def FX13_isSign : List Nat → rx_H → Option (Nat × rx_H) := rx_ent 2 vX13_isSign_0
theorem Met_X13_isSign (hZ : zO b e D A X) : rx_Met (zV b e D A X) 1 yX13_isSign mX13_isSign (FX13_isSign) := rx_entry hZ.1 (wX13_isSign_0 hZ) (by decide +kernel) rfl (fun h => by cases h)
abbrev mX13_isSignNext : rx_M := (RX13, cX13_isSignNext, 2, (some .boolean), false)
theorem vy_X13_isSignNext : rx_Y (zV b e D A X) yX13_isSignNext mX13_isSignNext 1 := ⟨zw3151, zw431, by decide, by decide +kernel, by decide +kernel, by decide +kernel⟩
noncomputable def vX13_isSignNext_77 : rx_K := o_ret1 rx_isZ
set_option maxRecDepth 20000 in
theorem wX13_isSignNext_77 (hZ : zO b e D A X) : rx_OK (zV b e D A X) mX13_isSignNext 1 77 vX13_isSignNext_77 := by
  unfold vX13_isSignNext_77
  exact s_zret rx_z_ok rfl dX13_isSignNext_77
noncomputable def vX13_isSignNext_76 : rx_K := o_const 0 (vX13_isSignNext_77)
set_option maxRecDepth 20000 in
theorem wX13_isSignNext_76 (hZ : zO b e D A X) : rx_OK (zV b e D A X) mX13_isSignNext 1 76 vX13_isSignNext_76 := by
  unfold vX13_isSignNext_76
  refine s_iconst dX13_isSignNext_76 (by decide +kernel) ?_
  exact (wX13_isSignNext_77 hZ)
noncomputable def vX13_isSignNext_72 : rx_K := o_const 8 (vX13_isSignNext_77)
set_option maxRecDepth 20000 in
theorem wX13_isSignNext_72 (hZ : zO b e D A X) : rx_OK (zV b e D A X) mX13_isSignNext 1 72 vX13_isSignNext_72 := by
  unfold vX13_isSignNext_72
  refine s_iconst dX13_isSignNext_72 (by decide +kernel) ?_
  exact s_goto dX13_isSignNext_73 (by decide) (wX13_isSignNext_77 hZ)
noncomputable def vX13_isSignNext_48 : rx_K := o_ld rx_isR 0 (o_getf 13 15 (o_ld rx_isR 0 (o_getf 13 19 (o_const 5616 (o_bi (fun x y => x * y) (o_ld rx_isR 0 (o_getf 13 22 (o_bi (fun x y => x + y) (o_const 8 (o_bi (fun x y => x + y) (o_ald 0 (o_ld rx_isI 1 (o_c2 rx_eq vX13_isSignNext_72 vX13_isSignNext_76)))))))))))))
set_option maxRecDepth 20000 in
theorem wX13_isSignNext_48 (hZ : zO b e D A X) : rx_OK (zV b e D A X) mX13_isSignNext 1 48 vX13_isSignNext_48 := by
  unfold vX13_isSignNext_48
  refine s_aload_n hZ.1 dX13_isSignNext_48 rfl ?_
  refine yg13_15 dX13_isSignNext_49 zw4136 ?_
  refine s_aload_n hZ.1 dX13_isSignNext_52 rfl ?_
  refine yg13_19 dX13_isSignNext_53 zw4140 ?_
  refine s_sipush dX13_isSignNext_56 (by decide +kernel) ?_
  refine s_imul dX13_isSignNext_59 ?_
  refine s_aload_n hZ.1 dX13_isSignNext_60 rfl ?_
  refine yg13_22 dX13_isSignNext_61 zw4143 ?_
  refine s_iadd dX13_isSignNext_64 ?_
  refine s_iconst dX13_isSignNext_65 (by decide +kernel) ?_
  refine s_iadd dX13_isSignNext_66 ?_
  refine s_iald (tt := 0) rfl dX13_isSignNext_67 ?_
  refine s_iload_n hZ.1 dX13_isSignNext_68 rfl ?_
  exact s_icmp_ne dX13_isSignNext_69 (by decide) (wX13_isSignNext_76 hZ) (wX13_isSignNext_72 hZ)
noncomputable def vX13_isSignNext_34 : rx_K := o_ld rx_isR 0 (o_ld rx_isR 0 (o_getf 13 22 (o_const 8 (o_bi (fun x y => x + y) (o_callV 1 13 FX13_kindAt (o_const 40 (o_c2 rx_eq vX13_isSignNext_48 vX13_isSignNext_76)))))))
set_option maxRecDepth 20000 in
theorem wX13_isSignNext_34 (hZ : zO b e D A X) : rx_OK (zV b e D A X) mX13_isSignNext 1 34 vX13_isSignNext_34 := by
  unfold vX13_isSignNext_34
  refine s_aload_n hZ.1 dX13_isSignNext_34 rfl ?_
  refine s_aload_n hZ.1 dX13_isSignNext_35 rfl ?_
  refine yg13_22 dX13_isSignNext_36 zw4143 ?_
  refine s_iconst dX13_isSignNext_39 (by decide +kernel) ?_
  refine s_iadd dX13_isSignNext_40 ?_
  refine s_callV hZ.1 (Met_X13_kindAt hZ) (Nat.le_of_ble_eq_true rfl) vy_X13_kindAt zcl13 zw2970 zw183 (Or.inl zw2968) dX13_isSignNext_41 ?_
  refine s_iconst dX13_isSignNext_44 (by decide +kernel) ?_
  exact s_icmp_ne dX13_isSignNext_45 (by decide) (wX13_isSignNext_76 hZ) (wX13_isSignNext_48 hZ)
noncomputable def vX13_isSignNext_24 : rx_K := o_ld rx_isR 0 (o_getf 13 22 (o_const 5600 (o_c2 rx_lt vX13_isSignNext_34 vX13_isSignNext_76)))
set_option maxRecDepth 20000 in
theorem wX13_isSignNext_24 (hZ : zO b e D A X) : rx_OK (zV b e D A X) mX13_isSignNext 1 24 vX13_isSignNext_24 := by
  unfold vX13_isSignNext_24
  refine s_aload_n hZ.1 dX13_isSignNext_24 rfl ?_
  refine yg13_22 dX13_isSignNext_25 zw4143 ?_
  refine s_sipush dX13_isSignNext_28 (by decide +kernel) ?_
  exact s_icmp_ge dX13_isSignNext_31 (by decide) (wX13_isSignNext_76 hZ) (wX13_isSignNext_34 hZ)
noncomputable def vX13_isSignNext_11 : rx_K := o_ld rx_isR 0 (o_ld rx_isR 0 (o_getf 13 22 (o_callV 1 13 FX13_kindAt (o_const 48 (o_c2 rx_eq vX13_isSignNext_76 vX13_isSignNext_24)))))
set_option maxRecDepth 20000 in
theorem wX13_isSignNext_11 (hZ : zO b e D A X) : rx_OK (zV b e D A X) mX13_isSignNext 1 11 vX13_isSignNext_11 := by
  unfold vX13_isSignNext_11
  refine s_aload_n hZ.1 dX13_isSignNext_11 rfl ?_
  refine s_aload_n hZ.1 dX13_isSignNext_12 rfl ?_
  refine yg13_22 dX13_isSignNext_13 zw4143 ?_
  refine s_callV hZ.1 (Met_X13_kindAt hZ) (Nat.le_of_ble_eq_true rfl) vy_X13_kindAt zcl13 zw2970 zw183 (Or.inl zw2968) dX13_isSignNext_16 ?_
  refine s_bipush dX13_isSignNext_19 (by decide +kernel) ?_
  exact s_icmp_eq dX13_isSignNext_21 (by decide) (wX13_isSignNext_76 hZ) (wX13_isSignNext_24 hZ)
noncomputable def vX13_isSignNext_0 : rx_K := o_ld rx_isR 0 (o_ld rx_isR 0 (o_getf 13 22 (o_callV 1 13 FX13_kindAt (o_c1 rx_eq vX13_isSignNext_76 vX13_isSignNext_11))))
set_option maxRecDepth 20000 in
theorem wX13_isSignNext_0 (hZ : zO b e D A X) : rx_OK (zV b e D A X) mX13_isSignNext 1 0 vX13_isSignNext_0 := by
  unfold vX13_isSignNext_0
  refine s_aload_n hZ.1 dX13_isSignNext_0 rfl ?_
  refine s_aload_n hZ.1 dX13_isSignNext_1 rfl ?_
  refine yg13_22 dX13_isSignNext_2 zw4143 ?_
  refine s_callV hZ.1 (Met_X13_kindAt hZ) (Nat.le_of_ble_eq_true rfl) vy_X13_kindAt zcl13 zw2970 zw183 (Or.inl zw2968) dX13_isSignNext_5 ?_
  exact s_if_eq dX13_isSignNext_8 (by decide) (wX13_isSignNext_76 hZ) (wX13_isSignNext_11 hZ)
noncomputable def FX13_isSignNext : List Nat → rx_H → Option (Nat × rx_H) := rx_ent 2 vX13_isSignNext_0
theorem Met_X13_isSignNext (hZ : zO b e D A X) : rx_Met (zV b e D A X) 1 yX13_isSignNext mX13_isSignNext (FX13_isSignNext) := rx_entry hZ.1 (wX13_isSignNext_0 hZ) (by decide +kernel) rfl (fun h => by cases h)
abbrev mX13_isWordAt : rx_M := (RX13, cX13_isWordAt, 2, (some .boolean), false)
theorem vy_X13_isWordAt : rx_Y (zV b e D A X) yX13_isWordAt mX13_isWordAt 1 := ⟨zw2984, zw431, by decide, by decide +kernel, by decide +kernel, by decide +kernel⟩
noncomputable def vX13_isWordAt_33 : rx_K := o_ret1 rx_isZ
set_option maxRecDepth 20000 in
theorem wX13_isWordAt_33 (hZ : zO b e D A X) : rx_OK (zV b e D A X) mX13_isWordAt 5 33 vX13_isWordAt_33 := by
  unfold vX13_isWordAt_33
  exact s_zret rx_z_ok rfl dX13_isWordAt_33
noncomputable def vX13_isWordAt_32 : rx_K := o_const 0 (vX13_isWordAt_33)
set_option maxRecDepth 20000 in
theorem wX13_isWordAt_32 (hZ : zO b e D A X) : rx_OK (zV b e D A X) mX13_isWordAt 5 32 vX13_isWordAt_32 := by
  unfold vX13_isWordAt_32
  refine s_iconst dX13_isWordAt_32 (by decide +kernel) ?_
  exact (wX13_isWordAt_33 hZ)
noncomputable def vX13_isWordAt_28 : rx_K := o_const 8 (vX13_isWordAt_33)
set_option maxRecDepth 20000 in
theorem wX13_isWordAt_28 (hZ : zO b e D A X) : rx_OK (zV b e D A X) mX13_isWordAt 5 28 vX13_isWordAt_28 := by
  unfold vX13_isWordAt_28
  refine s_iconst dX13_isWordAt_28 (by decide +kernel) ?_
  exact s_goto dX13_isWordAt_29 (by decide) (wX13_isWordAt_33 hZ)
noncomputable def vX13_isWordAt_12 : rx_K := o_ld rx_isR 0 (o_ld rx_isR 0 (o_getf 13 22 (o_callV 1 13 FX13_nameAt (o_ld rx_isR 1 (o_callS 1 FX13_nameOf (o_bc (fun x y => lg_cmp x y) (o_c1 rx_eq vX13_isWordAt_28 vX13_isWordAt_32)))))))
set_option maxRecDepth 20000 in
theorem wX13_isWordAt_12 (hZ : zO b e D A X) : rx_OK (zV b e D A X) mX13_isWordAt 5 12 vX13_isWordAt_12 := by
  unfold vX13_isWordAt_12
  refine s_aload_n hZ.1 dX13_isWordAt_12 rfl ?_
  refine s_aload_n hZ.1 dX13_isWordAt_13 rfl ?_
  refine yg13_22 dX13_isWordAt_14 zw4143 ?_
  refine s_callV hZ.1 (Met_X13_nameAt hZ) (Nat.le_of_ble_eq_true rfl) vy_X13_nameAt zcl13 zw2987 zw187 (Or.inl zw2985) dX13_isWordAt_17 ?_
  refine s_aload_n hZ.1 dX13_isWordAt_20 rfl ?_
  refine s_callS hZ.1 (Met_X13_nameOf hZ) (Nat.le_of_ble_eq_true rfl) vy_X13_nameOf zw2990 (Or.inl zw2989) dX13_isWordAt_21 ?_
  refine s_lcmp dX13_isWordAt_24 ?_
  exact s_if_ne dX13_isWordAt_25 (by decide) (wX13_isWordAt_32 hZ) (wX13_isWordAt_28 hZ)
noncomputable def vX13_isWordAt_0 : rx_K := o_ld rx_isR 0 (o_ld rx_isR 0 (o_getf 13 22 (o_callV 1 13 FX13_kindAt (o_const 24 (o_c2 rx_eq vX13_isWordAt_12 vX13_isWordAt_32)))))
set_option maxRecDepth 20000 in
theorem wX13_isWordAt_0 (hZ : zO b e D A X) : rx_OK (zV b e D A X) mX13_isWordAt 5 0 vX13_isWordAt_0 := by
  unfold vX13_isWordAt_0
  refine s_aload_n hZ.1 dX13_isWordAt_0 rfl ?_
  refine s_aload_n hZ.1 dX13_isWordAt_1 rfl ?_
  refine yg13_22 dX13_isWordAt_2 zw4143 ?_
  refine s_callV hZ.1 (Met_X13_kindAt hZ) (Nat.le_of_ble_eq_true rfl) vy_X13_kindAt zcl13 zw2970 zw183 (Or.inl zw2968) dX13_isWordAt_5 ?_
  refine s_iconst dX13_isWordAt_8 (by decide +kernel) ?_
  exact s_icmp_ne dX13_isWordAt_9 (by decide) (wX13_isWordAt_32 hZ) (wX13_isWordAt_12 hZ)
noncomputable def FX13_isWordAt : List Nat → rx_H → Option (Nat × rx_H) := rx_ent 2 vX13_isWordAt_0
theorem Met_X13_isWordAt (hZ : zO b e D A X) : rx_Met (zV b e D A X) 5 yX13_isWordAt mX13_isWordAt (FX13_isWordAt) := rx_entry hZ.1 (wX13_isWordAt_0 hZ) (by decide +kernel) rfl (fun h => by cases h)
abbrev mX13_wrong : rx_M := (RX13, cX13_wrong, 1, none, false)
theorem vy_X13_wrong : rx_Y (zV b e D A X) yX13_wrong mX13_wrong 0 := ⟨zw3017, zw431, by decide, by decide +kernel, by decide +kernel, by decide +kernel⟩
noncomputable def vX13_wrong_19 : rx_K := o_ld rx_isR 0 (o_ld rx_isR 0 (o_getf 13 22 (o_callV 1 13 FX13_placeAt (o_callV 2 13 FX13_fault (o_ret0)))))
set_option maxRecDepth 20000 in
theorem wX13_wrong_19 (hZ : zO b e D A X) : rx_OK (zV b e D A X) mX13_wrong 1 19 vX13_wrong_19 := by
  unfold vX13_wrong_19
  refine s_aload_n hZ.1 dX13_wrong_19 rfl ?_
  refine s_aload_n hZ.1 dX13_wrong_20 rfl ?_
  refine yg13_22 dX13_wrong_21 zw4143 ?_
  refine s_callV hZ.1 (Met_X13_placeAt hZ) (Nat.le_of_ble_eq_true rfl) vy_X13_placeAt zcl13 zw3000 zw189 (Or.inl zw2998) dX13_wrong_24 ?_
  refine s_callV hZ.1 (Met_X13_fault hZ) (Nat.le_of_ble_eq_true rfl) vy_X13_fault zcl13 zw3004 zw190 (Or.inl zw3002) dX13_wrong_27 ?_
  exact s_vret rfl dX13_wrong_30
noncomputable def vX13_wrong_18 : rx_K := o_const 16 (vX13_wrong_19)
set_option maxRecDepth 20000 in
theorem wX13_wrong_18 (hZ : zO b e D A X) : rx_OK (zV b e D A X) mX13_wrong 1 18 vX13_wrong_18 := by
  unfold vX13_wrong_18
  refine s_iconst dX13_wrong_18 (by decide +kernel) ?_
  exact (wX13_wrong_19 hZ)
noncomputable def vX13_wrong_14 : rx_K := o_const 8 (vX13_wrong_19)
set_option maxRecDepth 20000 in
theorem wX13_wrong_14 (hZ : zO b e D A X) : rx_OK (zV b e D A X) mX13_wrong 1 14 vX13_wrong_14 := by
  unfold vX13_wrong_14
  refine s_iconst dX13_wrong_14 (by decide +kernel) ?_
  exact s_goto dX13_wrong_15 (by decide) (wX13_wrong_19 hZ)
noncomputable def vX13_wrong_0 : rx_K := o_ld rx_isR 0 (o_ld rx_isR 0 (o_ld rx_isR 0 (o_getf 13 22 (o_callV 1 13 FX13_kindAt (o_const 48 (o_c2 rx_eq vX13_wrong_14 vX13_wrong_18))))))
set_option maxRecDepth 20000 in
theorem wX13_wrong_0 (hZ : zO b e D A X) : rx_OK (zV b e D A X) mX13_wrong 1 0 vX13_wrong_0 := by
  unfold vX13_wrong_0
  refine s_aload_n hZ.1 dX13_wrong_0 rfl ?_
  refine s_aload_n hZ.1 dX13_wrong_1 rfl ?_
  refine s_aload_n hZ.1 dX13_wrong_2 rfl ?_
  refine yg13_22 dX13_wrong_3 zw4143 ?_
  refine s_callV hZ.1 (Met_X13_kindAt hZ) (Nat.le_of_ble_eq_true rfl) vy_X13_kindAt zcl13 zw2970 zw183 (Or.inl zw2968) dX13_wrong_6 ?_
  refine s_bipush dX13_wrong_9 (by decide +kernel) ?_
  exact s_icmp_ne dX13_wrong_11 (by decide) (wX13_wrong_18 hZ) (wX13_wrong_14 hZ)
noncomputable def FX13_wrong : List Nat → rx_H → Option (Nat × rx_H) := rx_ent 1 vX13_wrong_0
theorem Met_X13_wrong (hZ : zO b e D A X) : rx_Met (zV b e D A X) 1 yX13_wrong mX13_wrong (FX13_wrong) := rx_entry hZ.1 (wX13_wrong_0 hZ) (by decide +kernel) rfl (fun h => by cases h)
abbrev mX13_step : rx_M := (RX13, cX13_step, 1, none, false)
theorem vy_X13_step : rx_Y (zV b e D A X) yX13_step mX13_step 0 := ⟨zw2997, zw431, by decide, by decide +kernel, by decide +kernel, by decide +kernel⟩
noncomputable def vX13_step_51 : rx_K := o_ret0
set_option maxRecDepth 20000 in
theorem wX13_step_51 (hZ : zO b e D A X) : rx_OK (zV b e D A X) mX13_step 1 51 vX13_step_51 := by
  unfold vX13_step_51
  exact s_vret rfl dX13_step_51
noncomputable def vX13_step_41 : rx_K := o_ld rx_isR 0 (o_dup (o_getf 13 22 (o_const 8 (o_bi (fun x y => x + y) (o_putf rx_isI 13 22 (vX13_step_51))))))
set_option maxRecDepth 20000 in
theorem wX13_step_41 (hZ : zO b e D A X) : rx_OK (zV b e D A X) mX13_step 1 41 vX13_step_41 := by
  unfold vX13_step_41
  refine s_aload_n hZ.1 dX13_step_41 rfl ?_
  refine s_dup hZ.1 dX13_step_42 ?_
  refine yg13_22 dX13_step_43 zw4143 ?_
  refine s_iconst dX13_step_46 (by decide +kernel) ?_
  refine s_iadd dX13_step_47 ?_
  refine yp13_22 hZ.1 dX13_step_48 zw4143 ?_
  exact (wX13_step_51 hZ)
noncomputable def vX13_step_34 : rx_K := o_ld rx_isR 0 (o_getf 13 20 (o_c1 rx_eq vX13_step_41 vX13_step_51))
set_option maxRecDepth 20000 in
theorem wX13_step_34 (hZ : zO b e D A X) : rx_OK (zV b e D A X) mX13_step 1 34 vX13_step_34 := by
  unfold vX13_step_34
  refine s_aload_n hZ.1 dX13_step_34 rfl ?_
  refine yg13_20 dX13_step_35 zw4141 ?_
  exact s_if_ne dX13_step_38 (by decide) (wX13_step_51 hZ) (wX13_step_41 hZ)
noncomputable def vX13_step_21 : rx_K := o_ld rx_isR 0 (o_const 24 (o_ld rx_isR 0 (o_ld rx_isR 0 (o_getf 13 22 (o_callV 1 13 FX13_placeAt (o_callV 2 13 FX13_fault (vX13_step_34)))))))
set_option maxRecDepth 20000 in
theorem wX13_step_21 (hZ : zO b e D A X) : rx_OK (zV b e D A X) mX13_step 1 21 vX13_step_21 := by
  unfold vX13_step_21
  refine s_aload_n hZ.1 dX13_step_21 rfl ?_
  refine s_iconst dX13_step_22 (by decide +kernel) ?_
  refine s_aload_n hZ.1 dX13_step_23 rfl ?_
  refine s_aload_n hZ.1 dX13_step_24 rfl ?_
  refine yg13_22 dX13_step_25 zw4143 ?_
  refine s_callV hZ.1 (Met_X13_placeAt hZ) (Nat.le_of_ble_eq_true rfl) vy_X13_placeAt zcl13 zw3000 zw189 (Or.inl zw2998) dX13_step_28 ?_
  refine s_callV hZ.1 (Met_X13_fault hZ) (Nat.le_of_ble_eq_true rfl) vy_X13_fault zcl13 zw3004 zw190 (Or.inl zw3002) dX13_step_31 ?_
  exact (wX13_step_34 hZ)
noncomputable def vX13_step_10 : rx_K := o_ld rx_isR 0 (o_ld rx_isR 0 (o_getf 13 22 (o_callV 1 13 FX13_kindAt (o_c1 rx_eq vX13_step_34 vX13_step_21))))
set_option maxRecDepth 20000 in
theorem wX13_step_10 (hZ : zO b e D A X) : rx_OK (zV b e D A X) mX13_step 1 10 vX13_step_10 := by
  unfold vX13_step_10
  refine s_aload_n hZ.1 dX13_step_10 rfl ?_
  refine s_aload_n hZ.1 dX13_step_11 rfl ?_
  refine yg13_22 dX13_step_12 zw4143 ?_
  refine s_callV hZ.1 (Met_X13_kindAt hZ) (Nat.le_of_ble_eq_true rfl) vy_X13_kindAt zcl13 zw2970 zw183 (Or.inl zw2968) dX13_step_15 ?_
  exact s_if_eq dX13_step_18 (by decide) (wX13_step_34 hZ) (wX13_step_21 hZ)
noncomputable def vX13_step_0 : rx_K := o_ld rx_isR 0 (o_getf 13 22 (o_const 5600 (o_c2 rx_eq vX13_step_10 vX13_step_34)))
set_option maxRecDepth 20000 in
theorem wX13_step_0 (hZ : zO b e D A X) : rx_OK (zV b e D A X) mX13_step 1 0 vX13_step_0 := by
  unfold vX13_step_0
  refine s_aload_n hZ.1 dX13_step_0 rfl ?_
  refine yg13_22 dX13_step_1 zw4143 ?_
  refine s_sipush dX13_step_4 (by decide +kernel) ?_
  exact s_icmp_ne dX13_step_7 (by decide) (wX13_step_34 hZ) (wX13_step_10 hZ)
noncomputable def FX13_step : List Nat → rx_H → Option (Nat × rx_H) := rx_ent 1 vX13_step_0
theorem Met_X13_step (hZ : zO b e D A X) : rx_Met (zV b e D A X) 1 yX13_step mX13_step (FX13_step) := rx_entry hZ.1 (wX13_step_0 hZ) (by decide +kernel) rfl (fun h => by cases h)
abbrev mX13_wantSign : rx_M := (RX13, cX13_wantSign, 2, none, false)
theorem vy_X13_wantSign : rx_Y (zV b e D A X) yX13_wantSign mX13_wantSign 1 := ⟨zw3038, zw431, by decide, by decide +kernel, by decide +kernel, by decide +kernel⟩
noncomputable def vX13_wantSign_33 : rx_K := o_ret0
set_option maxRecDepth 20000 in
theorem wX13_wantSign_33 (hZ : zO b e D A X) : rx_OK (zV b e D A X) mX13_wantSign 2 33 vX13_wantSign_33 := by
  unfold vX13_wantSign_33
  exact s_vret rfl dX13_wantSign_33
noncomputable def vX13_wantSign_29 : rx_K := o_ld rx_isR 0 (o_callV 0 13 FX13_wrong (vX13_wantSign_33))
set_option maxRecDepth 20000 in
theorem wX13_wantSign_29 (hZ : zO b e D A X) : rx_OK (zV b e D A X) mX13_wantSign 2 29 vX13_wantSign_29 := by
  unfold vX13_wantSign_29
  refine s_aload_n hZ.1 dX13_wantSign_29 rfl ?_
  refine s_callV hZ.1 (Met_X13_wrong hZ) (Nat.le_of_ble_eq_true rfl) vy_X13_wrong zcl13 zw3016 zw192 (Or.inl zw3014) dX13_wantSign_30 ?_
  exact (wX13_wantSign_33 hZ)
noncomputable def vX13_wantSign_22 : rx_K := o_ld rx_isR 0 (o_getf 13 20 (o_c1 rx_eq vX13_wantSign_29 vX13_wantSign_33))
set_option maxRecDepth 20000 in
theorem wX13_wantSign_22 (hZ : zO b e D A X) : rx_OK (zV b e D A X) mX13_wantSign 2 22 vX13_wantSign_22 := by
  unfold vX13_wantSign_22
  refine s_aload_n hZ.1 dX13_wantSign_22 rfl ?_
  refine yg13_20 dX13_wantSign_23 zw4141 ?_
  exact s_if_ne dX13_wantSign_26 (by decide) (wX13_wantSign_33 hZ) (wX13_wantSign_29 hZ)
noncomputable def vX13_wantSign_15 : rx_K := o_ld rx_isR 0 (o_callV 0 13 FX13_step (vX13_wantSign_33))
set_option maxRecDepth 20000 in
theorem wX13_wantSign_15 (hZ : zO b e D A X) : rx_OK (zV b e D A X) mX13_wantSign 2 15 vX13_wantSign_15 := by
  unfold vX13_wantSign_15
  refine s_aload_n hZ.1 dX13_wantSign_15 rfl ?_
  refine s_callV hZ.1 (Met_X13_step hZ) (Nat.le_of_ble_eq_true rfl) vy_X13_step zcl13 zw2996 zw188 (Or.inl zw2994) dX13_wantSign_16 ?_
  exact s_goto dX13_wantSign_19 (by decide) (wX13_wantSign_33 hZ)
noncomputable def vX13_wantSign_7 : rx_K := o_ld rx_isR 0 (o_ld rx_isI 1 (o_callV 1 13 FX13_isSign (o_c1 rx_eq vX13_wantSign_22 vX13_wantSign_15)))
set_option maxRecDepth 20000 in
theorem wX13_wantSign_7 (hZ : zO b e D A X) : rx_OK (zV b e D A X) mX13_wantSign 2 7 vX13_wantSign_7 := by
  unfold vX13_wantSign_7
  refine s_aload_n hZ.1 dX13_wantSign_7 rfl ?_
  refine s_iload_n hZ.1 dX13_wantSign_8 rfl ?_
  refine s_callV hZ.1 (Met_X13_isSign hZ) (Nat.le_of_ble_eq_true rfl) vy_X13_isSign zcl13 zw3030 zw195 (Or.inl zw3028) dX13_wantSign_9 ?_
  exact s_if_eq dX13_wantSign_12 (by decide) (wX13_wantSign_22 hZ) (wX13_wantSign_15 hZ)
noncomputable def vX13_wantSign_0 : rx_K := o_ld rx_isR 0 (o_getf 13 20 (o_c1 rx_eq vX13_wantSign_7 vX13_wantSign_22))
set_option maxRecDepth 20000 in
theorem wX13_wantSign_0 (hZ : zO b e D A X) : rx_OK (zV b e D A X) mX13_wantSign 2 0 vX13_wantSign_0 := by
  unfold vX13_wantSign_0
  refine s_aload_n hZ.1 dX13_wantSign_0 rfl ?_
  refine yg13_20 dX13_wantSign_1 zw4141 ?_
  exact s_if_ne dX13_wantSign_4 (by decide) (wX13_wantSign_22 hZ) (wX13_wantSign_7 hZ)
noncomputable def FX13_wantSign : List Nat → rx_H → Option (Nat × rx_H) := rx_ent 2 vX13_wantSign_0
theorem Met_X13_wantSign (hZ : zO b e D A X) : rx_Met (zV b e D A X) 2 yX13_wantSign mX13_wantSign (FX13_wantSign) := rx_entry hZ.1 (wX13_wantSign_0 hZ) (by decide +kernel) rfl (fun h => by cases h)
end ZM38

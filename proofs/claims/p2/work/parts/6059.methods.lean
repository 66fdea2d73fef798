section ZM59
variable {b : Nat} {e : Nat → Value} {D : va_G} {A : Nat → ClassId} {X : State → Prop}
abbrev mX13_outParams : rx_M := (RX13, cX13_outParams, 3, none, false)
theorem vy_X13_outParams : rx_Y (zV b e D A X) yX13_outParams mX13_outParams 1 := ⟨zw3684, zw431, by decide, by decide +kernel, by decide +kernel, by decide +kernel⟩
noncomputable def vX13_outParams_48 (j : Nat → rx_K) : rx_K := o_ld rx_isR 0 (o_const 328 (o_callV 1 13 FX13_outByte (o_ret0)))
set_option maxRecDepth 20000 in
theorem wX13_outParams_48 (hZ : zO b e D A X) (j : Nat → rx_K) (hj : ∀ k pc, [8][k]? = some pc → rx_OK (zV b e D A X) mX13_outParams 6 pc (j k)) : rx_OK (zV b e D A X) mX13_outParams 6 48 (vX13_outParams_48 j) := by
  unfold vX13_outParams_48
  refine s_aload_n hZ.1 dX13_outParams_48 rfl ?_
  refine s_bipush dX13_outParams_49 (by decide +kernel) ?_
  refine s_callV hZ.1 (Met_X13_outByte hZ) (Nat.le_of_ble_eq_true rfl) vy_X13_outByte zcl13 zw3648 zw327 (Or.inl zw3646) dX13_outParams_51 ?_
  exact s_vret rfl dX13_outParams_54
noncomputable def vX13_outParams_28 (j : Nat → rx_K) : rx_K := o_ld rx_isR 0 (o_ld rx_isR 0 (o_getf 13 56 (o_const 32 (o_ld rx_isI 1 (o_bi (fun x y => x * y) (o_ld rx_isI 2 (o_bi (fun x y => x + y) (o_ald 1 (o_callV 1 13 FX13_outType (o_inc 2 (1) ((j 0))))))))))))
set_option maxRecDepth 20000 in
theorem wX13_outParams_28 (hZ : zO b e D A X) (j : Nat → rx_K) (hj : ∀ k pc, [8][k]? = some pc → rx_OK (zV b e D A X) mX13_outParams 6 pc (j k)) : rx_OK (zV b e D A X) mX13_outParams 6 28 (vX13_outParams_28 j) := by
  unfold vX13_outParams_28
  refine s_aload_n hZ.1 dX13_outParams_28 rfl ?_
  refine s_aload_n hZ.1 dX13_outParams_29 rfl ?_
  refine yg13_56 dX13_outParams_30 zw4177 ?_
  refine s_iconst dX13_outParams_33 (by decide +kernel) ?_
  refine s_iload_n hZ.1 dX13_outParams_34 rfl ?_
  refine s_imul dX13_outParams_35 ?_
  refine s_iload_n hZ.1 dX13_outParams_36 rfl ?_
  refine s_iadd dX13_outParams_37 ?_
  refine s_lald (tt := 1) rfl dX13_outParams_38 ?_
  refine s_callV hZ.1 (Met_X13_outType hZ) (Nat.le_of_ble_eq_true rfl) vy_X13_outType zcl13 zw3679 zw330 (Or.inl zw3677) dX13_outParams_39 ?_
  refine s_iinc hZ.1 dX13_outParams_42 (Nat.le_of_ble_eq_true rfl) ?_
  exact s_goto dX13_outParams_45 (by decide) (hj 0 8 rfl)
noncomputable def vX13_outParams_22 (j : Nat → rx_K) : rx_K := o_ld rx_isR 0 (o_const 352 (o_callV 1 13 FX13_outByte ((vX13_outParams_28 j))))
set_option maxRecDepth 20000 in
theorem wX13_outParams_22 (hZ : zO b e D A X) (j : Nat → rx_K) (hj : ∀ k pc, [8][k]? = some pc → rx_OK (zV b e D A X) mX13_outParams 6 pc (j k)) : rx_OK (zV b e D A X) mX13_outParams 6 22 (vX13_outParams_22 j) := by
  unfold vX13_outParams_22
  refine s_aload_n hZ.1 dX13_outParams_22 rfl ?_
  refine s_bipush dX13_outParams_23 (by decide +kernel) ?_
  refine s_callV hZ.1 (Met_X13_outByte hZ) (Nat.le_of_ble_eq_true rfl) vy_X13_outByte zcl13 zw3648 zw327 (Or.inl zw3646) dX13_outParams_25 ?_
  exact (wX13_outParams_28 hZ j hj)
noncomputable def vX13_outParams_18 (j : Nat → rx_K) : rx_K := o_ld rx_isI 2 (o_c1 (fun h x y => rx_lt h y x) (vX13_outParams_22 j) (vX13_outParams_28 j))
set_option maxRecDepth 20000 in
theorem wX13_outParams_18 (hZ : zO b e D A X) (j : Nat → rx_K) (hj : ∀ k pc, [8][k]? = some pc → rx_OK (zV b e D A X) mX13_outParams 6 pc (j k)) : rx_OK (zV b e D A X) mX13_outParams 6 18 (vX13_outParams_18 j) := by
  unfold vX13_outParams_18
  refine s_iload_n hZ.1 dX13_outParams_18 rfl ?_
  exact s_if_le dX13_outParams_19 (by decide) (wX13_outParams_28 hZ j hj) (wX13_outParams_22 hZ j hj)
noncomputable def vX13_outParams_8 (j : Nat → rx_K) : rx_K := o_ld rx_isI 2 (o_ld rx_isR 0 (o_getf 13 55 (o_ld rx_isI 1 (o_ald 0 (o_c2 rx_lt (vX13_outParams_18 j) (vX13_outParams_48 j))))))
set_option maxRecDepth 20000 in
theorem wX13_outParams_8 (hZ : zO b e D A X) (j : Nat → rx_K) (hj : ∀ k pc, [8][k]? = some pc → rx_OK (zV b e D A X) mX13_outParams 6 pc (j k)) : rx_OK (zV b e D A X) mX13_outParams 6 8 (vX13_outParams_8 j) := by
  unfold vX13_outParams_8
  refine s_iload_n hZ.1 dX13_outParams_8 rfl ?_
  refine s_aload_n hZ.1 dX13_outParams_9 rfl ?_
  refine yg13_55 dX13_outParams_10 zw4176 ?_
  refine s_iload_n hZ.1 dX13_outParams_13 rfl ?_
  refine s_iald (tt := 0) rfl dX13_outParams_14 ?_
  exact s_icmp_ge dX13_outParams_15 (by decide) (wX13_outParams_48 hZ j hj) (wX13_outParams_18 hZ j hj)
noncomputable def vX13_outParams_0 (j : Nat → rx_K) : rx_K := o_ld rx_isR 0 (o_const 320 (o_callV 1 13 FX13_outByte (o_const 0 (o_st rx_isI 2 ((vX13_outParams_8 j))))))
set_option maxRecDepth 20000 in
theorem wX13_outParams_0 (hZ : zO b e D A X) (j : Nat → rx_K) (hj : ∀ k pc, [8][k]? = some pc → rx_OK (zV b e D A X) mX13_outParams 6 pc (j k)) : rx_OK (zV b e D A X) mX13_outParams 6 0 (vX13_outParams_0 j) := by
  unfold vX13_outParams_0
  refine s_aload_n hZ.1 dX13_outParams_0 rfl ?_
  refine s_bipush dX13_outParams_1 (by decide +kernel) ?_
  refine s_callV hZ.1 (Met_X13_outByte hZ) (Nat.le_of_ble_eq_true rfl) vy_X13_outByte zcl13 zw3648 zw327 (Or.inl zw3646) dX13_outParams_3 ?_
  refine s_iconst dX13_outParams_6 (by decide +kernel) ?_
  refine s_istore_n hZ.1 dX13_outParams_7 rfl (Nat.le_of_ble_eq_true rfl) ?_
  exact (wX13_outParams_8 hZ j hj)
noncomputable def vhX13_outParams (j : Nat → rx_K) : List rx_K := [vX13_outParams_8 j]
theorem vlX13_outParams (hZ : zO b e D A X) : ∀ n k pc, [8][k]? = some pc → rx_OK (zV b e D A X) mX13_outParams 6 pc (rx_J (vhX13_outParams) n k) := rx_loop fun j hj k pc h => by
  match k, h with
  | 0, h =>
    have e9 := Option.some.inj (show some 8 = some pc from h)
    subst e9
    exact wX13_outParams_8 hZ j hj
  | _ + 1, h => exact absurd h (by simp)
noncomputable def FX13_outParams : List Nat → rx_H → Option (Nat × rx_H) := rx_ent 3 (vX13_outParams_0 (rx_J (vhX13_outParams) 4000000000))
theorem Met_X13_outParams (hZ : zO b e D A X) : rx_Met (zV b e D A X) 6 yX13_outParams mX13_outParams (FX13_outParams) := rx_entry hZ.1 (wX13_outParams_0 hZ _ (vlX13_outParams hZ 4000000000)) (by decide +kernel) rfl (fun h => by cases h)
abbrev mX13_outList : rx_M := (RX13, cX13_outList, 6, none, false)
theorem vy_X13_outList : rx_Y (zV b e D A X) yX13_outList mX13_outList 4 := ⟨zw3666, zw431, by decide, by decide +kernel, by decide +kernel, by decide +kernel⟩
noncomputable def vX13_outList_42 (j : Nat → rx_K) : rx_K := o_ret0
set_option maxRecDepth 20000 in
theorem wX13_outList_42 (hZ : zO b e D A X) (j : Nat → rx_K) (hj : ∀ k pc, [3][k]? = some pc → rx_OK (zV b e D A X) mX13_outList 5 pc (j k)) : rx_OK (zV b e D A X) mX13_outList 5 42 (vX13_outList_42 j) := by
  unfold vX13_outList_42
  exact s_vret rfl dX13_outList_42
noncomputable def vX13_outList_23 (j : Nat → rx_K) : rx_K := o_callV 1 13 FX13_outWord (o_ld rx_isR 0 (o_ld rx_isR 2 (o_ld rx_isI 3 (o_ld rx_isI 5 (o_bi (fun x y => x + y) (o_ald 1 (o_callV 1 13 FX13_outName (o_inc 5 (1) ((j 0))))))))))
set_option maxRecDepth 20000 in
theorem wX13_outList_23 (hZ : zO b e D A X) (j : Nat → rx_K) (hj : ∀ k pc, [3][k]? = some pc → rx_OK (zV b e D A X) mX13_outList 5 pc (j k)) : rx_OK (zV b e D A X) mX13_outList 5 23 (vX13_outList_23 j) := by
  unfold vX13_outList_23
  refine s_callV hZ.1 (Met_X13_outWord hZ) (Nat.le_of_ble_eq_true rfl) vy_X13_outWord zcl13 zw3644 zw326 (Or.inl zw3642) dX13_outList_23 ?_
  refine s_aload_n hZ.1 dX13_outList_26 rfl ?_
  refine s_aload_n hZ.1 dX13_outList_27 rfl ?_
  refine s_iload_n hZ.1 dX13_outList_28 rfl ?_
  refine s_iload hZ.1 dX13_outList_29 ?_
  refine s_iadd dX13_outList_31 ?_
  refine s_lald (tt := 1) rfl dX13_outList_32 ?_
  refine s_callV hZ.1 (Met_X13_outName hZ) (Nat.le_of_ble_eq_true rfl) vy_X13_outName zcl13 zw3656 zw328 (Or.inl zw3654) dX13_outList_33 ?_
  refine s_iinc hZ.1 dX13_outList_36 (Nat.le_of_ble_eq_true rfl) ?_
  exact s_goto dX13_outList_39 (by decide) (hj 0 3 rfl)
noncomputable def vX13_outList_20 (j : Nat → rx_K) : rx_K := o_const 996 ((vX13_outList_23 j))
set_option maxRecDepth 20000 in
theorem wX13_outList_20 (hZ : zO b e D A X) (j : Nat → rx_K) (hj : ∀ k pc, [3][k]? = some pc → rx_OK (zV b e D A X) mX13_outList 5 pc (j k)) : rx_OK (zV b e D A X) mX13_outList 5 20 (vX13_outList_20 j) := by
  unfold vX13_outList_20
  refine s_ldcwS (k := 124) (zo_R124 hZ) dX13_outList_20 ?_
  exact (wX13_outList_23 hZ j hj)
noncomputable def vX13_outList_16 (j : Nat → rx_K) : rx_K := o_ld rx_isR 1 ((vX13_outList_23 j))
set_option maxRecDepth 20000 in
theorem wX13_outList_16 (hZ : zO b e D A X) (j : Nat → rx_K) (hj : ∀ k pc, [3][k]? = some pc → rx_OK (zV b e D A X) mX13_outList 5 pc (j k)) : rx_OK (zV b e D A X) mX13_outList 5 16 (vX13_outList_16 j) := by
  unfold vX13_outList_16
  refine s_aload_n hZ.1 dX13_outList_16 rfl ?_
  exact s_goto dX13_outList_17 (by decide) (wX13_outList_23 hZ j hj)
noncomputable def vX13_outList_10 (j : Nat → rx_K) : rx_K := o_ld rx_isR 0 (o_ld rx_isI 5 (o_c1 rx_eq (vX13_outList_16 j) (vX13_outList_20 j)))
set_option maxRecDepth 20000 in
theorem wX13_outList_10 (hZ : zO b e D A X) (j : Nat → rx_K) (hj : ∀ k pc, [3][k]? = some pc → rx_OK (zV b e D A X) mX13_outList 5 pc (j k)) : rx_OK (zV b e D A X) mX13_outList 5 10 (vX13_outList_10 j) := by
  unfold vX13_outList_10
  refine s_aload_n hZ.1 dX13_outList_10 rfl ?_
  refine s_iload hZ.1 dX13_outList_11 ?_
  exact s_if_ne dX13_outList_13 (by decide) (wX13_outList_20 hZ j hj) (wX13_outList_16 hZ j hj)
noncomputable def vX13_outList_3 (j : Nat → rx_K) : rx_K := o_ld rx_isI 5 (o_ld rx_isI 4 (o_c2 rx_lt (vX13_outList_10 j) (vX13_outList_42 j)))
set_option maxRecDepth 20000 in
theorem wX13_outList_3 (hZ : zO b e D A X) (j : Nat → rx_K) (hj : ∀ k pc, [3][k]? = some pc → rx_OK (zV b e D A X) mX13_outList 5 pc (j k)) : rx_OK (zV b e D A X) mX13_outList 5 3 (vX13_outList_3 j) := by
  unfold vX13_outList_3
  refine s_iload hZ.1 dX13_outList_3 ?_
  refine s_iload hZ.1 dX13_outList_5 ?_
  exact s_icmp_ge dX13_outList_7 (by decide) (wX13_outList_42 hZ j hj) (wX13_outList_10 hZ j hj)
noncomputable def vX13_outList_0 (j : Nat → rx_K) : rx_K := o_const 0 (o_st rx_isI 5 ((vX13_outList_3 j)))
set_option maxRecDepth 20000 in
theorem wX13_outList_0 (hZ : zO b e D A X) (j : Nat → rx_K) (hj : ∀ k pc, [3][k]? = some pc → rx_OK (zV b e D A X) mX13_outList 5 pc (j k)) : rx_OK (zV b e D A X) mX13_outList 5 0 (vX13_outList_0 j) := by
  unfold vX13_outList_0
  refine s_iconst dX13_outList_0 (by decide +kernel) ?_
  refine s_istore hZ.1 dX13_outList_1 (Nat.le_of_ble_eq_true rfl) ?_
  exact (wX13_outList_3 hZ j hj)
noncomputable def vhX13_outList (j : Nat → rx_K) : List rx_K := [vX13_outList_3 j]
theorem vlX13_outList (hZ : zO b e D A X) : ∀ n k pc, [3][k]? = some pc → rx_OK (zV b e D A X) mX13_outList 5 pc (rx_J (vhX13_outList) n k) := rx_loop fun j hj k pc h => by
  match k, h with
  | 0, h =>
    have e9 := Option.some.inj (show some 3 = some pc from h)
    subst e9
    exact wX13_outList_3 hZ j hj
  | _ + 1, h => exact absurd h (by simp)
noncomputable def FX13_outList : List Nat → rx_H → Option (Nat × rx_H) := rx_ent 6 (vX13_outList_0 (rx_J (vhX13_outList) 4000000000))
theorem Met_X13_outList (hZ : zO b e D A X) : rx_Met (zV b e D A X) 5 yX13_outList mX13_outList (FX13_outList) := rx_entry hZ.1 (wX13_outList_0 hZ _ (vlX13_outList hZ 4000000000)) (by decide +kernel) rfl (fun h => by cases h)
abbrev mX13_shape : rx_M := (RX13, cX13_shape, 7, (some .int), false)
theorem vy_X13_shape : rx_Y (zV b e D A X) yX13_shape mX13_shape 4 := ⟨zw3635, zw431, by decide, by decide +kernel, by decide +kernel, by decide +kernel⟩
noncomputable def vX13_shape_534 : rx_K := o_ld rx_isR 0 (o_getf 13 3 (o_ret1 rx_isI))
set_option maxRecDepth 20000 in
theorem wX13_shape_534 (hZ : zO b e D A X) : rx_OK (zV b e D A X) mX13_shape 7 534 vX13_shape_534 := by
  unfold vX13_shape_534
  refine s_aload_n hZ.1 dX13_shape_534 rfl ?_
  refine yg13_3 dX13_shape_535 zw4124 ?_
  exact s_iret hZ.1 rfl dX13_shape_538
noncomputable def vX13_shape_516 : rx_K := o_ld rx_isR 0 (o_const 488 (o_callV 1 13 FX13_outByte (o_ld rx_isR 0 (o_ld rx_isR 0 (o_getf 13 65 (o_ld rx_isI 6 (o_ald 0 (o_il (fun x => x.toInt64) (o_callV 1 13 FX13_outInt (vX13_shape_534))))))))))
set_option maxRecDepth 20000 in
theorem wX13_shape_516 (hZ : zO b e D A X) : rx_OK (zV b e D A X) mX13_shape 7 516 vX13_shape_516 := by
  unfold vX13_shape_516
  refine s_aload_n hZ.1 dX13_shape_516 rfl ?_
  refine s_bipush dX13_shape_517 (by decide +kernel) ?_
  refine s_callV hZ.1 (Met_X13_outByte hZ) (Nat.le_of_ble_eq_true rfl) vy_X13_outByte zcl13 zw3648 zw327 (Or.inl zw3646) dX13_shape_519 ?_
  refine s_aload_n hZ.1 dX13_shape_522 rfl ?_
  refine s_aload_n hZ.1 dX13_shape_523 rfl ?_
  refine yg13_65 dX13_shape_524 zw4186 ?_
  refine s_iload hZ.1 dX13_shape_527 ?_
  refine s_iald (tt := 0) rfl dX13_shape_529 ?_
  refine s_i2l dX13_shape_530 ?_
  refine s_callV hZ.1 (Met_X13_outInt hZ) (Nat.le_of_ble_eq_true rfl) vy_X13_outInt zcl13 zw3687 zw332 (Or.inl zw3685) dX13_shape_531 ?_
  exact (wX13_shape_534 hZ)
noncomputable def vX13_shape_506 : rx_K := o_ld rx_isR 0 (o_getf 13 64 (o_ld rx_isI 6 (o_ald 3 (o_c1 rx_eq vX13_shape_534 vX13_shape_516))))
set_option maxRecDepth 20000 in
theorem wX13_shape_506 (hZ : zO b e D A X) : rx_OK (zV b e D A X) mX13_shape 7 506 vX13_shape_506 := by
  unfold vX13_shape_506
  refine s_aload_n hZ.1 dX13_shape_506 rfl ?_
  refine yg13_64 dX13_shape_507 zw4185 ?_
  refine s_iload hZ.1 dX13_shape_510 ?_
  refine s_zald (tt := 3) rfl dX13_shape_512 ?_
  exact s_if_eq dX13_shape_513 (by decide) (wX13_shape_534 hZ) (wX13_shape_516 hZ)
noncomputable def vX13_shape_497 : rx_K := o_ld rx_isR 0 (o_ld rx_isI 6 (o_callV 1 13 FX13_outParams (vX13_shape_534)))
set_option maxRecDepth 20000 in
theorem wX13_shape_497 (hZ : zO b e D A X) : rx_OK (zV b e D A X) mX13_shape 7 497 vX13_shape_497 := by
  unfold vX13_shape_497
  refine s_aload_n hZ.1 dX13_shape_497 rfl ?_
  refine s_iload hZ.1 dX13_shape_498 ?_
  refine s_callV hZ.1 (Met_X13_outParams hZ) (Nat.le_of_ble_eq_true rfl) vy_X13_outParams zcl13 zw3683 zw331 (Or.inl zw3681) dX13_shape_500 ?_
  exact s_goto dX13_shape_503 (by decide) (wX13_shape_534 hZ)
noncomputable def vX13_shape_487 : rx_K := o_ld rx_isR 0 (o_getf 13 42 (o_ld rx_isI 6 (o_ald 0 (o_c1 rx_eq vX13_shape_506 vX13_shape_497))))
set_option maxRecDepth 20000 in
theorem wX13_shape_487 (hZ : zO b e D A X) : rx_OK (zV b e D A X) mX13_shape 7 487 vX13_shape_487 := by
  unfold vX13_shape_487
  refine s_aload_n hZ.1 dX13_shape_487 rfl ?_
  refine yg13_42 dX13_shape_488 zw4163 ?_
  refine s_iload hZ.1 dX13_shape_491 ?_
  refine s_iald (tt := 0) rfl dX13_shape_493 ?_
  exact s_if_eq dX13_shape_494 (by decide) (wX13_shape_506 hZ) (wX13_shape_497 hZ)
noncomputable def vX13_shape_459 : rx_K := o_ld rx_isR 0 (o_ld rx_isR 0 (o_getf 13 53 (o_ld rx_isI 6 (o_ald 1 (o_callV 1 13 FX13_outType (o_ld rx_isR 0 (o_const 256 (o_callV 1 13 FX13_outByte (o_ld rx_isR 0 (o_ld rx_isR 0 (o_getf 13 51 (o_ld rx_isI 6 (o_ald 1 (o_callV 1 13 FX13_outName (vX13_shape_487)))))))))))))))
set_option maxRecDepth 20000 in
theorem wX13_shape_459 (hZ : zO b e D A X) : rx_OK (zV b e D A X) mX13_shape 7 459 vX13_shape_459 := by
  unfold vX13_shape_459
  refine s_aload_n hZ.1 dX13_shape_459 rfl ?_
  refine s_aload_n hZ.1 dX13_shape_460 rfl ?_
  refine yg13_53 dX13_shape_461 zw4174 ?_
  refine s_iload hZ.1 dX13_shape_464 ?_
  refine s_lald (tt := 1) rfl dX13_shape_466 ?_
  refine s_callV hZ.1 (Met_X13_outType hZ) (Nat.le_of_ble_eq_true rfl) vy_X13_outType zcl13 zw3679 zw330 (Or.inl zw3677) dX13_shape_467 ?_
  refine s_aload_n hZ.1 dX13_shape_470 rfl ?_
  refine s_bipush dX13_shape_471 (by decide +kernel) ?_
  refine s_callV hZ.1 (Met_X13_outByte hZ) (Nat.le_of_ble_eq_true rfl) vy_X13_outByte zcl13 zw3648 zw327 (Or.inl zw3646) dX13_shape_473 ?_
  refine s_aload_n hZ.1 dX13_shape_476 rfl ?_
  refine s_aload_n hZ.1 dX13_shape_477 rfl ?_
  refine yg13_51 dX13_shape_478 zw4172 ?_
  refine s_iload hZ.1 dX13_shape_481 ?_
  refine s_lald (tt := 1) rfl dX13_shape_483 ?_
  refine s_callV hZ.1 (Met_X13_outName hZ) (Nat.le_of_ble_eq_true rfl) vy_X13_outName zcl13 zw3656 zw328 (Or.inl zw3654) dX13_shape_484 ?_
  exact (wX13_shape_487 hZ)
noncomputable def vX13_shape_449 : rx_K := o_ld rx_isR 0 (o_const 740 (o_callV 1 13 FX13_outWord (vX13_shape_487)))
set_option maxRecDepth 20000 in
theorem wX13_shape_449 (hZ : zO b e D A X) : rx_OK (zV b e D A X) mX13_shape 7 449 vX13_shape_449 := by
  unfold vX13_shape_449
  refine s_aload_n hZ.1 dX13_shape_449 rfl ?_
  refine s_ldcwS (k := 92) (zo_R92 hZ) dX13_shape_450 ?_
  refine s_callV hZ.1 (Met_X13_outWord hZ) (Nat.le_of_ble_eq_true rfl) vy_X13_outWord zcl13 zw3644 zw326 (Or.inl zw3642) dX13_shape_453 ?_
  exact s_goto dX13_shape_456 (by decide) (wX13_shape_487 hZ)
noncomputable def vX13_shape_435 : rx_K := o_callV 1 13 FX13_outWord (o_ld rx_isR 0 (o_getf 13 42 (o_ld rx_isI 6 (o_ald 0 (o_const 16 (o_c2 rx_eq vX13_shape_449 vX13_shape_459))))))
set_option maxRecDepth 20000 in
theorem wX13_shape_435 (hZ : zO b e D A X) : rx_OK (zV b e D A X) mX13_shape 7 435 vX13_shape_435 := by
  unfold vX13_shape_435
  refine s_callV hZ.1 (Met_X13_outWord hZ) (Nat.le_of_ble_eq_true rfl) vy_X13_outWord zcl13 zw3644 zw326 (Or.inl zw3642) dX13_shape_435 ?_
  refine s_aload_n hZ.1 dX13_shape_438 rfl ?_
  refine yg13_42 dX13_shape_439 zw4163 ?_
  refine s_iload hZ.1 dX13_shape_442 ?_
  refine s_iald (tt := 0) rfl dX13_shape_444 ?_
  refine s_iconst dX13_shape_445 (by decide +kernel) ?_
  exact s_icmp_ne dX13_shape_446 (by decide) (wX13_shape_459 hZ) (wX13_shape_449 hZ)
noncomputable def vX13_shape_432 : rx_K := o_const 1172 (vX13_shape_435)
set_option maxRecDepth 20000 in
theorem wX13_shape_432 (hZ : zO b e D A X) : rx_OK (zV b e D A X) mX13_shape 7 432 vX13_shape_432 := by
  unfold vX13_shape_432
  refine s_ldcwS (k := 146) (zo_R146 hZ) dX13_shape_432 ?_
  exact (wX13_shape_435 hZ)
noncomputable def vX13_shape_426 : rx_K := o_const 1236 (vX13_shape_435)
set_option maxRecDepth 20000 in
theorem wX13_shape_426 (hZ : zO b e D A X) : rx_OK (zV b e D A X) mX13_shape 7 426 vX13_shape_426 := by
  unfold vX13_shape_426
  refine s_ldcwS (k := 154) (zo_R154 hZ) dX13_shape_426 ?_
  exact s_goto dX13_shape_429 (by decide) (wX13_shape_435 hZ)
noncomputable def vX13_shape_416 : rx_K := o_ld rx_isR 0 (o_getf 13 47 (o_ld rx_isI 6 (o_ald 3 (o_c1 rx_eq vX13_shape_432 vX13_shape_426))))
set_option maxRecDepth 20000 in
theorem wX13_shape_416 (hZ : zO b e D A X) : rx_OK (zV b e D A X) mX13_shape 7 416 vX13_shape_416 := by
  unfold vX13_shape_416
  refine s_aload_n hZ.1 dX13_shape_416 rfl ?_
  refine yg13_47 dX13_shape_417 zw4168 ?_
  refine s_iload hZ.1 dX13_shape_420 ?_
  refine s_zald (tt := 3) rfl dX13_shape_422 ?_
  exact s_if_eq dX13_shape_423 (by decide) (wX13_shape_432 hZ) (wX13_shape_426 hZ)
noncomputable def vX13_shape_410 : rx_K := o_const 1220 (vX13_shape_435)
set_option maxRecDepth 20000 in
theorem wX13_shape_410 (hZ : zO b e D A X) : rx_OK (zV b e D A X) mX13_shape 7 410 vX13_shape_410 := by
  unfold vX13_shape_410
  refine s_ldcwS (k := 152) (zo_R152 hZ) dX13_shape_410 ?_
  exact s_goto dX13_shape_413 (by decide) (wX13_shape_435 hZ)
noncomputable def vX13_shape_396 : rx_K := o_callV 1 13 FX13_outWord (o_ld rx_isR 0 (o_ld rx_isR 0 (o_getf 13 46 (o_ld rx_isI 6 (o_ald 3 (o_c1 rx_eq vX13_shape_416 vX13_shape_410))))))
set_option maxRecDepth 20000 in
theorem wX13_shape_396 (hZ : zO b e D A X) : rx_OK (zV b e D A X) mX13_shape 7 396 vX13_shape_396 := by
  unfold vX13_shape_396
  refine s_callV hZ.1 (Met_X13_outWord hZ) (Nat.le_of_ble_eq_true rfl) vy_X13_outWord zcl13 zw3644 zw326 (Or.inl zw3642) dX13_shape_396 ?_
  refine s_aload_n hZ.1 dX13_shape_399 rfl ?_
  refine s_aload_n hZ.1 dX13_shape_400 rfl ?_
  refine yg13_46 dX13_shape_401 zw4167 ?_
  refine s_iload hZ.1 dX13_shape_404 ?_
  refine s_zald (tt := 3) rfl dX13_shape_406 ?_
  exact s_if_eq dX13_shape_407 (by decide) (wX13_shape_416 hZ) (wX13_shape_410 hZ)
noncomputable def vX13_shape_393 : rx_K := o_const 1172 (vX13_shape_396)
set_option maxRecDepth 20000 in
theorem wX13_shape_393 (hZ : zO b e D A X) : rx_OK (zV b e D A X) mX13_shape 7 393 vX13_shape_393 := by
  unfold vX13_shape_393
  refine s_ldcwS (k := 146) (zo_R146 hZ) dX13_shape_393 ?_
  exact (wX13_shape_396 hZ)
noncomputable def vX13_shape_387 : rx_K := o_const 1204 (vX13_shape_396)
set_option maxRecDepth 20000 in
theorem wX13_shape_387 (hZ : zO b e D A X) : rx_OK (zV b e D A X) mX13_shape 7 387 vX13_shape_387 := by
  unfold vX13_shape_387
  refine s_ldcwS (k := 150) (zo_R150 hZ) dX13_shape_387 ?_
  exact s_goto dX13_shape_390 (by decide) (wX13_shape_396 hZ)
noncomputable def vX13_shape_373 : rx_K := o_callV 1 13 FX13_outWord (o_ld rx_isR 0 (o_ld rx_isR 0 (o_getf 13 45 (o_ld rx_isI 6 (o_ald 3 (o_c1 rx_eq vX13_shape_393 vX13_shape_387))))))
set_option maxRecDepth 20000 in
theorem wX13_shape_373 (hZ : zO b e D A X) : rx_OK (zV b e D A X) mX13_shape 7 373 vX13_shape_373 := by
  unfold vX13_shape_373
  refine s_callV hZ.1 (Met_X13_outWord hZ) (Nat.le_of_ble_eq_true rfl) vy_X13_outWord zcl13 zw3644 zw326 (Or.inl zw3642) dX13_shape_373 ?_
  refine s_aload_n hZ.1 dX13_shape_376 rfl ?_
  refine s_aload_n hZ.1 dX13_shape_377 rfl ?_
  refine yg13_45 dX13_shape_378 zw4166 ?_
  refine s_iload hZ.1 dX13_shape_381 ?_
  refine s_zald (tt := 3) rfl dX13_shape_383 ?_
  exact s_if_eq dX13_shape_384 (by decide) (wX13_shape_393 hZ) (wX13_shape_387 hZ)
noncomputable def vX13_shape_370 : rx_K := o_const 1172 (vX13_shape_373)
set_option maxRecDepth 20000 in
theorem wX13_shape_370 (hZ : zO b e D A X) : rx_OK (zV b e D A X) mX13_shape 7 370 vX13_shape_370 := by
  unfold vX13_shape_370
  refine s_ldcwS (k := 146) (zo_R146 hZ) dX13_shape_370 ?_
  exact (wX13_shape_373 hZ)
noncomputable def vX13_shape_364 : rx_K := o_const 1268 (vX13_shape_373)
set_option maxRecDepth 20000 in
theorem wX13_shape_364 (hZ : zO b e D A X) : rx_OK (zV b e D A X) mX13_shape 7 364 vX13_shape_364 := by
  unfold vX13_shape_364
  refine s_ldcwS (k := 158) (zo_R158 hZ) dX13_shape_364 ?_
  exact s_goto dX13_shape_367 (by decide) (wX13_shape_373 hZ)
noncomputable def vX13_shape_354 : rx_K := o_ld rx_isR 0 (o_getf 13 44 (o_ld rx_isI 6 (o_ald 0 (o_c1 rx_eq vX13_shape_364 vX13_shape_370))))
set_option maxRecDepth 20000 in
theorem wX13_shape_354 (hZ : zO b e D A X) : rx_OK (zV b e D A X) mX13_shape 7 354 vX13_shape_354 := by
  unfold vX13_shape_354
  refine s_aload_n hZ.1 dX13_shape_354 rfl ?_
  refine yg13_44 dX13_shape_355 zw4165 ?_
  refine s_iload hZ.1 dX13_shape_358 ?_
  refine s_iald (tt := 0) rfl dX13_shape_360 ?_
  exact s_if_ne dX13_shape_361 (by decide) (wX13_shape_370 hZ) (wX13_shape_364 hZ)
noncomputable def vX13_shape_348 : rx_K := o_const 1252 (vX13_shape_373)
set_option maxRecDepth 20000 in
theorem wX13_shape_348 (hZ : zO b e D A X) : rx_OK (zV b e D A X) mX13_shape 7 348 vX13_shape_348 := by
  unfold vX13_shape_348
  refine s_ldcwS (k := 156) (zo_R156 hZ) dX13_shape_348 ?_
  exact s_goto dX13_shape_351 (by decide) (wX13_shape_373 hZ)
noncomputable def vX13_shape_337 : rx_K := o_ld rx_isR 0 (o_getf 13 44 (o_ld rx_isI 6 (o_ald 0 (o_const 16 (o_c2 rx_eq vX13_shape_348 vX13_shape_354)))))
set_option maxRecDepth 20000 in
theorem wX13_shape_337 (hZ : zO b e D A X) : rx_OK (zV b e D A X) mX13_shape 7 337 vX13_shape_337 := by
  unfold vX13_shape_337
  refine s_aload_n hZ.1 dX13_shape_337 rfl ?_
  refine yg13_44 dX13_shape_338 zw4165 ?_
  refine s_iload hZ.1 dX13_shape_341 ?_
  refine s_iald (tt := 0) rfl dX13_shape_343 ?_
  refine s_iconst dX13_shape_344 (by decide +kernel) ?_
  exact s_icmp_ne dX13_shape_345 (by decide) (wX13_shape_354 hZ) (wX13_shape_348 hZ)
noncomputable def vX13_shape_331 : rx_K := o_const 1012 (vX13_shape_373)
set_option maxRecDepth 20000 in
theorem wX13_shape_331 (hZ : zO b e D A X) : rx_OK (zV b e D A X) mX13_shape 7 331 vX13_shape_331 := by
  unfold vX13_shape_331
  refine s_ldcwS (k := 126) (zo_R126 hZ) dX13_shape_331 ?_
  exact s_goto dX13_shape_334 (by decide) (wX13_shape_373 hZ)
noncomputable def vX13_shape_316 : rx_K := o_callV 1 13 FX13_outWord (o_ld rx_isR 0 (o_ld rx_isR 0 (o_getf 13 44 (o_ld rx_isI 6 (o_ald 0 (o_const 24 (o_c2 rx_eq vX13_shape_331 vX13_shape_337)))))))
set_option maxRecDepth 20000 in
theorem wX13_shape_316 (hZ : zO b e D A X) : rx_OK (zV b e D A X) mX13_shape 7 316 vX13_shape_316 := by
  unfold vX13_shape_316
  refine s_callV hZ.1 (Met_X13_outWord hZ) (Nat.le_of_ble_eq_true rfl) vy_X13_outWord zcl13 zw3644 zw326 (Or.inl zw3642) dX13_shape_316 ?_
  refine s_aload_n hZ.1 dX13_shape_319 rfl ?_
  refine s_aload_n hZ.1 dX13_shape_320 rfl ?_
  refine yg13_44 dX13_shape_321 zw4165 ?_
  refine s_iload hZ.1 dX13_shape_324 ?_
  refine s_iald (tt := 0) rfl dX13_shape_326 ?_
  refine s_iconst dX13_shape_327 (by decide +kernel) ?_
  exact s_icmp_ne dX13_shape_328 (by decide) (wX13_shape_337 hZ) (wX13_shape_331 hZ)
noncomputable def vX13_shape_313 : rx_K := o_const 1172 (vX13_shape_316)
set_option maxRecDepth 20000 in
theorem wX13_shape_313 (hZ : zO b e D A X) : rx_OK (zV b e D A X) mX13_shape 7 313 vX13_shape_313 := by
  unfold vX13_shape_313
  refine s_ldcwS (k := 146) (zo_R146 hZ) dX13_shape_313 ?_
  exact (wX13_shape_316 hZ)
noncomputable def vX13_shape_307 : rx_K := o_const 1188 (vX13_shape_316)
set_option maxRecDepth 20000 in
theorem wX13_shape_307 (hZ : zO b e D A X) : rx_OK (zV b e D A X) mX13_shape 7 307 vX13_shape_307 := by
  unfold vX13_shape_307
  refine s_ldcwS (k := 148) (zo_R148 hZ) dX13_shape_307 ?_
  exact s_goto dX13_shape_310 (by decide) (wX13_shape_316 hZ)
noncomputable def vX13_shape_296 : rx_K := o_ld rx_isR 0 (o_ld rx_isR 0 (o_getf 13 49 (o_ld rx_isI 6 (o_ald 3 (o_c1 rx_eq vX13_shape_313 vX13_shape_307)))))
set_option maxRecDepth 20000 in
theorem wX13_shape_296 (hZ : zO b e D A X) : rx_OK (zV b e D A X) mX13_shape 7 296 vX13_shape_296 := by
  unfold vX13_shape_296
  refine s_aload_n hZ.1 dX13_shape_296 rfl ?_
  refine s_aload_n hZ.1 dX13_shape_297 rfl ?_
  refine yg13_49 dX13_shape_298 zw4170 ?_
  refine s_iload hZ.1 dX13_shape_301 ?_
  refine s_zald (tt := 3) rfl dX13_shape_303 ?_
  exact s_if_eq dX13_shape_304 (by decide) (wX13_shape_313 hZ) (wX13_shape_307 hZ)
noncomputable def vX13_shape_291 : rx_K := o_ld rx_isR 0 (o_getf 13 3 (o_ret1 rx_isI))
set_option maxRecDepth 20000 in
theorem wX13_shape_291 (hZ : zO b e D A X) : rx_OK (zV b e D A X) mX13_shape 7 291 vX13_shape_291 := by
  unfold vX13_shape_291
  refine s_aload_n hZ.1 dX13_shape_291 rfl ?_
  refine yg13_3 dX13_shape_292 zw4124 ?_
  exact s_iret hZ.1 rfl dX13_shape_295
noncomputable def vX13_shape_245 : rx_K := o_ld rx_isR 0 (o_const 1092 (o_ld rx_isR 0 (o_getf 13 35 (o_const 64 (o_ld rx_isI 5 (o_bi (fun x y => x * y) (o_ld rx_isR 0 (o_getf 13 37 (o_ld rx_isI 5 (o_ald 0 (o_callV 4 13 FX13_outList (o_ld rx_isR 0 (o_const 1108 (o_ld rx_isR 0 (o_getf 13 38 (o_const 64 (o_ld rx_isI 5 (o_bi (fun x y => x * y) (o_ld rx_isR 0 (o_getf 13 40 (o_ld rx_isI 5 (o_ald 0 (o_callV 4 13 FX13_outList (vX13_shape_291))))))))))))))))))))))))
set_option maxRecDepth 20000 in
theorem wX13_shape_245 (hZ : zO b e D A X) : rx_OK (zV b e D A X) mX13_shape 7 245 vX13_shape_245 := by
  unfold vX13_shape_245
  refine s_aload_n hZ.1 dX13_shape_245 rfl ?_
  refine s_ldcwS (k := 136) (zo_R136 hZ) dX13_shape_246 ?_
  refine s_aload_n hZ.1 dX13_shape_249 rfl ?_
  refine yg13_35 dX13_shape_250 zw4156 ?_
  refine s_bipush dX13_shape_253 (by decide +kernel) ?_
  refine s_iload hZ.1 dX13_shape_255 ?_
  refine s_imul dX13_shape_257 ?_
  refine s_aload_n hZ.1 dX13_shape_258 rfl ?_
  refine yg13_37 dX13_shape_259 zw4158 ?_
  refine s_iload hZ.1 dX13_shape_262 ?_
  refine s_iald (tt := 0) rfl dX13_shape_264 ?_
  refine s_callV hZ.1 (Met_X13_outList hZ) (Nat.le_of_ble_eq_true rfl) vy_X13_outList zcl13 zw3665 zw329 (Or.inl zw3663) dX13_shape_265 ?_
  refine s_aload_n hZ.1 dX13_shape_268 rfl ?_
  refine s_ldcwS (k := 138) (zo_R138 hZ) dX13_shape_269 ?_
  refine s_aload_n hZ.1 dX13_shape_272 rfl ?_
  refine yg13_38 dX13_shape_273 zw4159 ?_
  refine s_bipush dX13_shape_276 (by decide +kernel) ?_
  refine s_iload hZ.1 dX13_shape_278 ?_
  refine s_imul dX13_shape_280 ?_
  refine s_aload_n hZ.1 dX13_shape_281 rfl ?_
  refine yg13_40 dX13_shape_282 zw4161 ?_
  refine s_iload hZ.1 dX13_shape_285 ?_
  refine s_iald (tt := 0) rfl dX13_shape_287 ?_
  refine s_callV hZ.1 (Met_X13_outList hZ) (Nat.le_of_ble_eq_true rfl) vy_X13_outList zcl13 zw3665 zw329 (Or.inl zw3663) dX13_shape_288 ?_
  exact (wX13_shape_291 hZ)
noncomputable def vX13_shape_227 : rx_K := o_ld rx_isR 0 (o_const 1076 (o_callV 1 13 FX13_outWord (o_ld rx_isR 0 (o_ld rx_isR 0 (o_getf 13 33 (o_ld rx_isI 5 (o_ald 1 (o_callV 1 13 FX13_outName (vX13_shape_245)))))))))
set_option maxRecDepth 20000 in
theorem wX13_shape_227 (hZ : zO b e D A X) : rx_OK (zV b e D A X) mX13_shape 7 227 vX13_shape_227 := by
  unfold vX13_shape_227
  refine s_aload_n hZ.1 dX13_shape_227 rfl ?_
  refine s_ldcwS (k := 134) (zo_R134 hZ) dX13_shape_228 ?_
  refine s_callV hZ.1 (Met_X13_outWord hZ) (Nat.le_of_ble_eq_true rfl) vy_X13_outWord zcl13 zw3644 zw326 (Or.inl zw3642) dX13_shape_231 ?_
  refine s_aload_n hZ.1 dX13_shape_234 rfl ?_
  refine s_aload_n hZ.1 dX13_shape_235 rfl ?_
  refine yg13_33 dX13_shape_236 zw4154 ?_
  refine s_iload hZ.1 dX13_shape_239 ?_
  refine s_lald (tt := 1) rfl dX13_shape_241 ?_
  refine s_callV hZ.1 (Met_X13_outName hZ) (Nat.le_of_ble_eq_true rfl) vy_X13_outName zcl13 zw3656 zw328 (Or.inl zw3654) dX13_shape_242 ?_
  exact (wX13_shape_245 hZ)
noncomputable def vX13_shape_193 : rx_K := o_ld rx_isR 0 (o_const 1060 (o_ld rx_isR 0 (o_getf 13 30 (o_const 32 (o_ld rx_isI 5 (o_bi (fun x y => x * y) (o_ld rx_isR 0 (o_getf 13 32 (o_ld rx_isI 5 (o_ald 0 (o_callV 4 13 FX13_outList (o_ld rx_isR 0 (o_getf 13 33 (o_ld rx_isI 5 (o_ald 1 (o_const 1 (o_bc (fun x y => lg_cmp x y) (o_c1 rx_eq vX13_shape_245 vX13_shape_227))))))))))))))))))
set_option maxRecDepth 20000 in
theorem wX13_shape_193 (hZ : zO b e D A X) : rx_OK (zV b e D A X) mX13_shape 7 193 vX13_shape_193 := by
  unfold vX13_shape_193
  refine s_aload_n hZ.1 dX13_shape_193 rfl ?_
  refine s_ldcwS (k := 132) (zo_R132 hZ) dX13_shape_194 ?_
  refine s_aload_n hZ.1 dX13_shape_197 rfl ?_
  refine yg13_30 dX13_shape_198 zw4151 ?_
  refine s_iconst dX13_shape_201 (by decide +kernel) ?_
  refine s_iload hZ.1 dX13_shape_202 ?_
  refine s_imul dX13_shape_204 ?_
  refine s_aload_n hZ.1 dX13_shape_205 rfl ?_
  refine yg13_32 dX13_shape_206 zw4153 ?_
  refine s_iload hZ.1 dX13_shape_209 ?_
  refine s_iald (tt := 0) rfl dX13_shape_211 ?_
  refine s_callV hZ.1 (Met_X13_outList hZ) (Nat.le_of_ble_eq_true rfl) vy_X13_outList zcl13 zw3665 zw329 (Or.inl zw3663) dX13_shape_212 ?_
  refine s_aload_n hZ.1 dX13_shape_215 rfl ?_
  refine yg13_33 dX13_shape_216 zw4154 ?_
  refine s_iload hZ.1 dX13_shape_219 ?_
  refine s_lald (tt := 1) rfl dX13_shape_221 ?_
  refine s_lconst dX13_shape_222 (by decide +kernel) ?_
  refine s_lcmp dX13_shape_223 ?_
  exact s_if_eq dX13_shape_224 (by decide) (wX13_shape_245 hZ) (wX13_shape_227 hZ)
noncomputable def vX13_shape_175 : rx_K := o_ld rx_isR 0 (o_const 1044 (o_callV 1 13 FX13_outWord (o_ld rx_isR 0 (o_ld rx_isR 0 (o_getf 13 28 (o_ld rx_isI 5 (o_ald 1 (o_callV 1 13 FX13_outName (vX13_shape_193)))))))))
set_option maxRecDepth 20000 in
theorem wX13_shape_175 (hZ : zO b e D A X) : rx_OK (zV b e D A X) mX13_shape 7 175 vX13_shape_175 := by
  unfold vX13_shape_175
  refine s_aload_n hZ.1 dX13_shape_175 rfl ?_
  refine s_ldcwS (k := 130) (zo_R130 hZ) dX13_shape_176 ?_
  refine s_callV hZ.1 (Met_X13_outWord hZ) (Nat.le_of_ble_eq_true rfl) vy_X13_outWord zcl13 zw3644 zw326 (Or.inl zw3642) dX13_shape_179 ?_
  refine s_aload_n hZ.1 dX13_shape_182 rfl ?_
  refine s_aload_n hZ.1 dX13_shape_183 rfl ?_
  refine yg13_28 dX13_shape_184 zw4149 ?_
  refine s_iload hZ.1 dX13_shape_187 ?_
  refine s_lald (tt := 1) rfl dX13_shape_189 ?_
  refine s_callV hZ.1 (Met_X13_outName hZ) (Nat.le_of_ble_eq_true rfl) vy_X13_outName zcl13 zw3656 zw328 (Or.inl zw3654) dX13_shape_190 ?_
  exact (wX13_shape_193 hZ)
noncomputable def vX13_shape_149 : rx_K := o_callV 1 13 FX13_outWord (o_ld rx_isR 0 (o_ld rx_isR 0 (o_getf 13 24 (o_ld rx_isI 5 (o_ald 1 (o_callV 1 13 FX13_outName (o_ld rx_isR 0 (o_getf 13 28 (o_ld rx_isI 5 (o_ald 1 (o_const 1 (o_bc (fun x y => lg_cmp x y) (o_c1 rx_eq vX13_shape_193 vX13_shape_175)))))))))))))
set_option maxRecDepth 20000 in
theorem wX13_shape_149 (hZ : zO b e D A X) : rx_OK (zV b e D A X) mX13_shape 7 149 vX13_shape_149 := by
  unfold vX13_shape_149
  refine s_callV hZ.1 (Met_X13_outWord hZ) (Nat.le_of_ble_eq_true rfl) vy_X13_outWord zcl13 zw3644 zw326 (Or.inl zw3642) dX13_shape_149 ?_
  refine s_aload_n hZ.1 dX13_shape_152 rfl ?_
  refine s_aload_n hZ.1 dX13_shape_153 rfl ?_
  refine yg13_24 dX13_shape_154 zw4145 ?_
  refine s_iload hZ.1 dX13_shape_157 ?_
  refine s_lald (tt := 1) rfl dX13_shape_159 ?_
  refine s_callV hZ.1 (Met_X13_outName hZ) (Nat.le_of_ble_eq_true rfl) vy_X13_outName zcl13 zw3656 zw328 (Or.inl zw3654) dX13_shape_160 ?_
  refine s_aload_n hZ.1 dX13_shape_163 rfl ?_
  refine yg13_28 dX13_shape_164 zw4149 ?_
  refine s_iload hZ.1 dX13_shape_167 ?_
  refine s_lald (tt := 1) rfl dX13_shape_169 ?_
  refine s_lconst dX13_shape_170 (by decide +kernel) ?_
  refine s_lcmp dX13_shape_171 ?_
  exact s_if_eq dX13_shape_172 (by decide) (wX13_shape_193 hZ) (wX13_shape_175 hZ)
noncomputable def vX13_shape_146 : rx_K := o_const 1156 (vX13_shape_149)
set_option maxRecDepth 20000 in
theorem wX13_shape_146 (hZ : zO b e D A X) : rx_OK (zV b e D A X) mX13_shape 7 146 vX13_shape_146 := by
  unfold vX13_shape_146
  refine s_ldcwS (k := 144) (zo_R144 hZ) dX13_shape_146 ?_
  exact (wX13_shape_149 hZ)
noncomputable def vX13_shape_140 : rx_K := o_const 1140 (vX13_shape_149)
set_option maxRecDepth 20000 in
theorem wX13_shape_140 (hZ : zO b e D A X) : rx_OK (zV b e D A X) mX13_shape 7 140 vX13_shape_140 := by
  unfold vX13_shape_140
  refine s_ldcwS (k := 142) (zo_R142 hZ) dX13_shape_140 ?_
  exact s_goto dX13_shape_143 (by decide) (wX13_shape_149 hZ)
noncomputable def vX13_shape_129 : rx_K := o_ld rx_isR 0 (o_getf 13 27 (o_ld rx_isI 5 (o_ald 0 (o_const 24 (o_c2 rx_eq vX13_shape_140 vX13_shape_146)))))
set_option maxRecDepth 20000 in
theorem wX13_shape_129 (hZ : zO b e D A X) : rx_OK (zV b e D A X) mX13_shape 7 129 vX13_shape_129 := by
  unfold vX13_shape_129
  refine s_aload_n hZ.1 dX13_shape_129 rfl ?_
  refine yg13_27 dX13_shape_130 zw4148 ?_
  refine s_iload hZ.1 dX13_shape_133 ?_
  refine s_iald (tt := 0) rfl dX13_shape_135 ?_
  refine s_iconst dX13_shape_136 (by decide +kernel) ?_
  exact s_icmp_ne dX13_shape_137 (by decide) (wX13_shape_146 hZ) (wX13_shape_140 hZ)
noncomputable def vX13_shape_123 : rx_K := o_const 1124 (vX13_shape_149)
set_option maxRecDepth 20000 in
theorem wX13_shape_123 (hZ : zO b e D A X) : rx_OK (zV b e D A X) mX13_shape 7 123 vX13_shape_123 := by
  unfold vX13_shape_123
  refine s_ldcwS (k := 140) (zo_R140 hZ) dX13_shape_123 ?_
  exact s_goto dX13_shape_126 (by decide) (wX13_shape_149 hZ)
noncomputable def vX13_shape_112 : rx_K := o_ld rx_isR 0 (o_getf 13 27 (o_ld rx_isI 5 (o_ald 0 (o_const 16 (o_c2 rx_eq vX13_shape_123 vX13_shape_129)))))
set_option maxRecDepth 20000 in
theorem wX13_shape_112 (hZ : zO b e D A X) : rx_OK (zV b e D A X) mX13_shape 7 112 vX13_shape_112 := by
  unfold vX13_shape_112
  refine s_aload_n hZ.1 dX13_shape_112 rfl ?_
  refine yg13_27 dX13_shape_113 zw4148 ?_
  refine s_iload hZ.1 dX13_shape_116 ?_
  refine s_iald (tt := 0) rfl dX13_shape_118 ?_
  refine s_iconst dX13_shape_119 (by decide +kernel) ?_
  exact s_icmp_ne dX13_shape_120 (by decide) (wX13_shape_129 hZ) (wX13_shape_123 hZ)
noncomputable def vX13_shape_106 : rx_K := o_const 1028 (vX13_shape_149)
set_option maxRecDepth 20000 in
theorem wX13_shape_106 (hZ : zO b e D A X) : rx_OK (zV b e D A X) mX13_shape 7 106 vX13_shape_106 := by
  unfold vX13_shape_106
  refine s_ldcwS (k := 128) (zo_R128 hZ) dX13_shape_106 ?_
  exact s_goto dX13_shape_109 (by decide) (wX13_shape_149 hZ)
noncomputable def vX13_shape_91 : rx_K := o_callV 1 13 FX13_outWord (o_ld rx_isR 0 (o_ld rx_isR 0 (o_getf 13 27 (o_ld rx_isI 5 (o_ald 0 (o_const 8 (o_c2 rx_eq vX13_shape_106 vX13_shape_112)))))))
set_option maxRecDepth 20000 in
theorem wX13_shape_91 (hZ : zO b e D A X) : rx_OK (zV b e D A X) mX13_shape 7 91 vX13_shape_91 := by
  unfold vX13_shape_91
  refine s_callV hZ.1 (Met_X13_outWord hZ) (Nat.le_of_ble_eq_true rfl) vy_X13_outWord zcl13 zw3644 zw326 (Or.inl zw3642) dX13_shape_91 ?_
  refine s_aload_n hZ.1 dX13_shape_94 rfl ?_
  refine s_aload_n hZ.1 dX13_shape_95 rfl ?_
  refine yg13_27 dX13_shape_96 zw4148 ?_
  refine s_iload hZ.1 dX13_shape_99 ?_
  refine s_iald (tt := 0) rfl dX13_shape_101 ?_
  refine s_iconst dX13_shape_102 (by decide +kernel) ?_
  exact s_icmp_ne dX13_shape_103 (by decide) (wX13_shape_112 hZ) (wX13_shape_106 hZ)
noncomputable def vX13_shape_88 : rx_K := o_const 1172 (vX13_shape_91)
set_option maxRecDepth 20000 in
theorem wX13_shape_88 (hZ : zO b e D A X) : rx_OK (zV b e D A X) mX13_shape 7 88 vX13_shape_88 := by
  unfold vX13_shape_88
  refine s_ldcwS (k := 146) (zo_R146 hZ) dX13_shape_88 ?_
  exact (wX13_shape_91 hZ)
noncomputable def vX13_shape_82 : rx_K := o_const 1012 (vX13_shape_91)
set_option maxRecDepth 20000 in
theorem wX13_shape_82 (hZ : zO b e D A X) : rx_OK (zV b e D A X) mX13_shape 7 82 vX13_shape_82 := by
  unfold vX13_shape_82
  refine s_ldcwS (k := 126) (zo_R126 hZ) dX13_shape_82 ?_
  exact s_goto dX13_shape_85 (by decide) (wX13_shape_91 hZ)
noncomputable def vX13_shape_71 : rx_K := o_ld rx_isR 0 (o_ld rx_isR 0 (o_getf 13 26 (o_ld rx_isI 5 (o_ald 3 (o_c1 rx_eq vX13_shape_88 vX13_shape_82)))))
set_option maxRecDepth 20000 in
theorem wX13_shape_71 (hZ : zO b e D A X) : rx_OK (zV b e D A X) mX13_shape 7 71 vX13_shape_71 := by
  unfold vX13_shape_71
  refine s_aload_n hZ.1 dX13_shape_71 rfl ?_
  refine s_aload_n hZ.1 dX13_shape_72 rfl ?_
  refine yg13_26 dX13_shape_73 zw4147 ?_
  refine s_iload hZ.1 dX13_shape_76 ?_
  refine s_zald (tt := 3) rfl dX13_shape_78 ?_
  exact s_if_eq dX13_shape_79 (by decide) (wX13_shape_88 hZ) (wX13_shape_82 hZ)
noncomputable def vX13_shape_59 : rx_K := o_ld rx_isR 0 (o_const 0 (o_putf rx_isI 13 3 (o_ld rx_isI 4 (o_const 34359738352 (o_c2 rx_eq vX13_shape_71 vX13_shape_296)))))
set_option maxRecDepth 20000 in
theorem wX13_shape_59 (hZ : zO b e D A X) : rx_OK (zV b e D A X) mX13_shape 7 59 vX13_shape_59 := by
  unfold vX13_shape_59
  refine s_aload_n hZ.1 dX13_shape_59 rfl ?_
  refine s_iconst dX13_shape_60 (by decide +kernel) ?_
  refine yp13_3 hZ.1 dX13_shape_61 zw4124 ?_
  refine s_iload hZ.1 dX13_shape_64 ?_
  refine s_bipush dX13_shape_66 (by decide +kernel) ?_
  exact s_icmp_ne dX13_shape_68 (by decide) (wX13_shape_296 hZ) (wX13_shape_71 hZ)
noncomputable def vX13_shape_57 : rx_K := o_const 34359738360 (o_ret1 rx_isI)
set_option maxRecDepth 20000 in
theorem wX13_shape_57 (hZ : zO b e D A X) : rx_OK (zV b e D A X) mX13_shape 7 57 vX13_shape_57 := by
  unfold vX13_shape_57
  refine s_iconst dX13_shape_57 (by decide +kernel) ?_
  exact s_iret hZ.1 rfl dX13_shape_58
noncomputable def vX13_shape_50 : rx_K := o_ld rx_isI 6 (o_const 34359738352 (o_c2 rx_eq vX13_shape_57 vX13_shape_59))
set_option maxRecDepth 20000 in
theorem wX13_shape_50 (hZ : zO b e D A X) : rx_OK (zV b e D A X) mX13_shape 7 50 vX13_shape_50 := by
  unfold vX13_shape_50
  refine s_iload hZ.1 dX13_shape_50 ?_
  refine s_bipush dX13_shape_52 (by decide +kernel) ?_
  exact s_icmp_ne dX13_shape_54 (by decide) (wX13_shape_59 hZ) (wX13_shape_57 hZ)
noncomputable def vX13_shape_43 : rx_K := o_ld rx_isI 4 (o_const 34359738352 (o_c2 rx_eq vX13_shape_59 vX13_shape_50))
set_option maxRecDepth 20000 in
theorem wX13_shape_43 (hZ : zO b e D A X) : rx_OK (zV b e D A X) mX13_shape 7 43 vX13_shape_43 := by
  unfold vX13_shape_43
  refine s_iload hZ.1 dX13_shape_43 ?_
  refine s_bipush dX13_shape_45 (by decide +kernel) ?_
  exact s_icmp_eq dX13_shape_47 (by decide) (wX13_shape_59 hZ) (wX13_shape_50 hZ)
noncomputable def vX13_shape_34 : rx_K := o_st rx_isI 6 (o_ld rx_isI 5 (o_const 34359738352 (o_c2 rx_eq vX13_shape_57 vX13_shape_43)))
set_option maxRecDepth 20000 in
theorem wX13_shape_34 (hZ : zO b e D A X) : rx_OK (zV b e D A X) mX13_shape 7 34 vX13_shape_34 := by
  unfold vX13_shape_34
  refine s_istore hZ.1 dX13_shape_34 (Nat.le_of_ble_eq_true rfl) ?_
  refine s_iload hZ.1 dX13_shape_36 ?_
  refine s_bipush dX13_shape_38 (by decide +kernel) ?_
  exact s_icmp_eq dX13_shape_40 (by decide) (wX13_shape_57 hZ) (wX13_shape_43 hZ)
noncomputable def vX13_shape_26 : rx_K := o_ld rx_isR 0 (o_ld rx_isI 5 (o_ld rx_isI 4 (o_callV 2 13 FX13_memberAt (vX13_shape_34))))
set_option maxRecDepth 20000 in
theorem wX13_shape_26 (hZ : zO b e D A X) : rx_OK (zV b e D A X) mX13_shape 7 26 vX13_shape_26 := by
  unfold vX13_shape_26
  refine s_aload_n hZ.1 dX13_shape_26 rfl ?_
  refine s_iload hZ.1 dX13_shape_27 ?_
  refine s_iload hZ.1 dX13_shape_29 ?_
  refine s_callV hZ.1 (Met_X13_memberAt hZ) (Nat.le_of_ble_eq_true rfl) vy_X13_memberAt zcl13 zw3638 zw325 (Or.inl zw3636) dX13_shape_31 ?_
  exact (wX13_shape_34 hZ)
noncomputable def vX13_shape_21 : rx_K := o_const 34359738352 (vX13_shape_34)
set_option maxRecDepth 20000 in
theorem wX13_shape_21 (hZ : zO b e D A X) : rx_OK (zV b e D A X) mX13_shape 7 21 vX13_shape_21 := by
  unfold vX13_shape_21
  refine s_bipush dX13_shape_21 (by decide +kernel) ?_
  exact s_goto dX13_shape_23 (by decide) (wX13_shape_34 hZ)
noncomputable def vX13_shape_16 : rx_K := o_ld rx_isI 4 (o_c1 rx_lt vX13_shape_21 vX13_shape_26)
set_option maxRecDepth 20000 in
theorem wX13_shape_16 (hZ : zO b e D A X) : rx_OK (zV b e D A X) mX13_shape 7 16 vX13_shape_16 := by
  unfold vX13_shape_16
  refine s_iload hZ.1 dX13_shape_16 ?_
  exact s_if_ge dX13_shape_18 (by decide) (wX13_shape_26 hZ) (wX13_shape_21 hZ)
noncomputable def vX13_shape_0 : rx_K := o_ld rx_isR 0 (o_ld rx_isI 1 (o_ld rx_isI 2 (o_ld rx_isI 3 (o_callV 3 13 FX13_classAt (o_st rx_isI 5 (o_ld rx_isI 5 (o_const 34359738352 (o_c2 rx_eq vX13_shape_21 vX13_shape_16))))))))
set_option maxRecDepth 20000 in
theorem wX13_shape_0 (hZ : zO b e D A X) : rx_OK (zV b e D A X) mX13_shape 7 0 vX13_shape_0 := by
  unfold vX13_shape_0
  refine s_aload_n hZ.1 dX13_shape_0 rfl ?_
  refine s_iload_n hZ.1 dX13_shape_1 rfl ?_
  refine s_iload_n hZ.1 dX13_shape_2 rfl ?_
  refine s_iload_n hZ.1 dX13_shape_3 rfl ?_
  refine s_callV hZ.1 (Met_X13_classAt hZ) (Nat.le_of_ble_eq_true rfl) vy_X13_classAt zcl13 zw3626 zw323 (Or.inl zw3624) dX13_shape_4 ?_
  refine s_istore hZ.1 dX13_shape_7 (Nat.le_of_ble_eq_true rfl) ?_
  refine s_iload hZ.1 dX13_shape_9 ?_
  refine s_bipush dX13_shape_11 (by decide +kernel) ?_
  exact s_icmp_eq dX13_shape_13 (by decide) (wX13_shape_21 hZ) (wX13_shape_16 hZ)
noncomputable def FX13_shape : List Nat → rx_H → Option (Nat × rx_H) := rx_ent 7 vX13_shape_0
theorem Met_X13_shape (hZ : zO b e D A X) : rx_Met (zV b e D A X) 7 yX13_shape mX13_shape (FX13_shape) := rx_entry hZ.1 (wX13_shape_0 hZ) (by decide +kernel) rfl (fun h => by cases h)
abbrev mX13_uses : rx_M := (RX13, cX13_uses, 4, (some .int), false)
theorem vy_X13_uses : rx_Y (zV b e D A X) yX13_uses mX13_uses 2 := ⟨zw3693, zw431, by decide, by decide +kernel, by decide +kernel, by decide +kernel⟩
noncomputable def vX13_uses_23 : rx_K := o_ret1 rx_isI
set_option maxRecDepth 20000 in
theorem wX13_uses_23 (hZ : zO b e D A X) : rx_OK (zV b e D A X) mX13_uses 2 23 vX13_uses_23 := by
  unfold vX13_uses_23
  exact s_iret hZ.1 rfl dX13_uses_23
noncomputable def vX13_uses_17 : rx_K := o_ld rx_isR 0 (o_getf 13 118 (o_ld rx_isI 3 (o_ald 0 (vX13_uses_23))))
set_option maxRecDepth 20000 in
theorem wX13_uses_17 (hZ : zO b e D A X) : rx_OK (zV b e D A X) mX13_uses 2 17 vX13_uses_17 := by
  unfold vX13_uses_17
  refine s_aload_n hZ.1 dX13_uses_17 rfl ?_
  refine yg13_118 dX13_uses_18 zw4238 ?_
  refine s_iload_n hZ.1 dX13_uses_21 rfl ?_
  refine s_iald (tt := 0) rfl dX13_uses_22 ?_
  exact (wX13_uses_23 hZ)
noncomputable def vX13_uses_13 : rx_K := o_const 34359738360 (vX13_uses_23)
set_option maxRecDepth 20000 in
theorem wX13_uses_13 (hZ : zO b e D A X) : rx_OK (zV b e D A X) mX13_uses 2 13 vX13_uses_13 := by
  unfold vX13_uses_13
  refine s_iconst dX13_uses_13 (by decide +kernel) ?_
  exact s_goto dX13_uses_14 (by decide) (wX13_uses_23 hZ)
noncomputable def vX13_uses_0 : rx_K := o_ld rx_isR 0 (o_ld rx_isI 1 (o_ld rx_isI 2 (o_callV 2 13 FX13_slotAt (o_st rx_isI 3 (o_ld rx_isI 3 (o_const 34359738352 (o_c2 rx_eq vX13_uses_13 vX13_uses_17)))))))
set_option maxRecDepth 20000 in
theorem wX13_uses_0 (hZ : zO b e D A X) : rx_OK (zV b e D A X) mX13_uses 2 0 vX13_uses_0 := by
  unfold vX13_uses_0
  refine s_aload_n hZ.1 dX13_uses_0 rfl ?_
  refine s_iload_n hZ.1 dX13_uses_1 rfl ?_
  refine s_iload_n hZ.1 dX13_uses_2 rfl ?_
  refine s_callV hZ.1 (Met_X13_slotAt hZ) (Nat.le_of_ble_eq_true rfl) vy_X13_slotAt zcl13 zw3585 zw317 (Or.inl zw3583) dX13_uses_3 ?_
  refine s_istore_n hZ.1 dX13_uses_6 rfl (Nat.le_of_ble_eq_true rfl) ?_
  refine s_iload_n hZ.1 dX13_uses_7 rfl ?_
  refine s_bipush dX13_uses_8 (by decide +kernel) ?_
  exact s_icmp_ne dX13_uses_10 (by decide) (wX13_uses_17 hZ) (wX13_uses_13 hZ)
noncomputable def FX13_uses : List Nat → rx_H → Option (Nat × rx_H) := rx_ent 4 vX13_uses_0
theorem Met_X13_uses (hZ : zO b e D A X) : rx_Met (zV b e D A X) 2 yX13_uses mX13_uses (FX13_uses) := rx_entry hZ.1 (wX13_uses_0 hZ) (by decide +kernel) rfl (fun h => by cases h)
abbrev mX13_useAt : rx_M := (RX13, cX13_useAt, 5, (some .int), false)
theorem vy_X13_useAt : rx_Y (zV b e D A X) yX13_useAt mX13_useAt 3 := ⟨zw3701, zw431, by decide, by decide +kernel, by decide +kernel, by decide +kernel⟩
noncomputable def vX13_useAt_43 : rx_K := o_ret1 rx_isI
set_option maxRecDepth 20000 in
theorem wX13_useAt_43 (hZ : zO b e D A X) : rx_OK (zV b e D A X) mX13_useAt 2 43 vX13_useAt_43 := by
  unfold vX13_useAt_43
  exact s_iret hZ.1 rfl dX13_useAt_43
noncomputable def vX13_useAt_35 : rx_K := o_ld rx_isI 4 (o_const 14400 (o_bi (fun x y => x * y) (o_ld rx_isI 3 (o_bi (fun x y => x + y) (vX13_useAt_43)))))
set_option maxRecDepth 20000 in
theorem wX13_useAt_35 (hZ : zO b e D A X) : rx_OK (zV b e D A X) mX13_useAt 2 35 vX13_useAt_35 := by
  unfold vX13_useAt_35
  refine s_iload hZ.1 dX13_useAt_35 ?_
  refine s_sipush dX13_useAt_37 (by decide +kernel) ?_
  refine s_imul dX13_useAt_40 ?_
  refine s_iload_n hZ.1 dX13_useAt_41 rfl ?_
  refine s_iadd dX13_useAt_42 ?_
  exact (wX13_useAt_43 hZ)
noncomputable def vX13_useAt_30 : rx_K := o_const 34359738352 (vX13_useAt_43)
set_option maxRecDepth 20000 in
theorem wX13_useAt_30 (hZ : zO b e D A X) : rx_OK (zV b e D A X) mX13_useAt 2 30 vX13_useAt_30 := by
  unfold vX13_useAt_30
  refine s_bipush dX13_useAt_30 (by decide +kernel) ?_
  exact s_goto dX13_useAt_32 (by decide) (wX13_useAt_43 hZ)
noncomputable def vX13_useAt_19 : rx_K := o_ld rx_isI 3 (o_ld rx_isR 0 (o_getf 13 118 (o_ld rx_isI 4 (o_ald 0 (o_c2 rx_lt vX13_useAt_35 vX13_useAt_30)))))
set_option maxRecDepth 20000 in
theorem wX13_useAt_19 (hZ : zO b e D A X) : rx_OK (zV b e D A X) mX13_useAt 2 19 vX13_useAt_19 := by
  unfold vX13_useAt_19
  refine s_iload_n hZ.1 dX13_useAt_19 rfl ?_
  refine s_aload_n hZ.1 dX13_useAt_20 rfl ?_
  refine yg13_118 dX13_useAt_21 zw4238 ?_
  refine s_iload hZ.1 dX13_useAt_24 ?_
  refine s_iald (tt := 0) rfl dX13_useAt_26 ?_
  exact s_icmp_lt dX13_useAt_27 (by decide) (wX13_useAt_35 hZ) (wX13_useAt_30 hZ)
noncomputable def vX13_useAt_15 : rx_K := o_ld rx_isI 3 (o_c1 rx_lt vX13_useAt_30 vX13_useAt_19)
set_option maxRecDepth 20000 in
theorem wX13_useAt_15 (hZ : zO b e D A X) : rx_OK (zV b e D A X) mX13_useAt 2 15 vX13_useAt_15 := by
  unfold vX13_useAt_15
  refine s_iload_n hZ.1 dX13_useAt_15 rfl ?_
  exact s_if_lt dX13_useAt_16 (by decide) (wX13_useAt_30 hZ) (wX13_useAt_19 hZ)
noncomputable def vX13_useAt_0 : rx_K := o_ld rx_isR 0 (o_ld rx_isI 1 (o_ld rx_isI 2 (o_callV 2 13 FX13_slotAt (o_st rx_isI 4 (o_ld rx_isI 4 (o_const 34359738352 (o_c2 rx_eq vX13_useAt_30 vX13_useAt_15)))))))
set_option maxRecDepth 20000 in
theorem wX13_useAt_0 (hZ : zO b e D A X) : rx_OK (zV b e D A X) mX13_useAt 2 0 vX13_useAt_0 := by
  unfold vX13_useAt_0
  refine s_aload_n hZ.1 dX13_useAt_0 rfl ?_
  refine s_iload_n hZ.1 dX13_useAt_1 rfl ?_
  refine s_iload_n hZ.1 dX13_useAt_2 rfl ?_
  refine s_callV hZ.1 (Met_X13_slotAt hZ) (Nat.le_of_ble_eq_true rfl) vy_X13_slotAt zcl13 zw3585 zw317 (Or.inl zw3583) dX13_useAt_3 ?_
  refine s_istore hZ.1 dX13_useAt_6 (Nat.le_of_ble_eq_true rfl) ?_
  refine s_iload hZ.1 dX13_useAt_8 ?_
  refine s_bipush dX13_useAt_10 (by decide +kernel) ?_
  exact s_icmp_eq dX13_useAt_12 (by decide) (wX13_useAt_30 hZ) (wX13_useAt_15 hZ)
noncomputable def FX13_useAt : List Nat → rx_H → Option (Nat × rx_H) := rx_ent 5 vX13_useAt_0
theorem Met_X13_useAt (hZ : zO b e D A X) : rx_Met (zV b e D A X) 2 yX13_useAt mX13_useAt (FX13_useAt) := rx_entry hZ.1 (wX13_useAt_0 hZ) (by decide +kernel) rfl (fun h => by cases h)
abbrev mX13_use : rx_M := (RX13, cX13_use, 6, (some .int), false)
theorem vy_X13_use : rx_Y (zV b e D A X) yX13_use mX13_use 4 := ⟨zw3697, zw431, by decide, by decide +kernel, by decide +kernel, by decide +kernel⟩
noncomputable def vX13_use_56 : rx_K := o_ret1 rx_isI
set_option maxRecDepth 20000 in
theorem wX13_use_56 (hZ : zO b e D A X) : rx_OK (zV b e D A X) mX13_use 3 56 vX13_use_56 := by
  unfold vX13_use_56
  exact s_iret hZ.1 rfl dX13_use_56
noncomputable def vX13_use_46 : rx_K := o_ld rx_isR 0 (o_getf 13 120 (o_ld rx_isI 5 (o_ald 0 (o_const 96 (o_bin (fun x y => x - x / y * y) (vX13_use_56))))))
set_option maxRecDepth 20000 in
theorem wX13_use_46 (hZ : zO b e D A X) : rx_OK (zV b e D A X) mX13_use 3 46 vX13_use_46 := by
  unfold vX13_use_46
  refine s_aload_n hZ.1 dX13_use_46 rfl ?_
  refine yg13_120 dX13_use_47 zw4240 ?_
  refine s_iload hZ.1 dX13_use_50 ?_
  refine s_iald (tt := 0) rfl dX13_use_52 ?_
  refine s_bipush dX13_use_53 (by decide +kernel) ?_
  refine s_irem dX13_use_55 ?_
  exact (wX13_use_56 hZ)
noncomputable def vX13_use_36 : rx_K := o_ld rx_isR 0 (o_getf 13 119 (o_ld rx_isI 5 (o_ald 0 (vX13_use_56))))
set_option maxRecDepth 20000 in
theorem wX13_use_36 (hZ : zO b e D A X) : rx_OK (zV b e D A X) mX13_use 3 36 vX13_use_36 := by
  unfold vX13_use_36
  refine s_aload_n hZ.1 dX13_use_36 rfl ?_
  refine yg13_119 dX13_use_37 zw4239 ?_
  refine s_iload hZ.1 dX13_use_40 ?_
  refine s_iald (tt := 0) rfl dX13_use_42 ?_
  exact s_goto dX13_use_43 (by decide) (wX13_use_56 hZ)
noncomputable def vX13_use_31 : rx_K := o_ld rx_isI 4 (o_c1 rx_eq vX13_use_36 vX13_use_46)
set_option maxRecDepth 20000 in
theorem wX13_use_31 (hZ : zO b e D A X) : rx_OK (zV b e D A X) mX13_use 3 31 vX13_use_31 := by
  unfold vX13_use_31
  refine s_iload hZ.1 dX13_use_31 ?_
  exact s_if_ne dX13_use_33 (by decide) (wX13_use_46 hZ) (wX13_use_36 hZ)
noncomputable def vX13_use_27 : rx_K := o_const 34359738360 (vX13_use_56)
set_option maxRecDepth 20000 in
theorem wX13_use_27 (hZ : zO b e D A X) : rx_OK (zV b e D A X) mX13_use 3 27 vX13_use_27 := by
  unfold vX13_use_27
  refine s_iconst dX13_use_27 (by decide +kernel) ?_
  exact s_goto dX13_use_28 (by decide) (wX13_use_56 hZ)
noncomputable def vX13_use_21 : rx_K := o_ld rx_isI 4 (o_const 8 (o_c2 (fun h x y => rx_lt h y x) vX13_use_27 vX13_use_31))
set_option maxRecDepth 20000 in
theorem wX13_use_21 (hZ : zO b e D A X) : rx_OK (zV b e D A X) mX13_use 3 21 vX13_use_21 := by
  unfold vX13_use_21
  refine s_iload hZ.1 dX13_use_21 ?_
  refine s_iconst dX13_use_23 (by decide +kernel) ?_
  exact s_icmp_le dX13_use_24 (by decide) (wX13_use_31 hZ) (wX13_use_27 hZ)
noncomputable def vX13_use_16 : rx_K := o_ld rx_isI 4 (o_c1 rx_lt vX13_use_27 vX13_use_21)
set_option maxRecDepth 20000 in
theorem wX13_use_16 (hZ : zO b e D A X) : rx_OK (zV b e D A X) mX13_use 3 16 vX13_use_16 := by
  unfold vX13_use_16
  refine s_iload hZ.1 dX13_use_16 ?_
  exact s_if_lt dX13_use_18 (by decide) (wX13_use_27 hZ) (wX13_use_21 hZ)
noncomputable def vX13_use_0 : rx_K := o_ld rx_isR 0 (o_ld rx_isI 1 (o_ld rx_isI 2 (o_ld rx_isI 3 (o_callV 3 13 FX13_useAt (o_st rx_isI 5 (o_ld rx_isI 5 (o_const 34359738352 (o_c2 rx_eq vX13_use_27 vX13_use_16))))))))
set_option maxRecDepth 20000 in
theorem wX13_use_0 (hZ : zO b e D A X) : rx_OK (zV b e D A X) mX13_use 3 0 vX13_use_0 := by
  unfold vX13_use_0
  refine s_aload_n hZ.1 dX13_use_0 rfl ?_
  refine s_iload_n hZ.1 dX13_use_1 rfl ?_
  refine s_iload_n hZ.1 dX13_use_2 rfl ?_
  refine s_iload_n hZ.1 dX13_use_3 rfl ?_
  refine s_callV hZ.1 (Met_X13_useAt hZ) (Nat.le_of_ble_eq_true rfl) vy_X13_useAt zcl13 zw3700 zw333 (Or.inl zw3698) dX13_use_4 ?_
  refine s_istore hZ.1 dX13_use_7 (Nat.le_of_ble_eq_true rfl) ?_
  refine s_iload hZ.1 dX13_use_9 ?_
  refine s_bipush dX13_use_11 (by decide +kernel) ?_
  exact s_icmp_eq dX13_use_13 (by decide) (wX13_use_27 hZ) (wX13_use_16 hZ)
noncomputable def FX13_use : List Nat → rx_H → Option (Nat × rx_H) := rx_ent 6 vX13_use_0
theorem Met_X13_use (hZ : zO b e D A X) : rx_Met (zV b e D A X) 3 yX13_use mX13_use (FX13_use) := rx_entry hZ.1 (wX13_use_0 hZ) (by decide +kernel) rfl (fun h => by cases h)
abbrev mX13_outMember : rx_M := (RX13, cX13_outMember, 4, none, false)
theorem vy_X13_outMember : rx_Y (zV b e D A X) yX13_outMember mX13_outMember 2 := ⟨zw3709, zw431, by decide, by decide +kernel, by decide +kernel, by decide +kernel⟩
noncomputable def vX13_outMember_125 (j : Nat → rx_K) : rx_K := o_ret0
set_option maxRecDepth 20000 in
theorem wX13_outMember_125 (hZ : zO b e D A X) (j : Nat → rx_K) (hj : ∀ k pc, [64][k]? = some pc → rx_OK (zV b e D A X) mX13_outMember 6 pc (j k)) : rx_OK (zV b e D A X) mX13_outMember 6 125 (vX13_outMember_125 j) := by
  unfold vX13_outMember_125
  exact s_vret rfl dX13_outMember_125
noncomputable def vX13_outMember_115 (j : Nat → rx_K) : rx_K := o_ld rx_isR 0 (o_ld rx_isR 0 (o_getf 13 123 (o_ld rx_isI 1 (o_ald 1 (o_callV 1 13 FX13_outType ((vX13_outMember_125 j)))))))
set_option maxRecDepth 20000 in
theorem wX13_outMember_115 (hZ : zO b e D A X) (j : Nat → rx_K) (hj : ∀ k pc, [64][k]? = some pc → rx_OK (zV b e D A X) mX13_outMember 6 pc (j k)) : rx_OK (zV b e D A X) mX13_outMember 6 115 (vX13_outMember_115 j) := by
  unfold vX13_outMember_115
  refine s_aload_n hZ.1 dX13_outMember_115 rfl ?_
  refine s_aload_n hZ.1 dX13_outMember_116 rfl ?_
  refine yg13_123 dX13_outMember_117 zw4243 ?_
  refine s_iload_n hZ.1 dX13_outMember_120 rfl ?_
  refine s_lald (tt := 1) rfl dX13_outMember_121 ?_
  refine s_callV hZ.1 (Met_X13_outType hZ) (Nat.le_of_ble_eq_true rfl) vy_X13_outType zcl13 zw3679 zw330 (Or.inl zw3677) dX13_outMember_122 ?_
  exact (wX13_outMember_125 hZ j hj)
noncomputable def vX13_outMember_104 (j : Nat → rx_K) : rx_K := o_ld rx_isR 0 (o_const 328 (o_callV 1 13 FX13_outByte (o_ld rx_isI 2 (o_const 16 (o_c2 rx_eq (vX13_outMember_125 j) (vX13_outMember_115 j))))))
set_option maxRecDepth 20000 in
theorem wX13_outMember_104 (hZ : zO b e D A X) (j : Nat → rx_K) (hj : ∀ k pc, [64][k]? = some pc → rx_OK (zV b e D A X) mX13_outMember 6 pc (j k)) : rx_OK (zV b e D A X) mX13_outMember 6 104 (vX13_outMember_104 j) := by
  unfold vX13_outMember_104
  refine s_aload_n hZ.1 dX13_outMember_104 rfl ?_
  refine s_bipush dX13_outMember_105 (by decide +kernel) ?_
  refine s_callV hZ.1 (Met_X13_outByte hZ) (Nat.le_of_ble_eq_true rfl) vy_X13_outByte zcl13 zw3648 zw327 (Or.inl zw3646) dX13_outMember_107 ?_
  refine s_iload_n hZ.1 dX13_outMember_110 rfl ?_
  refine s_iconst dX13_outMember_111 (by decide +kernel) ?_
  exact s_icmp_eq dX13_outMember_112 (by decide) (wX13_outMember_125 hZ j hj) (wX13_outMember_115 hZ j hj)
noncomputable def vX13_outMember_84 (j : Nat → rx_K) : rx_K := o_ld rx_isR 0 (o_ld rx_isR 0 (o_getf 13 125 (o_const 32 (o_ld rx_isI 1 (o_bi (fun x y => x * y) (o_ld rx_isI 3 (o_bi (fun x y => x + y) (o_ald 1 (o_callV 1 13 FX13_outType (o_inc 3 (1) ((j 0))))))))))))
set_option maxRecDepth 20000 in
theorem wX13_outMember_84 (hZ : zO b e D A X) (j : Nat → rx_K) (hj : ∀ k pc, [64][k]? = some pc → rx_OK (zV b e D A X) mX13_outMember 6 pc (j k)) : rx_OK (zV b e D A X) mX13_outMember 6 84 (vX13_outMember_84 j) := by
  unfold vX13_outMember_84
  refine s_aload_n hZ.1 dX13_outMember_84 rfl ?_
  refine s_aload_n hZ.1 dX13_outMember_85 rfl ?_
  refine yg13_125 dX13_outMember_86 zw4245 ?_
  refine s_iconst dX13_outMember_89 (by decide +kernel) ?_
  refine s_iload_n hZ.1 dX13_outMember_90 rfl ?_
  refine s_imul dX13_outMember_91 ?_
  refine s_iload_n hZ.1 dX13_outMember_92 rfl ?_
  refine s_iadd dX13_outMember_93 ?_
  refine s_lald (tt := 1) rfl dX13_outMember_94 ?_
  refine s_callV hZ.1 (Met_X13_outType hZ) (Nat.le_of_ble_eq_true rfl) vy_X13_outType zcl13 zw3679 zw330 (Or.inl zw3677) dX13_outMember_95 ?_
  refine s_iinc hZ.1 dX13_outMember_98 (Nat.le_of_ble_eq_true rfl) ?_
  exact s_goto dX13_outMember_101 (by decide) (hj 0 64 rfl)
noncomputable def vX13_outMember_78 (j : Nat → rx_K) : rx_K := o_ld rx_isR 0 (o_const 352 (o_callV 1 13 FX13_outByte ((vX13_outMember_84 j))))
set_option maxRecDepth 20000 in
theorem wX13_outMember_78 (hZ : zO b e D A X) (j : Nat → rx_K) (hj : ∀ k pc, [64][k]? = some pc → rx_OK (zV b e D A X) mX13_outMember 6 pc (j k)) : rx_OK (zV b e D A X) mX13_outMember 6 78 (vX13_outMember_78 j) := by
  unfold vX13_outMember_78
  refine s_aload_n hZ.1 dX13_outMember_78 rfl ?_
  refine s_bipush dX13_outMember_79 (by decide +kernel) ?_
  refine s_callV hZ.1 (Met_X13_outByte hZ) (Nat.le_of_ble_eq_true rfl) vy_X13_outByte zcl13 zw3648 zw327 (Or.inl zw3646) dX13_outMember_81 ?_
  exact (wX13_outMember_84 hZ j hj)
noncomputable def vX13_outMember_74 (j : Nat → rx_K) : rx_K := o_ld rx_isI 3 (o_c1 (fun h x y => rx_lt h y x) (vX13_outMember_78 j) (vX13_outMember_84 j))
set_option maxRecDepth 20000 in
theorem wX13_outMember_74 (hZ : zO b e D A X) (j : Nat → rx_K) (hj : ∀ k pc, [64][k]? = some pc → rx_OK (zV b e D A X) mX13_outMember 6 pc (j k)) : rx_OK (zV b e D A X) mX13_outMember 6 74 (vX13_outMember_74 j) := by
  unfold vX13_outMember_74
  refine s_iload_n hZ.1 dX13_outMember_74 rfl ?_
  exact s_if_le dX13_outMember_75 (by decide) (wX13_outMember_84 hZ j hj) (wX13_outMember_78 hZ j hj)
noncomputable def vX13_outMember_64 (j : Nat → rx_K) : rx_K := o_ld rx_isI 3 (o_ld rx_isR 0 (o_getf 13 124 (o_ld rx_isI 1 (o_ald 0 (o_c2 rx_lt (vX13_outMember_74 j) (vX13_outMember_104 j))))))
set_option maxRecDepth 20000 in
theorem wX13_outMember_64 (hZ : zO b e D A X) (j : Nat → rx_K) (hj : ∀ k pc, [64][k]? = some pc → rx_OK (zV b e D A X) mX13_outMember 6 pc (j k)) : rx_OK (zV b e D A X) mX13_outMember 6 64 (vX13_outMember_64 j) := by
  unfold vX13_outMember_64
  refine s_iload_n hZ.1 dX13_outMember_64 rfl ?_
  refine s_aload_n hZ.1 dX13_outMember_65 rfl ?_
  refine yg13_124 dX13_outMember_66 zw4244 ?_
  refine s_iload_n hZ.1 dX13_outMember_69 rfl ?_
  refine s_iald (tt := 0) rfl dX13_outMember_70 ?_
  exact s_icmp_ge dX13_outMember_71 (by decide) (wX13_outMember_104 hZ j hj) (wX13_outMember_74 hZ j hj)
noncomputable def vX13_outMember_56 (j : Nat → rx_K) : rx_K := o_ld rx_isR 0 (o_const 320 (o_callV 1 13 FX13_outByte (o_const 0 (o_st rx_isI 3 ((vX13_outMember_64 j))))))
set_option maxRecDepth 20000 in
theorem wX13_outMember_56 (hZ : zO b e D A X) (j : Nat → rx_K) (hj : ∀ k pc, [64][k]? = some pc → rx_OK (zV b e D A X) mX13_outMember 6 pc (j k)) : rx_OK (zV b e D A X) mX13_outMember 6 56 (vX13_outMember_56 j) := by
  unfold vX13_outMember_56
  refine s_aload_n hZ.1 dX13_outMember_56 rfl ?_
  refine s_bipush dX13_outMember_57 (by decide +kernel) ?_
  refine s_callV hZ.1 (Met_X13_outByte hZ) (Nat.le_of_ble_eq_true rfl) vy_X13_outByte zcl13 zw3648 zw327 (Or.inl zw3646) dX13_outMember_59 ?_
  refine s_iconst dX13_outMember_62 (by decide +kernel) ?_
  refine s_istore_n hZ.1 dX13_outMember_63 rfl (Nat.le_of_ble_eq_true rfl) ?_
  exact (wX13_outMember_64 hZ j hj)
noncomputable def vX13_outMember_37 (j : Nat → rx_K) : rx_K := o_ld rx_isR 0 (o_const 464 (o_callV 1 13 FX13_outByte (o_ld rx_isR 0 (o_ld rx_isR 0 (o_getf 13 123 (o_ld rx_isI 1 (o_ald 1 (o_callV 1 13 FX13_outType ((vX13_outMember_125 j))))))))))
set_option maxRecDepth 20000 in
theorem wX13_outMember_37 (hZ : zO b e D A X) (j : Nat → rx_K) (hj : ∀ k pc, [64][k]? = some pc → rx_OK (zV b e D A X) mX13_outMember 6 pc (j k)) : rx_OK (zV b e D A X) mX13_outMember 6 37 (vX13_outMember_37 j) := by
  unfold vX13_outMember_37
  refine s_aload_n hZ.1 dX13_outMember_37 rfl ?_
  refine s_bipush dX13_outMember_38 (by decide +kernel) ?_
  refine s_callV hZ.1 (Met_X13_outByte hZ) (Nat.le_of_ble_eq_true rfl) vy_X13_outByte zcl13 zw3648 zw327 (Or.inl zw3646) dX13_outMember_40 ?_
  refine s_aload_n hZ.1 dX13_outMember_43 rfl ?_
  refine s_aload_n hZ.1 dX13_outMember_44 rfl ?_
  refine yg13_123 dX13_outMember_45 zw4243 ?_
  refine s_iload_n hZ.1 dX13_outMember_48 rfl ?_
  refine s_lald (tt := 1) rfl dX13_outMember_49 ?_
  refine s_callV hZ.1 (Met_X13_outType hZ) (Nat.le_of_ble_eq_true rfl) vy_X13_outType zcl13 zw3679 zw330 (Or.inl zw3677) dX13_outMember_50 ?_
  exact s_goto dX13_outMember_53 (by decide) (wX13_outMember_125 hZ j hj)
noncomputable def vX13_outMember_31 (j : Nat → rx_K) : rx_K := o_ld rx_isI 2 (o_const 48 (o_c2 (fun h x y => rx_lt h y x) (vX13_outMember_56 j) (vX13_outMember_37 j)))
set_option maxRecDepth 20000 in
theorem wX13_outMember_31 (hZ : zO b e D A X) (j : Nat → rx_K) (hj : ∀ k pc, [64][k]? = some pc → rx_OK (zV b e D A X) mX13_outMember 6 pc (j k)) : rx_OK (zV b e D A X) mX13_outMember 6 31 (vX13_outMember_31 j) := by
  unfold vX13_outMember_31
  refine s_iload_n hZ.1 dX13_outMember_31 rfl ?_
  refine s_bipush dX13_outMember_32 (by decide +kernel) ?_
  exact s_icmp_gt dX13_outMember_34 (by decide) (wX13_outMember_56 hZ j hj) (wX13_outMember_37 hZ j hj)
noncomputable def vX13_outMember_26 (j : Nat → rx_K) : rx_K := o_ld rx_isI 2 (o_const 24 (o_c2 rx_lt (vX13_outMember_56 j) (vX13_outMember_31 j)))
set_option maxRecDepth 20000 in
theorem wX13_outMember_26 (hZ : zO b e D A X) (j : Nat → rx_K) (hj : ∀ k pc, [64][k]? = some pc → rx_OK (zV b e D A X) mX13_outMember 6 pc (j k)) : rx_OK (zV b e D A X) mX13_outMember 6 26 (vX13_outMember_26 j) := by
  unfold vX13_outMember_26
  refine s_iload_n hZ.1 dX13_outMember_26 rfl ?_
  refine s_iconst dX13_outMember_27 (by decide +kernel) ?_
  exact s_icmp_lt dX13_outMember_28 (by decide) (wX13_outMember_56 hZ j hj) (wX13_outMember_31 hZ j hj)
noncomputable def vX13_outMember_6 (j : Nat → rx_K) : rx_K := o_ld rx_isR 0 (o_const 488 (o_callV 1 13 FX13_outByte (o_ld rx_isR 0 (o_ld rx_isR 0 (o_getf 13 127 (o_ld rx_isI 1 (o_ald 0 (o_il (fun x => x.toInt64) (o_callV 1 13 FX13_outInt ((vX13_outMember_125 j)))))))))))
set_option maxRecDepth 20000 in
theorem wX13_outMember_6 (hZ : zO b e D A X) (j : Nat → rx_K) (hj : ∀ k pc, [64][k]? = some pc → rx_OK (zV b e D A X) mX13_outMember 6 pc (j k)) : rx_OK (zV b e D A X) mX13_outMember 6 6 (vX13_outMember_6 j) := by
  unfold vX13_outMember_6
  refine s_aload_n hZ.1 dX13_outMember_6 rfl ?_
  refine s_bipush dX13_outMember_7 (by decide +kernel) ?_
  refine s_callV hZ.1 (Met_X13_outByte hZ) (Nat.le_of_ble_eq_true rfl) vy_X13_outByte zcl13 zw3648 zw327 (Or.inl zw3646) dX13_outMember_9 ?_
  refine s_aload_n hZ.1 dX13_outMember_12 rfl ?_
  refine s_aload_n hZ.1 dX13_outMember_13 rfl ?_
  refine yg13_127 dX13_outMember_14 zw4247 ?_
  refine s_iload_n hZ.1 dX13_outMember_17 rfl ?_
  refine s_iald (tt := 0) rfl dX13_outMember_18 ?_
  refine s_i2l dX13_outMember_19 ?_
  refine s_callV hZ.1 (Met_X13_outInt hZ) (Nat.le_of_ble_eq_true rfl) vy_X13_outInt zcl13 zw3687 zw332 (Or.inl zw3685) dX13_outMember_20 ?_
  exact s_goto dX13_outMember_23 (by decide) (wX13_outMember_125 hZ j hj)
noncomputable def vX13_outMember_0 (j : Nat → rx_K) : rx_K := o_ld rx_isI 2 (o_const 128 (o_c2 rx_eq (vX13_outMember_6 j) (vX13_outMember_26 j)))
set_option maxRecDepth 20000 in
theorem wX13_outMember_0 (hZ : zO b e D A X) (j : Nat → rx_K) (hj : ∀ k pc, [64][k]? = some pc → rx_OK (zV b e D A X) mX13_outMember 6 pc (j k)) : rx_OK (zV b e D A X) mX13_outMember 6 0 (vX13_outMember_0 j) := by
  unfold vX13_outMember_0
  refine s_iload_n hZ.1 dX13_outMember_0 rfl ?_
  refine s_bipush dX13_outMember_1 (by decide +kernel) ?_
  exact s_icmp_ne dX13_outMember_3 (by decide) (wX13_outMember_26 hZ j hj) (wX13_outMember_6 hZ j hj)
noncomputable def vhX13_outMember (j : Nat → rx_K) : List rx_K := [vX13_outMember_64 j]
theorem vlX13_outMember (hZ : zO b e D A X) : ∀ n k pc, [64][k]? = some pc → rx_OK (zV b e D A X) mX13_outMember 6 pc (rx_J (vhX13_outMember) n k) := rx_loop fun j hj k pc h => by
  match k, h with
  | 0, h =>
    have e9 := Option.some.inj (show some 64 = some pc from h)
    subst e9
    exact wX13_outMember_64 hZ j hj
  | _ + 1, h => exact absurd h (by simp)
noncomputable def FX13_outMember : List Nat → rx_H → Option (Nat × rx_H) := rx_ent 4 (vX13_outMember_0 (rx_J (vhX13_outMember) 4000000000))
theorem Met_X13_outMember (hZ : zO b e D A X) : rx_Met (zV b e D A X) 6 yX13_outMember mX13_outMember (FX13_outMember) := rx_entry hZ.1 (wX13_outMember_0 hZ _ (vlX13_outMember hZ 4000000000)) (by decide +kernel) rfl (fun h => by cases h)
abbrev mX13_tell : rx_M := (RX13, cX13_tell, 6, (some .int), false)
theorem vy_X13_tell : rx_Y (zV b e D A X) yX13_tell mX13_tell 3 := ⟨zw3705, zw431, by decide, by decide +kernel, by decide +kernel, by decide +kernel⟩
noncomputable def vX13_tell_152 : rx_K := o_ld rx_isR 0 (o_getf 13 3 (o_ret1 rx_isI))
set_option maxRecDepth 20000 in
theorem wX13_tell_152 (hZ : zO b e D A X) : rx_OK (zV b e D A X) mX13_tell 7 152 vX13_tell_152 := by
  unfold vX13_tell_152
  refine s_aload_n hZ.1 dX13_tell_152 rfl ?_
  refine yg13_3 dX13_tell_153 zw4124 ?_
  exact s_iret hZ.1 rfl dX13_tell_156
noncomputable def vX13_tell_130 : rx_K := o_callV 1 13 FX13_outWord (o_ld rx_isR 0 (o_ld rx_isR 0 (o_getf 13 122 (o_ld rx_isI 4 (o_ald 1 (o_callV 1 13 FX13_outName (o_ld rx_isR 0 (o_ld rx_isI 4 (o_ld rx_isI 5 (o_callV 2 13 FX13_outMember (vX13_tell_152)))))))))))
set_option maxRecDepth 20000 in
theorem wX13_tell_130 (hZ : zO b e D A X) : rx_OK (zV b e D A X) mX13_tell 7 130 vX13_tell_130 := by
  unfold vX13_tell_130
  refine s_callV hZ.1 (Met_X13_outWord hZ) (Nat.le_of_ble_eq_true rfl) vy_X13_outWord zcl13 zw3644 zw326 (Or.inl zw3642) dX13_tell_130 ?_
  refine s_aload_n hZ.1 dX13_tell_133 rfl ?_
  refine s_aload_n hZ.1 dX13_tell_134 rfl ?_
  refine yg13_122 dX13_tell_135 zw4242 ?_
  refine s_iload hZ.1 dX13_tell_138 ?_
  refine s_lald (tt := 1) rfl dX13_tell_140 ?_
  refine s_callV hZ.1 (Met_X13_outName hZ) (Nat.le_of_ble_eq_true rfl) vy_X13_outName zcl13 zw3656 zw328 (Or.inl zw3654) dX13_tell_141 ?_
  refine s_aload_n hZ.1 dX13_tell_144 rfl ?_
  refine s_iload hZ.1 dX13_tell_145 ?_
  refine s_iload hZ.1 dX13_tell_147 ?_
  refine s_callV hZ.1 (Met_X13_outMember hZ) (Nat.le_of_ble_eq_true rfl) vy_X13_outMember zcl13 zw3708 zw334 (Or.inl zw3706) dX13_tell_149 ?_
  exact (wX13_tell_152 hZ)
noncomputable def vX13_tell_127 : rx_K := o_const 1172 (vX13_tell_130)
set_option maxRecDepth 20000 in
theorem wX13_tell_127 (hZ : zO b e D A X) : rx_OK (zV b e D A X) mX13_tell 7 127 vX13_tell_127 := by
  unfold vX13_tell_127
  refine s_ldcwS (k := 146) (zo_R146 hZ) dX13_tell_127 ?_
  exact (wX13_tell_130 hZ)
noncomputable def vX13_tell_121 : rx_K := o_const 740 (vX13_tell_130)
set_option maxRecDepth 20000 in
theorem wX13_tell_121 (hZ : zO b e D A X) : rx_OK (zV b e D A X) mX13_tell 7 121 vX13_tell_121 := by
  unfold vX13_tell_121
  refine s_ldcwS (k := 92) (zo_R92 hZ) dX13_tell_121 ?_
  exact s_goto dX13_tell_124 (by decide) (wX13_tell_130 hZ)
noncomputable def vX13_tell_108 : rx_K := o_ld rx_isR 0 (o_const 368 (o_callV 1 13 FX13_outByte (o_ld rx_isR 0 (o_ld rx_isI 5 (o_const 16 (o_c2 rx_eq vX13_tell_121 vX13_tell_127))))))
set_option maxRecDepth 20000 in
theorem wX13_tell_108 (hZ : zO b e D A X) : rx_OK (zV b e D A X) mX13_tell 7 108 vX13_tell_108 := by
  unfold vX13_tell_108
  refine s_aload_n hZ.1 dX13_tell_108 rfl ?_
  refine s_bipush dX13_tell_109 (by decide +kernel) ?_
  refine s_callV hZ.1 (Met_X13_outByte hZ) (Nat.le_of_ble_eq_true rfl) vy_X13_outByte zcl13 zw3648 zw327 (Or.inl zw3646) dX13_tell_111 ?_
  refine s_aload_n hZ.1 dX13_tell_114 rfl ?_
  refine s_iload hZ.1 dX13_tell_115 ?_
  refine s_iconst dX13_tell_117 (by decide +kernel) ?_
  exact s_icmp_ne dX13_tell_118 (by decide) (wX13_tell_127 hZ) (wX13_tell_121 hZ)
noncomputable def vX13_tell_101 : rx_K := o_ld rx_isI 5 (o_const 128 (o_c2 rx_eq vX13_tell_108 vX13_tell_152))
set_option maxRecDepth 20000 in
theorem wX13_tell_101 (hZ : zO b e D A X) : rx_OK (zV b e D A X) mX13_tell 7 101 vX13_tell_101 := by
  unfold vX13_tell_101
  refine s_iload hZ.1 dX13_tell_101 ?_
  refine s_bipush dX13_tell_103 (by decide +kernel) ?_
  exact s_icmp_ne dX13_tell_105 (by decide) (wX13_tell_152 hZ) (wX13_tell_108 hZ)
noncomputable def vX13_tell_94 : rx_K := o_ld rx_isI 5 (o_const 96 (o_c2 (fun h x y => rx_lt h y x) vX13_tell_101 vX13_tell_108))
set_option maxRecDepth 20000 in
theorem wX13_tell_94 (hZ : zO b e D A X) : rx_OK (zV b e D A X) mX13_tell 7 94 vX13_tell_94 := by
  unfold vX13_tell_94
  refine s_iload hZ.1 dX13_tell_94 ?_
  refine s_bipush dX13_tell_96 (by decide +kernel) ?_
  exact s_icmp_le dX13_tell_98 (by decide) (wX13_tell_108 hZ) (wX13_tell_101 hZ)
noncomputable def vX13_tell_88 : rx_K := o_ld rx_isI 5 (o_const 16 (o_c2 rx_lt vX13_tell_101 vX13_tell_94))
set_option maxRecDepth 20000 in
theorem wX13_tell_88 (hZ : zO b e D A X) : rx_OK (zV b e D A X) mX13_tell 7 88 vX13_tell_88 := by
  unfold vX13_tell_88
  refine s_iload hZ.1 dX13_tell_88 ?_
  refine s_iconst dX13_tell_90 (by decide +kernel) ?_
  exact s_icmp_lt dX13_tell_91 (by decide) (wX13_tell_101 hZ) (wX13_tell_94 hZ)
noncomputable def vX13_tell_68 : rx_K := o_ld rx_isR 0 (o_const 496 (o_callV 1 13 FX13_outByte (o_ld rx_isR 0 (o_ld rx_isR 0 (o_getf 13 126 (o_ld rx_isI 4 (o_ald 1 (o_callV 1 13 FX13_outName (vX13_tell_152)))))))))
set_option maxRecDepth 20000 in
theorem wX13_tell_68 (hZ : zO b e D A X) : rx_OK (zV b e D A X) mX13_tell 7 68 vX13_tell_68 := by
  unfold vX13_tell_68
  refine s_aload_n hZ.1 dX13_tell_68 rfl ?_
  refine s_bipush dX13_tell_69 (by decide +kernel) ?_
  refine s_callV hZ.1 (Met_X13_outByte hZ) (Nat.le_of_ble_eq_true rfl) vy_X13_outByte zcl13 zw3648 zw327 (Or.inl zw3646) dX13_tell_71 ?_
  refine s_aload_n hZ.1 dX13_tell_74 rfl ?_
  refine s_aload_n hZ.1 dX13_tell_75 rfl ?_
  refine yg13_126 dX13_tell_76 zw4246 ?_
  refine s_iload hZ.1 dX13_tell_79 ?_
  refine s_lald (tt := 1) rfl dX13_tell_81 ?_
  refine s_callV hZ.1 (Met_X13_outName hZ) (Nat.le_of_ble_eq_true rfl) vy_X13_outName zcl13 zw3656 zw328 (Or.inl zw3654) dX13_tell_82 ?_
  exact s_goto dX13_tell_85 (by decide) (wX13_tell_152 hZ)
noncomputable def vX13_tell_61 : rx_K := o_ld rx_isI 5 (o_const 136 (o_c2 rx_eq vX13_tell_68 vX13_tell_88))
set_option maxRecDepth 20000 in
theorem wX13_tell_61 (hZ : zO b e D A X) : rx_OK (zV b e D A X) mX13_tell 7 61 vX13_tell_61 := by
  unfold vX13_tell_61
  refine s_iload hZ.1 dX13_tell_61 ?_
  refine s_bipush dX13_tell_63 (by decide +kernel) ?_
  exact s_icmp_ne dX13_tell_65 (by decide) (wX13_tell_88 hZ) (wX13_tell_68 hZ)
noncomputable def vX13_tell_18 : rx_K := o_ld rx_isR 0 (o_const 0 (o_putf rx_isI 13 3 (o_ld rx_isR 0 (o_ld rx_isR 0 (o_getf 13 119 (o_ld rx_isI 4 (o_ald 0 (o_il (fun x => x.toInt64) (o_callV 1 13 FX13_outInt (o_ld rx_isR 0 (o_const 256 (o_callV 1 13 FX13_outByte (o_ld rx_isR 0 (o_ld rx_isR 0 (o_getf 13 121 (o_ld rx_isI 4 (o_ald 1 (o_callV 1 13 FX13_outName (o_ld rx_isR 0 (o_getf 13 119 (o_ld rx_isI 4 (o_ald 0 (o_st rx_isI 5 (vX13_tell_61))))))))))))))))))))))))
set_option maxRecDepth 20000 in
theorem wX13_tell_18 (hZ : zO b e D A X) : rx_OK (zV b e D A X) mX13_tell 7 18 vX13_tell_18 := by
  unfold vX13_tell_18
  refine s_aload_n hZ.1 dX13_tell_18 rfl ?_
  refine s_iconst dX13_tell_19 (by decide +kernel) ?_
  refine yp13_3 hZ.1 dX13_tell_20 zw4124 ?_
  refine s_aload_n hZ.1 dX13_tell_23 rfl ?_
  refine s_aload_n hZ.1 dX13_tell_24 rfl ?_
  refine yg13_119 dX13_tell_25 zw4239 ?_
  refine s_iload hZ.1 dX13_tell_28 ?_
  refine s_iald (tt := 0) rfl dX13_tell_30 ?_
  refine s_i2l dX13_tell_31 ?_
  refine s_callV hZ.1 (Met_X13_outInt hZ) (Nat.le_of_ble_eq_true rfl) vy_X13_outInt zcl13 zw3687 zw332 (Or.inl zw3685) dX13_tell_32 ?_
  refine s_aload_n hZ.1 dX13_tell_35 rfl ?_
  refine s_bipush dX13_tell_36 (by decide +kernel) ?_
  refine s_callV hZ.1 (Met_X13_outByte hZ) (Nat.le_of_ble_eq_true rfl) vy_X13_outByte zcl13 zw3648 zw327 (Or.inl zw3646) dX13_tell_38 ?_
  refine s_aload_n hZ.1 dX13_tell_41 rfl ?_
  refine s_aload_n hZ.1 dX13_tell_42 rfl ?_
  refine yg13_121 dX13_tell_43 zw4241 ?_
  refine s_iload hZ.1 dX13_tell_46 ?_
  refine s_lald (tt := 1) rfl dX13_tell_48 ?_
  refine s_callV hZ.1 (Met_X13_outName hZ) (Nat.le_of_ble_eq_true rfl) vy_X13_outName zcl13 zw3656 zw328 (Or.inl zw3654) dX13_tell_49 ?_
  refine s_aload_n hZ.1 dX13_tell_52 rfl ?_
  refine yg13_119 dX13_tell_53 zw4239 ?_
  refine s_iload hZ.1 dX13_tell_56 ?_
  refine s_iald (tt := 0) rfl dX13_tell_58 ?_
  refine s_istore hZ.1 dX13_tell_59 (Nat.le_of_ble_eq_true rfl) ?_
  exact (wX13_tell_61 hZ)
noncomputable def vX13_tell_16 : rx_K := o_const 34359738360 (o_ret1 rx_isI)
set_option maxRecDepth 20000 in
theorem wX13_tell_16 (hZ : zO b e D A X) : rx_OK (zV b e D A X) mX13_tell 7 16 vX13_tell_16 := by
  unfold vX13_tell_16
  refine s_iconst dX13_tell_16 (by decide +kernel) ?_
  exact s_iret hZ.1 rfl dX13_tell_17
noncomputable def vX13_tell_0 : rx_K := o_ld rx_isR 0 (o_ld rx_isI 1 (o_ld rx_isI 2 (o_ld rx_isI 3 (o_callV 3 13 FX13_useAt (o_st rx_isI 4 (o_ld rx_isI 4 (o_const 34359738352 (o_c2 rx_eq vX13_tell_16 vX13_tell_18))))))))
set_option maxRecDepth 20000 in
theorem wX13_tell_0 (hZ : zO b e D A X) : rx_OK (zV b e D A X) mX13_tell 7 0 vX13_tell_0 := by
  unfold vX13_tell_0
  refine s_aload_n hZ.1 dX13_tell_0 rfl ?_
  refine s_iload_n hZ.1 dX13_tell_1 rfl ?_
  refine s_iload_n hZ.1 dX13_tell_2 rfl ?_
  refine s_iload_n hZ.1 dX13_tell_3 rfl ?_
  refine s_callV hZ.1 (Met_X13_useAt hZ) (Nat.le_of_ble_eq_true rfl) vy_X13_useAt zcl13 zw3700 zw333 (Or.inl zw3698) dX13_tell_4 ?_
  refine s_istore hZ.1 dX13_tell_7 (Nat.le_of_ble_eq_true rfl) ?_
  refine s_iload hZ.1 dX13_tell_9 ?_
  refine s_bipush dX13_tell_11 (by decide +kernel) ?_
  exact s_icmp_ne dX13_tell_13 (by decide) (wX13_tell_18 hZ) (wX13_tell_16 hZ)
noncomputable def FX13_tell : List Nat → rx_H → Option (Nat × rx_H) := rx_ent 6 vX13_tell_0
theorem Met_X13_tell (hZ : zO b e D A X) : rx_Met (zV b e D A X) 7 yX13_tell mX13_tell (FX13_tell) := rx_entry hZ.1 (wX13_tell_0 hZ) (by decide +kernel) rfl (fun h => by cases h)
abbrev mX13_see : rx_M := (RX13, cX13_see, 2, none, false)
theorem vy_X13_see : rx_Y (zV b e D A X) yX13_see mX13_see 1 := ⟨zw3745, zw431, by decide, by decide +kernel, by decide +kernel, by decide +kernel⟩
noncomputable def vX13_see_0 : rx_K := o_ld rx_isR 0 (o_getf 13 141 (o_ld rx_isR 0 (o_getf 13 142 (o_ld rx_isI 1 (o_ast 0 (fun v => v) rx_isI (o_ld rx_isR 0 (o_dup (o_getf 13 142 (o_const 8 (o_bi (fun x y => x + y) (o_putf rx_isI 13 142 (o_ret0))))))))))))
set_option maxRecDepth 20000 in
theorem wX13_see_0 (hZ : zO b e D A X) : rx_OK (zV b e D A X) mX13_see 0 0 vX13_see_0 := by
  unfold vX13_see_0
  refine s_aload_n hZ.1 dX13_see_0 rfl ?_
  refine yg13_141 dX13_see_1 zw4261 ?_
  refine s_aload_n hZ.1 dX13_see_4 rfl ?_
  refine yg13_142 dX13_see_5 zw4262 ?_
  refine s_iload_n hZ.1 dX13_see_8 rfl ?_
  refine s_iast hZ.1 (tt := 0) rfl dX13_see_9 ?_
  refine s_aload_n hZ.1 dX13_see_10 rfl ?_
  refine s_dup hZ.1 dX13_see_11 ?_
  refine yg13_142 dX13_see_12 zw4262 ?_
  refine s_iconst dX13_see_15 (by decide +kernel) ?_
  refine s_iadd dX13_see_16 ?_
  refine yp13_142 hZ.1 dX13_see_17 zw4262 ?_
  exact s_vret rfl dX13_see_20
noncomputable def FX13_see : List Nat → rx_H → Option (Nat × rx_H) := rx_ent 2 vX13_see_0
theorem Met_X13_see (hZ : zO b e D A X) : rx_Met (zV b e D A X) 0 yX13_see mX13_see (FX13_see) := rx_entry hZ.1 (wX13_see_0 hZ) (by decide +kernel) rfl (fun h => by cases h)
abbrev mX13_askField : rx_M := (RX13, cX13_askField, 7, (some .int), false)
theorem vy_X13_askField : rx_Y (zV b e D A X) yX13_askField mX13_askField 3 := ⟨zw3749, zw431, by decide, by decide +kernel, by decide +kernel, by decide +kernel⟩
noncomputable def vX13_askField_145 (j : Nat → rx_K) : rx_K := o_ret1 rx_isI
set_option maxRecDepth 20000 in
theorem wX13_askField_145 (hZ : zO b e D A X) (j : Nat → rx_K) (hj : ∀ k pc, [30][k]? = some pc → rx_OK (zV b e D A X) mX13_askField 169 pc (j k)) : rx_OK (zV b e D A X) mX13_askField 169 145 (vX13_askField_145 j) := by
  unfold vX13_askField_145
  exact s_iret hZ.1 rfl dX13_askField_145
noncomputable def vX13_askField_144 (j : Nat → rx_K) : rx_K := o_const 0 ((vX13_askField_145 j))
set_option maxRecDepth 20000 in
theorem wX13_askField_144 (hZ : zO b e D A X) (j : Nat → rx_K) (hj : ∀ k pc, [30][k]? = some pc → rx_OK (zV b e D A X) mX13_askField 169 pc (j k)) : rx_OK (zV b e D A X) mX13_askField 169 144 (vX13_askField_144 j) := by
  unfold vX13_askField_144
  refine s_iconst dX13_askField_144 (by decide +kernel) ?_
  exact (wX13_askField_145 hZ j hj)
noncomputable def vX13_askField_140 (j : Nat → rx_K) : rx_K := o_const 16 ((vX13_askField_145 j))
set_option maxRecDepth 20000 in
theorem wX13_askField_140 (hZ : zO b e D A X) (j : Nat → rx_K) (hj : ∀ k pc, [30][k]? = some pc → rx_OK (zV b e D A X) mX13_askField 169 pc (j k)) : rx_OK (zV b e D A X) mX13_askField 169 140 (vX13_askField_140 j) := by
  unfold vX13_askField_140
  refine s_iconst dX13_askField_140 (by decide +kernel) ?_
  exact s_goto dX13_askField_141 (by decide) (wX13_askField_145 hZ j hj)
noncomputable def vX13_askField_130 (j : Nat → rx_K) : rx_K := o_ld rx_isR 0 (o_ld rx_isI 5 (o_callV 1 13 FX13_classOfMember (o_ld rx_isI 3 (o_c2 rx_eq (vX13_askField_144 j) (vX13_askField_140 j)))))
set_option maxRecDepth 20000 in
theorem wX13_askField_130 (hZ : zO b e D A X) (j : Nat → rx_K) (hj : ∀ k pc, [30][k]? = some pc → rx_OK (zV b e D A X) mX13_askField 169 pc (j k)) : rx_OK (zV b e D A X) mX13_askField 169 130 (vX13_askField_130 j) := by
  unfold vX13_askField_130
  refine s_aload_n hZ.1 dX13_askField_130 rfl ?_
  refine s_iload hZ.1 dX13_askField_131 ?_
  refine s_callV hZ.1 (Met_X13_classOfMember hZ) (Nat.le_of_ble_eq_true rfl) vy_X13_classOfMember zcl13 zw3255 zw241 (Or.inl zw3253) dX13_askField_133 ?_
  refine s_iload_n hZ.1 dX13_askField_136 rfl ?_
  exact s_icmp_eq dX13_askField_137 (by decide) (wX13_askField_144 hZ j hj) (wX13_askField_140 hZ j hj)
noncomputable def vX13_askField_120 (j : Nat → rx_K) : rx_K := o_ld rx_isR 0 (o_getf 13 46 (o_ld rx_isI 5 (o_ald 3 (o_c1 rx_eq (vX13_askField_144 j) (vX13_askField_130 j)))))
set_option maxRecDepth 20000 in
theorem wX13_askField_120 (hZ : zO b e D A X) (j : Nat → rx_K) (hj : ∀ k pc, [30][k]? = some pc → rx_OK (zV b e D A X) mX13_askField 169 pc (j k)) : rx_OK (zV b e D A X) mX13_askField 169 120 (vX13_askField_120 j) := by
  unfold vX13_askField_120
  refine s_aload_n hZ.1 dX13_askField_120 rfl ?_
  refine yg13_46 dX13_askField_121 zw4167 ?_
  refine s_iload hZ.1 dX13_askField_124 ?_
  refine s_zald (tt := 3) rfl dX13_askField_126 ?_
  exact s_if_eq dX13_askField_127 (by decide) (wX13_askField_144 hZ j hj) (wX13_askField_130 hZ j hj)
noncomputable def vX13_askField_113 (j : Nat → rx_K) : rx_K := o_ld rx_isI 4 (o_const 48 (o_c2 rx_eq (vX13_askField_120 j) (vX13_askField_144 j)))
set_option maxRecDepth 20000 in
theorem wX13_askField_113 (hZ : zO b e D A X) (j : Nat → rx_K) (hj : ∀ k pc, [30][k]? = some pc → rx_OK (zV b e D A X) mX13_askField 169 pc (j k)) : rx_OK (zV b e D A X) mX13_askField 169 113 (vX13_askField_113 j) := by
  unfold vX13_askField_113
  refine s_iload hZ.1 dX13_askField_113 ?_
  refine s_bipush dX13_askField_115 (by decide +kernel) ?_
  exact s_icmp_ne dX13_askField_117 (by decide) (wX13_askField_144 hZ j hj) (wX13_askField_120 hZ j hj)
noncomputable def vX13_askField_107 (j : Nat → rx_K) : rx_K := o_ld rx_isI 4 (o_const 32 (o_c2 rx_eq (vX13_askField_120 j) (vX13_askField_113 j)))
set_option maxRecDepth 20000 in
theorem wX13_askField_107 (hZ : zO b e D A X) (j : Nat → rx_K) (hj : ∀ k pc, [30][k]? = some pc → rx_OK (zV b e D A X) mX13_askField 169 pc (j k)) : rx_OK (zV b e D A X) mX13_askField 169 107 (vX13_askField_107 j) := by
  unfold vX13_askField_107
  refine s_iload hZ.1 dX13_askField_107 ?_
  refine s_iconst dX13_askField_109 (by decide +kernel) ?_
  exact s_icmp_eq dX13_askField_110 (by decide) (wX13_askField_120 hZ j hj) (wX13_askField_113 hZ j hj)
noncomputable def vX13_askField_105 (j : Nat → rx_K) : rx_K := o_const 24 (o_ret1 rx_isI)
set_option maxRecDepth 20000 in
theorem wX13_askField_105 (hZ : zO b e D A X) (j : Nat → rx_K) (hj : ∀ k pc, [30][k]? = some pc → rx_OK (zV b e D A X) mX13_askField 169 pc (j k)) : rx_OK (zV b e D A X) mX13_askField 169 105 (vX13_askField_105 j) := by
  unfold vX13_askField_105
  refine s_iconst dX13_askField_105 (by decide +kernel) ?_
  exact s_iret hZ.1 rfl dX13_askField_106
noncomputable def vX13_askField_102 (j : Nat → rx_K) : rx_K := o_c2 rx_eq (vX13_askField_107 j) (vX13_askField_105 j)
set_option maxRecDepth 20000 in
theorem wX13_askField_102 (hZ : zO b e D A X) (j : Nat → rx_K) (hj : ∀ k pc, [30][k]? = some pc → rx_OK (zV b e D A X) mX13_askField 169 pc (j k)) : rx_OK (zV b e D A X) mX13_askField 169 102 (vX13_askField_102 j) := by
  unfold vX13_askField_102
  exact s_icmp_eq dX13_askField_102 (by decide) (wX13_askField_107 hZ j hj) (wX13_askField_105 hZ j hj)
noncomputable def vX13_askField_101 (j : Nat → rx_K) : rx_K := o_const 0 ((vX13_askField_102 j))
set_option maxRecDepth 20000 in
theorem wX13_askField_101 (hZ : zO b e D A X) (j : Nat → rx_K) (hj : ∀ k pc, [30][k]? = some pc → rx_OK (zV b e D A X) mX13_askField 169 pc (j k)) : rx_OK (zV b e D A X) mX13_askField 169 101 (vX13_askField_101 j) := by
  unfold vX13_askField_101
  refine s_iconst dX13_askField_101 (by decide +kernel) ?_
  exact (wX13_askField_102 hZ j hj)
noncomputable def vX13_askField_97 (j : Nat → rx_K) : rx_K := o_const 8 ((vX13_askField_102 j))
set_option maxRecDepth 20000 in
theorem wX13_askField_97 (hZ : zO b e D A X) (j : Nat → rx_K) (hj : ∀ k pc, [30][k]? = some pc → rx_OK (zV b e D A X) mX13_askField 169 pc (j k)) : rx_OK (zV b e D A X) mX13_askField 169 97 (vX13_askField_97 j) := by
  unfold vX13_askField_97
  refine s_iconst dX13_askField_97 (by decide +kernel) ?_
  exact s_goto dX13_askField_98 (by decide) (wX13_askField_102 hZ j hj)
noncomputable def vX13_askField_84 (j : Nat → rx_K) : rx_K := o_ld rx_isR 0 (o_getf 13 45 (o_ld rx_isI 5 (o_ald 3 (o_ld rx_isI 4 (o_const 40 (o_c2 rx_lt (vX13_askField_101 j) (vX13_askField_97 j)))))))
set_option maxRecDepth 20000 in
theorem wX13_askField_84 (hZ : zO b e D A X) (j : Nat → rx_K) (hj : ∀ k pc, [30][k]? = some pc → rx_OK (zV b e D A X) mX13_askField 169 pc (j k)) : rx_OK (zV b e D A X) mX13_askField 169 84 (vX13_askField_84 j) := by
  unfold vX13_askField_84
  refine s_aload_n hZ.1 dX13_askField_84 rfl ?_
  refine yg13_45 dX13_askField_85 zw4166 ?_
  refine s_iload hZ.1 dX13_askField_88 ?_
  refine s_zald (tt := 3) rfl dX13_askField_90 ?_
  refine s_iload hZ.1 dX13_askField_91 ?_
  refine s_iconst dX13_askField_93 (by decide +kernel) ?_
  exact s_icmp_lt dX13_askField_94 (by decide) (wX13_askField_101 hZ j hj) (wX13_askField_97 hZ j hj)
noncomputable def vX13_askField_82 (j : Nat → rx_K) : rx_K := o_const 16 (o_ret1 rx_isI)
set_option maxRecDepth 20000 in
theorem wX13_askField_82 (hZ : zO b e D A X) (j : Nat → rx_K) (hj : ∀ k pc, [30][k]? = some pc → rx_OK (zV b e D A X) mX13_askField 169 pc (j k)) : rx_OK (zV b e D A X) mX13_askField 169 82 (vX13_askField_82 j) := by
  unfold vX13_askField_82
  refine s_iconst dX13_askField_82 (by decide +kernel) ?_
  exact s_iret hZ.1 rfl dX13_askField_83
noncomputable def vX13_askField_71 (j : Nat → rx_K) : rx_K := o_ld rx_isR 0 (o_ld rx_isI 5 (o_ld rx_isI 2 (o_ld rx_isI 3 (o_callV 3 13 FX13_isLetMember (o_c1 rx_eq (vX13_askField_82 j) (vX13_askField_84 j))))))
set_option maxRecDepth 20000 in
theorem wX13_askField_71 (hZ : zO b e D A X) (j : Nat → rx_K) (hj : ∀ k pc, [30][k]? = some pc → rx_OK (zV b e D A X) mX13_askField 169 pc (j k)) : rx_OK (zV b e D A X) mX13_askField 169 71 (vX13_askField_71 j) := by
  unfold vX13_askField_71
  refine s_aload_n hZ.1 dX13_askField_71 rfl ?_
  refine s_iload hZ.1 dX13_askField_72 ?_
  refine s_iload_n hZ.1 dX13_askField_74 rfl ?_
  refine s_iload_n hZ.1 dX13_askField_75 rfl ?_
  refine s_callV hZ.1 (Met_X13_isLetMember hZ) (Nat.le_of_ble_eq_true rfl) vy_X13_isLetMember zcl13 zw3355 zw264 (Or.inl zw3353) dX13_askField_76 ?_
  exact s_if_ne dX13_askField_79 (by decide) (wX13_askField_84 hZ j hj) (wX13_askField_82 hZ j hj)
noncomputable def vX13_askField_69 (j : Nat → rx_K) : rx_K := o_const 32 (o_ret1 rx_isI)
set_option maxRecDepth 20000 in
theorem wX13_askField_69 (hZ : zO b e D A X) (j : Nat → rx_K) (hj : ∀ k pc, [30][k]? = some pc → rx_OK (zV b e D A X) mX13_askField 169 pc (j k)) : rx_OK (zV b e D A X) mX13_askField 169 69 (vX13_askField_69 j) := by
  unfold vX13_askField_69
  refine s_iconst dX13_askField_69 (by decide +kernel) ?_
  exact s_iret hZ.1 rfl dX13_askField_70
noncomputable def vX13_askField_56 (j : Nat → rx_K) : rx_K := o_ld rx_isR 0 (o_ld rx_isI 5 (o_putf rx_isI 13 140 (o_ld rx_isI 5 (o_const 34359738352 (o_c2 rx_eq (vX13_askField_69 j) (vX13_askField_71 j))))))
set_option maxRecDepth 20000 in
theorem wX13_askField_56 (hZ : zO b e D A X) (j : Nat → rx_K) (hj : ∀ k pc, [30][k]? = some pc → rx_OK (zV b e D A X) mX13_askField 169 pc (j k)) : rx_OK (zV b e D A X) mX13_askField 169 56 (vX13_askField_56 j) := by
  unfold vX13_askField_56
  refine s_aload_n hZ.1 dX13_askField_56 rfl ?_
  refine s_iload hZ.1 dX13_askField_57 ?_
  refine yp13_140 hZ.1 dX13_askField_59 zw4260 ?_
  refine s_iload hZ.1 dX13_askField_62 ?_
  refine s_bipush dX13_askField_64 (by decide +kernel) ?_
  exact s_icmp_ne dX13_askField_66 (by decide) (wX13_askField_71 hZ j hj) (wX13_askField_69 hZ j hj)
noncomputable def vX13_askField_39 (j : Nat → rx_K) : rx_K := o_ld rx_isR 0 (o_ld rx_isR 0 (o_getf 13 97 (o_ld rx_isI 6 (o_ald 0 (o_callV 1 13 FX13_see (o_inc 6 (1) ((j 0))))))))
set_option maxRecDepth 20000 in
theorem wX13_askField_39 (hZ : zO b e D A X) (j : Nat → rx_K) (hj : ∀ k pc, [30][k]? = some pc → rx_OK (zV b e D A X) mX13_askField 169 pc (j k)) : rx_OK (zV b e D A X) mX13_askField 169 39 (vX13_askField_39 j) := by
  unfold vX13_askField_39
  refine s_aload_n hZ.1 dX13_askField_39 rfl ?_
  refine s_aload_n hZ.1 dX13_askField_40 rfl ?_
  refine yg13_97 dX13_askField_41 zw4218 ?_
  refine s_iload hZ.1 dX13_askField_44 ?_
  refine s_iald (tt := 0) rfl dX13_askField_46 ?_
  refine s_callV hZ.1 (Met_X13_see hZ) (Nat.le_of_ble_eq_true rfl) vy_X13_see zcl13 zw3744 zw342 (Or.inl zw3742) dX13_askField_47 ?_
  refine s_iinc hZ.1 dX13_askField_50 (Nat.le_of_ble_eq_true rfl) ?_
  exact s_goto dX13_askField_53 (by decide) (hj 0 30 rfl)
noncomputable def vX13_askField_30 (j : Nat → rx_K) : rx_K := o_ld rx_isI 6 (o_ld rx_isR 0 (o_getf 13 98 (o_c2 rx_lt (vX13_askField_39 j) (vX13_askField_56 j))))
set_option maxRecDepth 20000 in
theorem wX13_askField_30 (hZ : zO b e D A X) (j : Nat → rx_K) (hj : ∀ k pc, [30][k]? = some pc → rx_OK (zV b e D A X) mX13_askField 169 pc (j k)) : rx_OK (zV b e D A X) mX13_askField 169 30 (vX13_askField_30 j) := by
  unfold vX13_askField_30
  refine s_iload hZ.1 dX13_askField_30 ?_
  refine s_aload_n hZ.1 dX13_askField_32 rfl ?_
  refine yg13_98 dX13_askField_33 zw4219 ?_
  exact s_icmp_ge dX13_askField_36 (by decide) (wX13_askField_56 hZ j hj) (wX13_askField_39 hZ j hj)
noncomputable def vX13_askField_0 (j : Nat → rx_K) : rx_K := o_ld rx_isR 0 (o_getf 13 119 (o_ld rx_isI 1 (o_ald 0 (o_st rx_isI 4 (o_ld rx_isR 0 (o_ld rx_isI 2 (o_ld rx_isR 0 (o_getf 13 122 (o_ld rx_isI 1 (o_ald 1 (o_ld rx_isR 0 (o_getf 13 123 (o_ld rx_isI 1 (o_ald 1 (o_callV 3 13 FX13_theField (o_st rx_isI 5 (o_const 0 (o_st rx_isI 6 ((vX13_askField_30 j))))))))))))))))))))
set_option maxRecDepth 20000 in
theorem wX13_askField_0 (hZ : zO b e D A X) (j : Nat → rx_K) (hj : ∀ k pc, [30][k]? = some pc → rx_OK (zV b e D A X) mX13_askField 169 pc (j k)) : rx_OK (zV b e D A X) mX13_askField 169 0 (vX13_askField_0 j) := by
  unfold vX13_askField_0
  refine s_aload_n hZ.1 dX13_askField_0 rfl ?_
  refine yg13_119 dX13_askField_1 zw4239 ?_
  refine s_iload_n hZ.1 dX13_askField_4 rfl ?_
  refine s_iald (tt := 0) rfl dX13_askField_5 ?_
  refine s_istore hZ.1 dX13_askField_6 (Nat.le_of_ble_eq_true rfl) ?_
  refine s_aload_n hZ.1 dX13_askField_8 rfl ?_
  refine s_iload_n hZ.1 dX13_askField_9 rfl ?_
  refine s_aload_n hZ.1 dX13_askField_10 rfl ?_
  refine yg13_122 dX13_askField_11 zw4242 ?_
  refine s_iload_n hZ.1 dX13_askField_14 rfl ?_
  refine s_lald (tt := 1) rfl dX13_askField_15 ?_
  refine s_aload_n hZ.1 dX13_askField_16 rfl ?_
  refine yg13_123 dX13_askField_17 zw4243 ?_
  refine s_iload_n hZ.1 dX13_askField_20 rfl ?_
  refine s_lald (tt := 1) rfl dX13_askField_21 ?_
  refine s_callV hZ.1 (Met_X13_theField hZ) (Nat.le_of_ble_eq_true rfl) vy_X13_theField zcl13 zw3347 zw262 (Or.inl zw3345) dX13_askField_22 ?_
  refine s_istore hZ.1 dX13_askField_25 (Nat.le_of_ble_eq_true rfl) ?_
  refine s_iconst dX13_askField_27 (by decide +kernel) ?_
  refine s_istore hZ.1 dX13_askField_28 (Nat.le_of_ble_eq_true rfl) ?_
  exact (wX13_askField_30 hZ j hj)
noncomputable def vhX13_askField (j : Nat → rx_K) : List rx_K := [vX13_askField_30 j]
theorem vlX13_askField (hZ : zO b e D A X) : ∀ n k pc, [30][k]? = some pc → rx_OK (zV b e D A X) mX13_askField 169 pc (rx_J (vhX13_askField) n k) := rx_loop fun j hj k pc h => by
  match k, h with
  | 0, h =>
    have e9 := Option.some.inj (show some 30 = some pc from h)
    subst e9
    exact wX13_askField_30 hZ j hj
  | _ + 1, h => exact absurd h (by simp)
noncomputable def FX13_askField : List Nat → rx_H → Option (Nat × rx_H) := rx_ent 7 (vX13_askField_0 (rx_J (vhX13_askField) 4000000000))
theorem Met_X13_askField (hZ : zO b e D A X) : rx_Met (zV b e D A X) 169 yX13_askField mX13_askField (FX13_askField) := rx_entry hZ.1 (wX13_askField_0 hZ _ (vlX13_askField hZ 4000000000)) (by decide +kernel) rfl (fun h => by cases h)
end ZM59

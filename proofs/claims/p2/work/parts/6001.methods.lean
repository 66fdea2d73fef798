section ZM1
variable {b : Nat} {e : Nat → Value} {D : va_G} {A : Nat → ClassId} {X : State → Prop}
abbrev mX0_field : rx_M := (RX0, cX0_field, 6, (some .boolean), false)
theorem vy_X0_field : rx_Y (zV b e D A X) yX0_field mX0_field 3 := ⟨zw2108, zw421, by decide, by decide +kernel, by decide +kernel, by decide +kernel⟩
noncomputable def vX0_field_54 : rx_K := o_ld rx_isR 1 (o_ld rx_isR 5 (o_putf rx_isR 8 11 (o_ld rx_isR 1 (o_ld rx_isR 5 (o_getf 7 8 (o_putf rx_isL 8 9 (o_ld rx_isR 1 (o_ld rx_isR 0 (o_getf 0 0 (o_getf 11 1 (o_ld rx_isI 2 (o_ald 4 (o_getf 10 1 (o_putf rx_isL 8 10 (o_const 8 (o_ret1 rx_isZ))))))))))))))))
set_option maxRecDepth 20000 in
theorem wX0_field_54 (hZ : zO b e D A X) : rx_OK (zV b e D A X) mX0_field 2 54 vX0_field_54 := by
  unfold vX0_field_54
  refine s_aload_n hZ.1 dX0_field_54 rfl ?_
  refine s_aload hZ.1 dX0_field_55 ?_
  refine yp8_11 hZ.1 dX0_field_57 zw500 ?_
  refine s_aload_n hZ.1 dX0_field_60 rfl ?_
  refine s_aload hZ.1 dX0_field_61 ?_
  refine yg7_8 dX0_field_63 zw1013 ?_
  refine yp8_9 hZ.1 dX0_field_66 zw492 ?_
  refine s_aload_n hZ.1 dX0_field_69 rfl ?_
  refine s_aload_n hZ.1 dX0_field_70 rfl ?_
  refine yg0_0 dX0_field_71 zw661 ?_
  refine yg11_1 dX0_field_74 zw1257 ?_
  refine s_iload_n hZ.1 dX0_field_77 rfl ?_
  refine s_aald (tt := 4) rfl rfl dX0_field_78 ?_
  refine yg10_1 dX0_field_79 zw771 ?_
  refine yp8_10 hZ.1 dX0_field_82 zw495 ?_
  refine s_iconst dX0_field_85 (by decide +kernel) ?_
  exact s_zret rx_z_ok rfl dX0_field_86
noncomputable def vX0_field_43 : rx_K := o_ld rx_isR 0 (o_const 88 (o_ld rx_isR 1 (o_getf 8 2 (o_callV 2 0 FX0_fail (o_ret1 rx_isZ)))))
set_option maxRecDepth 20000 in
theorem wX0_field_43 (hZ : zO b e D A X) : rx_OK (zV b e D A X) mX0_field 2 43 vX0_field_43 := by
  unfold vX0_field_43
  refine s_aload_n hZ.1 dX0_field_43 rfl ?_
  refine s_bipush dX0_field_44 (by decide +kernel) ?_
  refine s_aload_n hZ.1 dX0_field_46 rfl ?_
  refine yg8_2 dX0_field_47 zw465 ?_
  refine s_callV hZ.1 (Met_X0_fail hZ) (Nat.le_of_ble_eq_true rfl) vy_X0_fail zcl0 zw2095 zw65 (Or.inl zw2093) dX0_field_50 ?_
  exact s_zret rx_z_ok rfl dX0_field_53
noncomputable def vX0_field_19 : rx_K := o_ld rx_isR 0 (o_getf 0 0 (o_ld rx_isR 5 (o_ld rx_isR 0 (o_getf 0 0 (o_getf 11 18 (o_ld rx_isI 2 (o_ld rx_isR 0 (o_getf 0 6 (o_callV 4 11 FX11_isLet_ (o_c1 rx_eq vX0_field_43 vX0_field_54))))))))))
set_option maxRecDepth 20000 in
theorem wX0_field_19 (hZ : zO b e D A X) : rx_OK (zV b e D A X) mX0_field 2 19 vX0_field_19 := by
  unfold vX0_field_19
  refine s_aload_n hZ.1 dX0_field_19 rfl ?_
  refine yg0_0 dX0_field_20 zw661 ?_
  refine s_aload hZ.1 dX0_field_23 ?_
  refine s_aload_n hZ.1 dX0_field_25 rfl ?_
  refine yg0_0 dX0_field_26 zw661 ?_
  refine yg11_18 dX0_field_29 zw1296 ?_
  refine s_iload_n hZ.1 dX0_field_32 rfl ?_
  refine s_aload_n hZ.1 dX0_field_33 rfl ?_
  refine yg0_6 dX0_field_34 zw669 ?_
  refine s_callV hZ.1 (Met_X11_isLet_ hZ) (Nat.le_of_ble_eq_true rfl) vy_X11_isLet_ zcl11 zw2072 zw2073 (Or.inl zw2071) dX0_field_37 ?_
  exact s_if_ne dX0_field_40 (by decide) (wX0_field_54 hZ) (wX0_field_43 hZ)
noncomputable def vX0_field_0 : rx_K := o_ld rx_isR 0 (o_getf 0 0 (o_ld rx_isI 2 (o_ld rx_isL 3 (o_const 147573952589676412897 (o_callV 3 11 FX11_fieldIn (o_st rx_isR 5 (o_ld rx_isR 5 (o_nul vX0_field_43 vX0_field_19))))))))
set_option maxRecDepth 20000 in
theorem wX0_field_0 (hZ : zO b e D A X) : rx_OK (zV b e D A X) mX0_field 2 0 vX0_field_0 := by
  unfold vX0_field_0
  refine s_aload_n hZ.1 dX0_field_0 rfl ?_
  refine yg0_0 dX0_field_1 zw661 ?_
  refine s_iload_n hZ.1 dX0_field_4 rfl ?_
  refine s_lload_n hZ.1 dX0_field_5 rfl ?_
  refine s_ldc2 dX0_field_6 zw2062 (by decide +kernel) ?_
  refine s_callV hZ.1 (Met_X11_fieldIn hZ) (Nat.le_of_ble_eq_true rfl) vy_X11_fieldIn zcl11 zw2064 zw2065 (Or.inl zw2063) dX0_field_9 ?_
  refine s_astore hZ.1 dX0_field_12 (Nat.le_of_ble_eq_true rfl) ?_
  refine s_aload hZ.1 dX0_field_14 ?_
  exact s_ifnull dX0_field_16 (by decide) (wX0_field_43 hZ) (wX0_field_19 hZ)
noncomputable def FX0_field : List Nat → rx_H → Option (Nat × rx_H) := rx_ent 6 vX0_field_0
theorem Met_X0_field (hZ : zO b e D A X) : rx_Met (zV b e D A X) 2 yX0_field mX0_field (FX0_field) := rx_entry hZ.1 (wX0_field_0 hZ) (by decide +kernel) rfl (fun h => by cases h)
abbrev mX0_localOf : rx_M := (RX0, cX0_localOf, 4, (some .int), false)
theorem vy_X0_localOf : rx_Y (zV b e D A X) yX0_localOf mX0_localOf 1 := ⟨zw2104, zw421, by decide, by decide +kernel, by decide +kernel, by decide +kernel⟩
noncomputable def vX0_localOf_29 (j : Nat → rx_K) : rx_K := o_const 34359738352 (o_ret1 rx_isI)
set_option maxRecDepth 20000 in
theorem wX0_localOf_29 (hZ : zO b e D A X) (j : Nat → rx_K) (hj : ∀ k pc, [2][k]? = some pc → rx_OK (zV b e D A X) mX0_localOf 0 pc (j k)) : rx_OK (zV b e D A X) mX0_localOf 0 29 (vX0_localOf_29 j) := by
  unfold vX0_localOf_29
  refine s_bipush dX0_localOf_29 (by decide +kernel) ?_
  exact s_iret hZ.1 rfl dX0_localOf_31
noncomputable def vX0_localOf_23 (j : Nat → rx_K) : rx_K := o_inc 3 (1) ((j 0))
set_option maxRecDepth 20000 in
theorem wX0_localOf_23 (hZ : zO b e D A X) (j : Nat → rx_K) (hj : ∀ k pc, [2][k]? = some pc → rx_OK (zV b e D A X) mX0_localOf 0 pc (j k)) : rx_OK (zV b e D A X) mX0_localOf 0 23 (vX0_localOf_23 j) := by
  unfold vX0_localOf_23
  refine s_iinc hZ.1 dX0_localOf_23 (Nat.le_of_ble_eq_true rfl) ?_
  exact s_goto dX0_localOf_26 (by decide) (hj 0 2 rfl)
noncomputable def vX0_localOf_21 (j : Nat → rx_K) : rx_K := o_ld rx_isI 3 (o_ret1 rx_isI)
set_option maxRecDepth 20000 in
theorem wX0_localOf_21 (hZ : zO b e D A X) (j : Nat → rx_K) (hj : ∀ k pc, [2][k]? = some pc → rx_OK (zV b e D A X) mX0_localOf 0 pc (j k)) : rx_OK (zV b e D A X) mX0_localOf 0 21 (vX0_localOf_21 j) := by
  unfold vX0_localOf_21
  refine s_iload_n hZ.1 dX0_localOf_21 rfl ?_
  exact s_iret hZ.1 rfl dX0_localOf_22
noncomputable def vX0_localOf_10 (j : Nat → rx_K) : rx_K := o_ld rx_isR 0 (o_getf 0 9 (o_ld rx_isI 3 (o_ald 1 (o_ld rx_isL 1 (o_bc (fun x y => lg_cmp x y) (o_c1 rx_eq (vX0_localOf_21 j) (vX0_localOf_23 j)))))))
set_option maxRecDepth 20000 in
theorem wX0_localOf_10 (hZ : zO b e D A X) (j : Nat → rx_K) (hj : ∀ k pc, [2][k]? = some pc → rx_OK (zV b e D A X) mX0_localOf 0 pc (j k)) : rx_OK (zV b e D A X) mX0_localOf 0 10 (vX0_localOf_10 j) := by
  unfold vX0_localOf_10
  refine s_aload_n hZ.1 dX0_localOf_10 rfl ?_
  refine yg0_9 dX0_localOf_11 zw672 ?_
  refine s_iload_n hZ.1 dX0_localOf_14 rfl ?_
  refine s_lald (tt := 1) rfl dX0_localOf_15 ?_
  refine s_lload_n hZ.1 dX0_localOf_16 rfl ?_
  refine s_lcmp dX0_localOf_17 ?_
  exact s_if_ne dX0_localOf_18 (by decide) (wX0_localOf_23 hZ j hj) (wX0_localOf_21 hZ j hj)
noncomputable def vX0_localOf_2 (j : Nat → rx_K) : rx_K := o_ld rx_isI 3 (o_ld rx_isR 0 (o_getf 0 11 (o_c2 rx_lt (vX0_localOf_10 j) (vX0_localOf_29 j))))
set_option maxRecDepth 20000 in
theorem wX0_localOf_2 (hZ : zO b e D A X) (j : Nat → rx_K) (hj : ∀ k pc, [2][k]? = some pc → rx_OK (zV b e D A X) mX0_localOf 0 pc (j k)) : rx_OK (zV b e D A X) mX0_localOf 0 2 (vX0_localOf_2 j) := by
  unfold vX0_localOf_2
  refine s_iload_n hZ.1 dX0_localOf_2 rfl ?_
  refine s_aload_n hZ.1 dX0_localOf_3 rfl ?_
  refine yg0_11 dX0_localOf_4 zw674 ?_
  exact s_icmp_ge dX0_localOf_7 (by decide) (wX0_localOf_29 hZ j hj) (wX0_localOf_10 hZ j hj)
noncomputable def vX0_localOf_0 (j : Nat → rx_K) : rx_K := o_const 0 (o_st rx_isI 3 ((vX0_localOf_2 j)))
set_option maxRecDepth 20000 in
theorem wX0_localOf_0 (hZ : zO b e D A X) (j : Nat → rx_K) (hj : ∀ k pc, [2][k]? = some pc → rx_OK (zV b e D A X) mX0_localOf 0 pc (j k)) : rx_OK (zV b e D A X) mX0_localOf 0 0 (vX0_localOf_0 j) := by
  unfold vX0_localOf_0
  refine s_iconst dX0_localOf_0 (by decide +kernel) ?_
  refine s_istore_n hZ.1 dX0_localOf_1 rfl (Nat.le_of_ble_eq_true rfl) ?_
  exact (wX0_localOf_2 hZ j hj)
noncomputable def vhX0_localOf (j : Nat → rx_K) : List rx_K := [vX0_localOf_2 j]
theorem vlX0_localOf (hZ : zO b e D A X) : ∀ n k pc, [2][k]? = some pc → rx_OK (zV b e D A X) mX0_localOf 0 pc (rx_J (vhX0_localOf) n k) := rx_loop fun j hj k pc h => by
  match k, h with
  | 0, h =>
    have e9 := Option.some.inj (show some 2 = some pc from h)
    subst e9
    exact wX0_localOf_2 hZ j hj
  | _ + 1, h => exact absurd h (by simp)
noncomputable def FX0_localOf : List Nat → rx_H → Option (Nat × rx_H) := rx_ent 4 (vX0_localOf_0 (rx_J (vhX0_localOf) 4000000000))
theorem Met_X0_localOf (hZ : zO b e D A X) : rx_Met (zV b e D A X) 0 yX0_localOf mX0_localOf (FX0_localOf) := rx_entry hZ.1 (wX0_localOf_0 hZ _ (vlX0_localOf hZ 4000000000)) (by decide +kernel) rfl (fun h => by cases h)
abbrev mX0_isLocal : rx_M := (RX0, cX0_isLocal, 3, (some .boolean), false)
theorem vy_X0_isLocal : rx_Y (zV b e D A X) yX0_isLocal mX0_isLocal 1 := ⟨zw2100, zw421, by decide, by decide +kernel, by decide +kernel, by decide +kernel⟩
noncomputable def vX0_isLocal_37 : rx_K := o_bi (fun x y => x + y) (o_putf rx_isI 8 4 (o_ld rx_isR 1 (o_ld rx_isR 0 (o_getf 0 10 (o_ld rx_isI 2 (o_ald 1 (o_putf rx_isL 8 9 (o_const 8 (o_ret1 rx_isZ)))))))))
set_option maxRecDepth 20000 in
theorem wX0_isLocal_37 (hZ : zO b e D A X) : rx_OK (zV b e D A X) mX0_isLocal 1 37 vX0_isLocal_37 := by
  unfold vX0_isLocal_37
  refine s_iadd dX0_isLocal_37 ?_
  refine yp8_4 hZ.1 dX0_isLocal_38 zw473 ?_
  refine s_aload_n hZ.1 dX0_isLocal_41 rfl ?_
  refine s_aload_n hZ.1 dX0_isLocal_42 rfl ?_
  refine yg0_10 dX0_isLocal_43 zw673 ?_
  refine s_iload_n hZ.1 dX0_isLocal_46 rfl ?_
  refine s_lald (tt := 1) rfl dX0_isLocal_47 ?_
  refine yp8_9 hZ.1 dX0_isLocal_48 zw492 ?_
  refine s_iconst dX0_isLocal_51 (by decide +kernel) ?_
  exact s_zret rx_z_ok rfl dX0_isLocal_52
noncomputable def vX0_isLocal_36 : rx_K := o_const 8 (vX0_isLocal_37)
set_option maxRecDepth 20000 in
theorem wX0_isLocal_36 (hZ : zO b e D A X) : rx_OK (zV b e D A X) mX0_isLocal 1 36 vX0_isLocal_36 := by
  unfold vX0_isLocal_36
  refine s_iconst dX0_isLocal_36 (by decide +kernel) ?_
  exact (wX0_isLocal_37 hZ)
noncomputable def vX0_isLocal_32 : rx_K := o_const 0 (vX0_isLocal_37)
set_option maxRecDepth 20000 in
theorem wX0_isLocal_32 (hZ : zO b e D A X) : rx_OK (zV b e D A X) mX0_isLocal 1 32 vX0_isLocal_32 := by
  unfold vX0_isLocal_32
  refine s_iconst dX0_isLocal_32 (by decide +kernel) ?_
  exact s_goto dX0_isLocal_33 (by decide) (wX0_isLocal_37 hZ)
noncomputable def vX0_isLocal_23 : rx_K := o_ld rx_isR 1 (o_ld rx_isI 2 (o_ld rx_isR 0 (o_getf 0 8 (o_c1 rx_eq vX0_isLocal_36 vX0_isLocal_32))))
set_option maxRecDepth 20000 in
theorem wX0_isLocal_23 (hZ : zO b e D A X) : rx_OK (zV b e D A X) mX0_isLocal 1 23 vX0_isLocal_23 := by
  unfold vX0_isLocal_23
  refine s_aload_n hZ.1 dX0_isLocal_23 rfl ?_
  refine s_iload_n hZ.1 dX0_isLocal_24 rfl ?_
  refine s_aload_n hZ.1 dX0_isLocal_25 rfl ?_
  refine yg0_8 dX0_isLocal_26 zw671 ?_
  exact s_if_eq dX0_isLocal_29 (by decide) (wX0_isLocal_36 hZ) (wX0_isLocal_32 hZ)
noncomputable def vX0_isLocal_21 : rx_K := o_const 0 (o_ret1 rx_isZ)
set_option maxRecDepth 20000 in
theorem wX0_isLocal_21 (hZ : zO b e D A X) : rx_OK (zV b e D A X) mX0_isLocal 1 21 vX0_isLocal_21 := by
  unfold vX0_isLocal_21
  refine s_iconst dX0_isLocal_21 (by decide +kernel) ?_
  exact s_zret rx_z_ok rfl dX0_isLocal_22
noncomputable def vX0_isLocal_0 : rx_K := o_ld rx_isR 0 (o_ld rx_isR 0 (o_getf 0 2 (o_getf 9 4 (o_ld rx_isR 1 (o_getf 8 2 (o_ald 1 (o_callV 1 0 FX0_localOf (o_st rx_isI 2 (o_ld rx_isI 2 (o_c1 rx_lt vX0_isLocal_21 vX0_isLocal_23))))))))))
set_option maxRecDepth 20000 in
theorem wX0_isLocal_0 (hZ : zO b e D A X) : rx_OK (zV b e D A X) mX0_isLocal 1 0 vX0_isLocal_0 := by
  unfold vX0_isLocal_0
  refine s_aload_n hZ.1 dX0_isLocal_0 rfl ?_
  refine s_aload_n hZ.1 dX0_isLocal_1 rfl ?_
  refine yg0_2 dX0_isLocal_2 zw663 ?_
  refine yg9_4 dX0_isLocal_5 zw587 ?_
  refine s_aload_n hZ.1 dX0_isLocal_8 rfl ?_
  refine yg8_2 dX0_isLocal_9 zw465 ?_
  refine s_lald (tt := 1) rfl dX0_isLocal_12 ?_
  refine s_callV hZ.1 (Met_X0_localOf hZ) (Nat.le_of_ble_eq_true rfl) vy_X0_localOf zcl0 zw2103 zw67 (Or.inl zw2101) dX0_isLocal_13 ?_
  refine s_istore_n hZ.1 dX0_isLocal_16 rfl (Nat.le_of_ble_eq_true rfl) ?_
  refine s_iload_n hZ.1 dX0_isLocal_17 rfl ?_
  exact s_if_ge dX0_isLocal_18 (by decide) (wX0_isLocal_23 hZ) (wX0_isLocal_21 hZ)
noncomputable def FX0_isLocal : List Nat → rx_H → Option (Nat × rx_H) := rx_ent 3 vX0_isLocal_0
theorem Met_X0_isLocal (hZ : zO b e D A X) : rx_Met (zV b e D A X) 1 yX0_isLocal mX0_isLocal (FX0_isLocal) := rx_entry hZ.1 (wX0_isLocal_0 hZ) (by decide +kernel) rfl (fun h => by cases h)
abbrev mX0_isObject : rx_M := (RX0, cX0_isObject, 4, (some .boolean), false)
theorem vy_X0_isObject : rx_Y (zV b e D A X) yX0_isObject mX0_isObject 2 := ⟨zw2152, zw421, by decide, by decide +kernel, by decide +kernel, by decide +kernel⟩
noncomputable def vX0_isObject_31 : rx_K := o_ret1 rx_isZ
set_option maxRecDepth 20000 in
theorem wX0_isObject_31 (hZ : zO b e D A X) : rx_OK (zV b e D A X) mX0_isObject 1 31 vX0_isObject_31 := by
  unfold vX0_isObject_31
  exact s_zret rx_z_ok rfl dX0_isObject_31
noncomputable def vX0_isObject_30 : rx_K := o_const 0 (vX0_isObject_31)
set_option maxRecDepth 20000 in
theorem wX0_isObject_30 (hZ : zO b e D A X) : rx_OK (zV b e D A X) mX0_isObject 1 30 vX0_isObject_30 := by
  unfold vX0_isObject_30
  refine s_iconst dX0_isObject_30 (by decide +kernel) ?_
  exact (wX0_isObject_31 hZ)
noncomputable def vX0_isObject_26 : rx_K := o_const 8 (vX0_isObject_31)
set_option maxRecDepth 20000 in
theorem wX0_isObject_26 (hZ : zO b e D A X) : rx_OK (zV b e D A X) mX0_isObject 1 26 vX0_isObject_26 := by
  unfold vX0_isObject_26
  refine s_iconst dX0_isObject_26 (by decide +kernel) ?_
  exact s_goto dX0_isObject_27 (by decide) (wX0_isObject_31 hZ)
noncomputable def vX0_isObject_16 : rx_K := o_ld rx_isR 0 (o_const 104 (o_ld rx_isI 3 (o_callV 2 0 FX0_fail (o_c1 rx_eq vX0_isObject_30 vX0_isObject_26))))
set_option maxRecDepth 20000 in
theorem wX0_isObject_16 (hZ : zO b e D A X) : rx_OK (zV b e D A X) mX0_isObject 1 16 vX0_isObject_16 := by
  unfold vX0_isObject_16
  refine s_aload_n hZ.1 dX0_isObject_16 rfl ?_
  refine s_bipush dX0_isObject_17 (by decide +kernel) ?_
  refine s_iload_n hZ.1 dX0_isObject_19 rfl ?_
  refine s_callV hZ.1 (Met_X0_fail hZ) (Nat.le_of_ble_eq_true rfl) vy_X0_fail zcl0 zw2095 zw65 (Or.inl zw2093) dX0_isObject_20 ?_
  exact s_if_eq dX0_isObject_23 (by decide) (wX0_isObject_30 hZ) (wX0_isObject_26 hZ)
noncomputable def vX0_isObject_8 : rx_K := o_ld rx_isL 1 (o_const 147573952589676412905 (o_bc (fun x y => lg_cmp x y) (o_c1 rx_eq vX0_isObject_16 vX0_isObject_26)))
set_option maxRecDepth 20000 in
theorem wX0_isObject_8 (hZ : zO b e D A X) : rx_OK (zV b e D A X) mX0_isObject 1 8 vX0_isObject_8 := by
  unfold vX0_isObject_8
  refine s_lload_n hZ.1 dX0_isObject_8 rfl ?_
  refine s_ldc2 dX0_isObject_9 zw2153 (by decide +kernel) ?_
  refine s_lcmp dX0_isObject_12 ?_
  exact s_if_ne dX0_isObject_13 (by decide) (wX0_isObject_26 hZ) (wX0_isObject_16 hZ)
noncomputable def vX0_isObject_0 : rx_K := o_ld rx_isL 1 (o_const 147573952589676412921 (o_bc (fun x y => lg_cmp x y) (o_c1 rx_eq vX0_isObject_16 vX0_isObject_8)))
set_option maxRecDepth 20000 in
theorem wX0_isObject_0 (hZ : zO b e D A X) : rx_OK (zV b e D A X) mX0_isObject 1 0 vX0_isObject_0 := by
  unfold vX0_isObject_0
  refine s_lload_n hZ.1 dX0_isObject_0 rfl ?_
  refine s_ldc2 dX0_isObject_1 zw2053 (by decide +kernel) ?_
  refine s_lcmp dX0_isObject_4 ?_
  exact s_if_eq dX0_isObject_5 (by decide) (wX0_isObject_16 hZ) (wX0_isObject_8 hZ)
noncomputable def FX0_isObject : List Nat → rx_H → Option (Nat × rx_H) := rx_ent 4 vX0_isObject_0
theorem Met_X0_isObject (hZ : zO b e D A X) : rx_Met (zV b e D A X) 1 yX0_isObject mX0_isObject (FX0_isObject) := rx_entry hZ.1 (wX0_isObject_0 hZ) (by decide +kernel) rfl (fun h => by cases h)
abbrev mX7_sameParams : rx_M := (RX7, cX7_sameParams, 2, (some .boolean), false)
theorem vy_X7_sameParams : rx_Y (zV b e D A X) yX7_sameParams mX7_sameParams 1 := ⟨zw1955, zw426, by decide, by decide +kernel, by decide +kernel, by decide +kernel⟩
noncomputable def vX7_sameParams_80 : rx_K := o_ret1 rx_isZ
set_option maxRecDepth 20000 in
theorem wX7_sameParams_80 (hZ : zO b e D A X) : rx_OK (zV b e D A X) mX7_sameParams 0 80 vX7_sameParams_80 := by
  unfold vX7_sameParams_80
  exact s_zret rx_z_ok rfl dX7_sameParams_80
noncomputable def vX7_sameParams_79 : rx_K := o_const 0 (vX7_sameParams_80)
set_option maxRecDepth 20000 in
theorem wX7_sameParams_79 (hZ : zO b e D A X) : rx_OK (zV b e D A X) mX7_sameParams 0 79 vX7_sameParams_79 := by
  unfold vX7_sameParams_79
  refine s_iconst dX7_sameParams_79 (by decide +kernel) ?_
  exact (wX7_sameParams_80 hZ)
noncomputable def vX7_sameParams_75 : rx_K := o_const 8 (vX7_sameParams_80)
set_option maxRecDepth 20000 in
theorem wX7_sameParams_75 (hZ : zO b e D A X) : rx_OK (zV b e D A X) mX7_sameParams 0 75 vX7_sameParams_75 := by
  unfold vX7_sameParams_75
  refine s_iconst dX7_sameParams_75 (by decide +kernel) ?_
  exact s_goto dX7_sameParams_76 (by decide) (wX7_sameParams_80 hZ)
noncomputable def vX7_sameParams_59 : rx_K := o_ld rx_isR 0 (o_getf 7 10 (o_const 24 (o_ald 1 (o_ld rx_isR 1 (o_getf 7 10 (o_const 24 (o_ald 1 (o_bc (fun x y => lg_cmp x y) (o_c1 rx_eq vX7_sameParams_75 vX7_sameParams_79)))))))))
set_option maxRecDepth 20000 in
theorem wX7_sameParams_59 (hZ : zO b e D A X) : rx_OK (zV b e D A X) mX7_sameParams 0 59 vX7_sameParams_59 := by
  unfold vX7_sameParams_59
  refine s_aload_n hZ.1 dX7_sameParams_59 rfl ?_
  refine yg7_10 dX7_sameParams_60 zw1029 ?_
  refine s_iconst dX7_sameParams_63 (by decide +kernel) ?_
  refine s_lald (tt := 1) rfl dX7_sameParams_64 ?_
  refine s_aload_n hZ.1 dX7_sameParams_65 rfl ?_
  refine yg7_10 dX7_sameParams_66 zw1029 ?_
  refine s_iconst dX7_sameParams_69 (by decide +kernel) ?_
  refine s_lald (tt := 1) rfl dX7_sameParams_70 ?_
  refine s_lcmp dX7_sameParams_71 ?_
  exact s_if_ne dX7_sameParams_72 (by decide) (wX7_sameParams_79 hZ) (wX7_sameParams_75 hZ)
noncomputable def vX7_sameParams_43 : rx_K := o_ld rx_isR 0 (o_getf 7 10 (o_const 16 (o_ald 1 (o_ld rx_isR 1 (o_getf 7 10 (o_const 16 (o_ald 1 (o_bc (fun x y => lg_cmp x y) (o_c1 rx_eq vX7_sameParams_59 vX7_sameParams_79)))))))))
set_option maxRecDepth 20000 in
theorem wX7_sameParams_43 (hZ : zO b e D A X) : rx_OK (zV b e D A X) mX7_sameParams 0 43 vX7_sameParams_43 := by
  unfold vX7_sameParams_43
  refine s_aload_n hZ.1 dX7_sameParams_43 rfl ?_
  refine yg7_10 dX7_sameParams_44 zw1029 ?_
  refine s_iconst dX7_sameParams_47 (by decide +kernel) ?_
  refine s_lald (tt := 1) rfl dX7_sameParams_48 ?_
  refine s_aload_n hZ.1 dX7_sameParams_49 rfl ?_
  refine yg7_10 dX7_sameParams_50 zw1029 ?_
  refine s_iconst dX7_sameParams_53 (by decide +kernel) ?_
  refine s_lald (tt := 1) rfl dX7_sameParams_54 ?_
  refine s_lcmp dX7_sameParams_55 ?_
  exact s_if_ne dX7_sameParams_56 (by decide) (wX7_sameParams_79 hZ) (wX7_sameParams_59 hZ)
noncomputable def vX7_sameParams_27 : rx_K := o_ld rx_isR 0 (o_getf 7 10 (o_const 8 (o_ald 1 (o_ld rx_isR 1 (o_getf 7 10 (o_const 8 (o_ald 1 (o_bc (fun x y => lg_cmp x y) (o_c1 rx_eq vX7_sameParams_43 vX7_sameParams_79)))))))))
set_option maxRecDepth 20000 in
theorem wX7_sameParams_27 (hZ : zO b e D A X) : rx_OK (zV b e D A X) mX7_sameParams 0 27 vX7_sameParams_27 := by
  unfold vX7_sameParams_27
  refine s_aload_n hZ.1 dX7_sameParams_27 rfl ?_
  refine yg7_10 dX7_sameParams_28 zw1029 ?_
  refine s_iconst dX7_sameParams_31 (by decide +kernel) ?_
  refine s_lald (tt := 1) rfl dX7_sameParams_32 ?_
  refine s_aload_n hZ.1 dX7_sameParams_33 rfl ?_
  refine yg7_10 dX7_sameParams_34 zw1029 ?_
  refine s_iconst dX7_sameParams_37 (by decide +kernel) ?_
  refine s_lald (tt := 1) rfl dX7_sameParams_38 ?_
  refine s_lcmp dX7_sameParams_39 ?_
  exact s_if_ne dX7_sameParams_40 (by decide) (wX7_sameParams_79 hZ) (wX7_sameParams_43 hZ)
noncomputable def vX7_sameParams_11 : rx_K := o_ld rx_isR 0 (o_getf 7 10 (o_const 0 (o_ald 1 (o_ld rx_isR 1 (o_getf 7 10 (o_const 0 (o_ald 1 (o_bc (fun x y => lg_cmp x y) (o_c1 rx_eq vX7_sameParams_27 vX7_sameParams_79)))))))))
set_option maxRecDepth 20000 in
theorem wX7_sameParams_11 (hZ : zO b e D A X) : rx_OK (zV b e D A X) mX7_sameParams 0 11 vX7_sameParams_11 := by
  unfold vX7_sameParams_11
  refine s_aload_n hZ.1 dX7_sameParams_11 rfl ?_
  refine yg7_10 dX7_sameParams_12 zw1029 ?_
  refine s_iconst dX7_sameParams_15 (by decide +kernel) ?_
  refine s_lald (tt := 1) rfl dX7_sameParams_16 ?_
  refine s_aload_n hZ.1 dX7_sameParams_17 rfl ?_
  refine yg7_10 dX7_sameParams_18 zw1029 ?_
  refine s_iconst dX7_sameParams_21 (by decide +kernel) ?_
  refine s_lald (tt := 1) rfl dX7_sameParams_22 ?_
  refine s_lcmp dX7_sameParams_23 ?_
  exact s_if_ne dX7_sameParams_24 (by decide) (wX7_sameParams_79 hZ) (wX7_sameParams_27 hZ)
noncomputable def vX7_sameParams_0 : rx_K := o_ld rx_isR 0 (o_getf 7 9 (o_ld rx_isR 1 (o_getf 7 9 (o_c2 rx_eq vX7_sameParams_11 vX7_sameParams_79))))
set_option maxRecDepth 20000 in
theorem wX7_sameParams_0 (hZ : zO b e D A X) : rx_OK (zV b e D A X) mX7_sameParams 0 0 vX7_sameParams_0 := by
  unfold vX7_sameParams_0
  refine s_aload_n hZ.1 dX7_sameParams_0 rfl ?_
  refine yg7_9 dX7_sameParams_1 zw1021 ?_
  refine s_aload_n hZ.1 dX7_sameParams_4 rfl ?_
  refine yg7_9 dX7_sameParams_5 zw1021 ?_
  exact s_icmp_ne dX7_sameParams_8 (by decide) (wX7_sameParams_79 hZ) (wX7_sameParams_11 hZ)
noncomputable def FX7_sameParams : List Nat → rx_H → Option (Nat × rx_H) := rx_ent 2 vX7_sameParams_0
theorem Met_X7_sameParams (hZ : zO b e D A X) : rx_Met (zV b e D A X) 0 yX7_sameParams mX7_sameParams (FX7_sameParams) := rx_entry hZ.1 (wX7_sameParams_0 hZ) (by decide +kernel) rfl (fun h => by cases h)
abbrev mX0_consider : rx_M := (RX0, cX0_consider, 5, none, false)
theorem vy_X0_consider : rx_Y (zV b e D A X) yX0_consider mX0_consider 2 := ⟨zw2129, zw421, by decide, by decide +kernel, by decide +kernel, by decide +kernel⟩
noncomputable def vX0_consider_115 (j : Nat → rx_K) : rx_K := o_ret0
set_option maxRecDepth 20000 in
theorem wX0_consider_115 (hZ : zO b e D A X) (j : Nat → rx_K) (hj : ∀ k pc, [5, 53][k]? = some pc → rx_OK (zV b e D A X) mX0_consider 1 pc (j k)) : rx_OK (zV b e D A X) mX0_consider 1 115 (vX0_consider_115 j) := by
  unfold vX0_consider_115
  exact s_vret rfl dX0_consider_115
noncomputable def vX0_consider_95 (j : Nat → rx_K) : rx_K := o_ld rx_isR 0 (o_getf 0 13 (o_ld rx_isR 0 (o_getf 0 14 (o_ld rx_isR 1 (o_aast 5 [7] (o_ld rx_isR 0 (o_dup (o_getf 0 14 (o_const 8 (o_bi (fun x y => x + y) (o_putf rx_isI 0 14 ((vX0_consider_115 j)))))))))))))
set_option maxRecDepth 20000 in
theorem wX0_consider_95 (hZ : zO b e D A X) (j : Nat → rx_K) (hj : ∀ k pc, [5, 53][k]? = some pc → rx_OK (zV b e D A X) mX0_consider 1 pc (j k)) : rx_OK (zV b e D A X) mX0_consider 1 95 (vX0_consider_95 j) := by
  unfold vX0_consider_95
  refine s_aload_n hZ.1 dX0_consider_95 rfl ?_
  refine yg0_13 dX0_consider_96 zw676 ?_
  refine s_aload_n hZ.1 dX0_consider_99 rfl ?_
  refine yg0_14 dX0_consider_100 zw677 ?_
  refine s_aload_n hZ.1 dX0_consider_103 rfl ?_
  refine s_aast (tt := 5) rfl zaa7 dX0_consider_104 ?_
  refine s_aload_n hZ.1 dX0_consider_105 rfl ?_
  refine s_dup hZ.1 dX0_consider_106 ?_
  refine yg0_14 dX0_consider_107 zw677 ?_
  refine s_iconst dX0_consider_110 (by decide +kernel) ?_
  refine s_iadd dX0_consider_111 ?_
  refine yp0_14 hZ.1 dX0_consider_112 zw677 ?_
  exact (wX0_consider_115 hZ j hj)
noncomputable def vX0_consider_83 (j : Nat → rx_K) : rx_K := o_ld rx_isR 0 (o_getf 0 14 (o_ld rx_isR 0 (o_getf 0 13 (o_alen 5 (o_c2 rx_lt (vX0_consider_95 j) (vX0_consider_115 j))))))
set_option maxRecDepth 20000 in
theorem wX0_consider_83 (hZ : zO b e D A X) (j : Nat → rx_K) (hj : ∀ k pc, [5, 53][k]? = some pc → rx_OK (zV b e D A X) mX0_consider 1 pc (j k)) : rx_OK (zV b e D A X) mX0_consider 1 83 (vX0_consider_83 j) := by
  unfold vX0_consider_83
  refine s_aload_n hZ.1 dX0_consider_83 rfl ?_
  refine yg0_14 dX0_consider_84 zw677 ?_
  refine s_aload_n hZ.1 dX0_consider_87 rfl ?_
  refine yg0_13 dX0_consider_88 zw676 ?_
  refine s_alen (tt := 5) rfl dX0_consider_91 ?_
  exact s_icmp_ge dX0_consider_92 (by decide) (wX0_consider_115 hZ j hj) (wX0_consider_95 hZ j hj)
noncomputable def vX0_consider_77 (j : Nat → rx_K) : rx_K := o_inc 4 (1) ((j 1))
set_option maxRecDepth 20000 in
theorem wX0_consider_77 (hZ : zO b e D A X) (j : Nat → rx_K) (hj : ∀ k pc, [5, 53][k]? = some pc → rx_OK (zV b e D A X) mX0_consider 1 pc (j k)) : rx_OK (zV b e D A X) mX0_consider 1 77 (vX0_consider_77 j) := by
  unfold vX0_consider_77
  refine s_iinc hZ.1 dX0_consider_77 (Nat.le_of_ble_eq_true rfl) ?_
  exact s_goto dX0_consider_80 (by decide) (hj 1 53 rfl)
noncomputable def vX0_consider_76 (j : Nat → rx_K) : rx_K := o_ret0
set_option maxRecDepth 20000 in
theorem wX0_consider_76 (hZ : zO b e D A X) (j : Nat → rx_K) (hj : ∀ k pc, [5, 53][k]? = some pc → rx_OK (zV b e D A X) mX0_consider 1 pc (j k)) : rx_OK (zV b e D A X) mX0_consider 1 76 (vX0_consider_76 j) := by
  unfold vX0_consider_76
  exact s_vret rfl dX0_consider_76
noncomputable def vX0_consider_62 (j : Nat → rx_K) : rx_K := o_ld rx_isR 0 (o_getf 0 13 (o_ld rx_isI 4 (o_ald 5 (o_ld rx_isR 1 (o_callV 1 7 FX7_sameParams (o_c1 rx_eq (vX0_consider_77 j) (vX0_consider_76 j)))))))
set_option maxRecDepth 20000 in
theorem wX0_consider_62 (hZ : zO b e D A X) (j : Nat → rx_K) (hj : ∀ k pc, [5, 53][k]? = some pc → rx_OK (zV b e D A X) mX0_consider 1 pc (j k)) : rx_OK (zV b e D A X) mX0_consider 1 62 (vX0_consider_62 j) := by
  unfold vX0_consider_62
  refine s_aload_n hZ.1 dX0_consider_62 rfl ?_
  refine yg0_13 dX0_consider_63 zw676 ?_
  refine s_iload hZ.1 dX0_consider_66 ?_
  refine s_aald (tt := 5) rfl rfl dX0_consider_68 ?_
  refine s_aload_n hZ.1 dX0_consider_69 rfl ?_
  refine s_callV hZ.1 (Met_X7_sameParams hZ) (Nat.le_of_ble_eq_true rfl) vy_X7_sameParams zcl7 zw1953 zw1954 (Or.inl zw2131) dX0_consider_70 ?_
  exact s_if_eq dX0_consider_73 (by decide) (wX0_consider_77 hZ j hj) (wX0_consider_76 hZ j hj)
noncomputable def vX0_consider_53 (j : Nat → rx_K) : rx_K := o_ld rx_isI 4 (o_ld rx_isR 0 (o_getf 0 14 (o_c2 rx_lt (vX0_consider_62 j) (vX0_consider_83 j))))
set_option maxRecDepth 20000 in
theorem wX0_consider_53 (hZ : zO b e D A X) (j : Nat → rx_K) (hj : ∀ k pc, [5, 53][k]? = some pc → rx_OK (zV b e D A X) mX0_consider 1 pc (j k)) : rx_OK (zV b e D A X) mX0_consider 1 53 (vX0_consider_53 j) := by
  unfold vX0_consider_53
  refine s_iload hZ.1 dX0_consider_53 ?_
  refine s_aload_n hZ.1 dX0_consider_55 rfl ?_
  refine yg0_14 dX0_consider_56 zw677 ?_
  exact s_icmp_ge dX0_consider_59 (by decide) (wX0_consider_83 hZ j hj) (wX0_consider_62 hZ j hj)
noncomputable def vX0_consider_50 (j : Nat → rx_K) : rx_K := o_const 0 (o_st rx_isI 4 ((vX0_consider_53 j)))
set_option maxRecDepth 20000 in
theorem wX0_consider_50 (hZ : zO b e D A X) (j : Nat → rx_K) (hj : ∀ k pc, [5, 53][k]? = some pc → rx_OK (zV b e D A X) mX0_consider 1 pc (j k)) : rx_OK (zV b e D A X) mX0_consider 1 50 (vX0_consider_50 j) := by
  unfold vX0_consider_50
  refine s_iconst dX0_consider_50 (by decide +kernel) ?_
  refine s_istore hZ.1 dX0_consider_51 (Nat.le_of_ble_eq_true rfl) ?_
  exact (wX0_consider_53 hZ j hj)
noncomputable def vX0_consider_37 (j : Nat → rx_K) : rx_K := o_inc 3 (1) (o_ld rx_isR 4 (o_getf 8 8 (o_st rx_isR 4 ((j 0)))))
set_option maxRecDepth 20000 in
theorem wX0_consider_37 (hZ : zO b e D A X) (j : Nat → rx_K) (hj : ∀ k pc, [5, 53][k]? = some pc → rx_OK (zV b e D A X) mX0_consider 1 pc (j k)) : rx_OK (zV b e D A X) mX0_consider 1 37 (vX0_consider_37 j) := by
  unfold vX0_consider_37
  refine s_iinc hZ.1 dX0_consider_37 (Nat.le_of_ble_eq_true rfl) ?_
  refine s_aload hZ.1 dX0_consider_40 ?_
  refine yg8_8 dX0_consider_42 zw487 ?_
  refine s_astore hZ.1 dX0_consider_45 (Nat.le_of_ble_eq_true rfl) ?_
  exact s_goto dX0_consider_47 (by decide) (hj 0 5 rfl)
noncomputable def vX0_consider_36 (j : Nat → rx_K) : rx_K := o_ret0
set_option maxRecDepth 20000 in
theorem wX0_consider_36 (hZ : zO b e D A X) (j : Nat → rx_K) (hj : ∀ k pc, [5, 53][k]? = some pc → rx_OK (zV b e D A X) mX0_consider 1 pc (j k)) : rx_OK (zV b e D A X) mX0_consider 1 36 (vX0_consider_36 j) := by
  unfold vX0_consider_36
  exact s_vret rfl dX0_consider_36
noncomputable def vX0_consider_15 (j : Nat → rx_K) : rx_K := o_ld rx_isR 0 (o_getf 0 0 (o_ld rx_isR 4 (o_getf 8 9 (o_ld rx_isR 1 (o_getf 7 10 (o_ld rx_isI 3 (o_ald 1 (o_callV 2 11 FX11_fits (o_c1 rx_eq (vX0_consider_36 j) (vX0_consider_37 j))))))))))
set_option maxRecDepth 20000 in
theorem wX0_consider_15 (hZ : zO b e D A X) (j : Nat → rx_K) (hj : ∀ k pc, [5, 53][k]? = some pc → rx_OK (zV b e D A X) mX0_consider 1 pc (j k)) : rx_OK (zV b e D A X) mX0_consider 1 15 (vX0_consider_15 j) := by
  unfold vX0_consider_15
  refine s_aload_n hZ.1 dX0_consider_15 rfl ?_
  refine yg0_0 dX0_consider_16 zw661 ?_
  refine s_aload hZ.1 dX0_consider_19 ?_
  refine yg8_9 dX0_consider_21 zw492 ?_
  refine s_aload_n hZ.1 dX0_consider_24 rfl ?_
  refine yg7_10 dX0_consider_25 zw1031 ?_
  refine s_iload_n hZ.1 dX0_consider_28 rfl ?_
  refine s_lald (tt := 1) rfl dX0_consider_29 ?_
  refine s_callV hZ.1 (Met_X11_fits hZ) (Nat.le_of_ble_eq_true rfl) vy_X11_fits zcl11 zw1978 zw1979 (Or.inl zw2130) dX0_consider_30 ?_
  exact s_if_ne dX0_consider_33 (by decide) (wX0_consider_37 hZ j hj) (wX0_consider_36 hZ j hj)
noncomputable def vX0_consider_10 (j : Nat → rx_K) : rx_K := o_ld rx_isI 3 (o_const 32 (o_c2 rx_lt (vX0_consider_15 j) (vX0_consider_50 j)))
set_option maxRecDepth 20000 in
theorem wX0_consider_10 (hZ : zO b e D A X) (j : Nat → rx_K) (hj : ∀ k pc, [5, 53][k]? = some pc → rx_OK (zV b e D A X) mX0_consider 1 pc (j k)) : rx_OK (zV b e D A X) mX0_consider 1 10 (vX0_consider_10 j) := by
  unfold vX0_consider_10
  refine s_iload_n hZ.1 dX0_consider_10 rfl ?_
  refine s_iconst dX0_consider_11 (by decide +kernel) ?_
  exact s_icmp_ge dX0_consider_12 (by decide) (wX0_consider_50 hZ j hj) (wX0_consider_15 hZ j hj)
noncomputable def vX0_consider_5 (j : Nat → rx_K) : rx_K := o_ld rx_isR 4 (o_nul (vX0_consider_50 j) (vX0_consider_10 j))
set_option maxRecDepth 20000 in
theorem wX0_consider_5 (hZ : zO b e D A X) (j : Nat → rx_K) (hj : ∀ k pc, [5, 53][k]? = some pc → rx_OK (zV b e D A X) mX0_consider 1 pc (j k)) : rx_OK (zV b e D A X) mX0_consider 1 5 (vX0_consider_5 j) := by
  unfold vX0_consider_5
  refine s_aload hZ.1 dX0_consider_5 ?_
  exact s_ifnull dX0_consider_7 (by decide) (wX0_consider_50 hZ j hj) (wX0_consider_10 hZ j hj)
noncomputable def vX0_consider_0 (j : Nat → rx_K) : rx_K := o_const 0 (o_st rx_isI 3 (o_ld rx_isR 2 (o_st rx_isR 4 ((vX0_consider_5 j)))))
set_option maxRecDepth 20000 in
theorem wX0_consider_0 (hZ : zO b e D A X) (j : Nat → rx_K) (hj : ∀ k pc, [5, 53][k]? = some pc → rx_OK (zV b e D A X) mX0_consider 1 pc (j k)) : rx_OK (zV b e D A X) mX0_consider 1 0 (vX0_consider_0 j) := by
  unfold vX0_consider_0
  refine s_iconst dX0_consider_0 (by decide +kernel) ?_
  refine s_istore_n hZ.1 dX0_consider_1 rfl (Nat.le_of_ble_eq_true rfl) ?_
  refine s_aload_n hZ.1 dX0_consider_2 rfl ?_
  refine s_astore hZ.1 dX0_consider_3 (Nat.le_of_ble_eq_true rfl) ?_
  exact (wX0_consider_5 hZ j hj)
noncomputable def vhX0_consider (j : Nat → rx_K) : List rx_K := [vX0_consider_5 j, vX0_consider_53 j]
theorem vlX0_consider (hZ : zO b e D A X) : ∀ n k pc, [5, 53][k]? = some pc → rx_OK (zV b e D A X) mX0_consider 1 pc (rx_J (vhX0_consider) n k) := rx_loop fun j hj k pc h => by
  match k, h with
  | 0, h =>
    have e9 := Option.some.inj (show some 5 = some pc from h)
    subst e9
    exact wX0_consider_5 hZ j hj
  | 1, h =>
    have e9 := Option.some.inj (show some 53 = some pc from h)
    subst e9
    exact wX0_consider_53 hZ j hj
  | _ + 2, h => exact absurd h (by simp)
noncomputable def FX0_consider : List Nat → rx_H → Option (Nat × rx_H) := rx_ent 5 (vX0_consider_0 (rx_J (vhX0_consider) 4000000000))
theorem Met_X0_consider (hZ : zO b e D A X) : rx_Met (zV b e D A X) 1 yX0_consider mX0_consider (FX0_consider) := rx_entry hZ.1 (wX0_consider_0 hZ _ (vlX0_consider hZ 4000000000)) (by decide +kernel) rfl (fun h => by cases h)
abbrev mX11_faces : rx_M := (RX11, cX11_faces, 12, (some .int), false)
theorem vy_X11_faces : rx_Y (zV b e D A X) yX11_faces mX11_faces 1 := ⟨zw1986, zw423, by decide, by decide +kernel, by decide +kernel, by decide +kernel⟩
noncomputable def vX11_faces_237 (j : Nat → rx_K) : rx_K := o_ld rx_isR 0 (o_getf 11 11 (o_ld rx_isI 1 (o_ld rx_isI 2 (o_ast 0 (fun v => v) rx_isI (o_ld rx_isI 2 (o_ret1 rx_isI))))))
set_option maxRecDepth 20000 in
theorem wX11_faces_237 (hZ : zO b e D A X) (j : Nat → rx_K) (hj : ∀ k pc, [45][k]? = some pc → rx_OK (zV b e D A X) mX11_faces 0 pc (j k)) : rx_OK (zV b e D A X) mX11_faces 0 237 (vX11_faces_237 j) := by
  unfold vX11_faces_237
  refine s_aload_n hZ.1 dX11_faces_237 rfl ?_
  refine yg11_11 dX11_faces_238 zw1286 ?_
  refine s_iload_n hZ.1 dX11_faces_241 rfl ?_
  refine s_iload_n hZ.1 dX11_faces_242 rfl ?_
  refine s_iast hZ.1 (tt := 0) rfl dX11_faces_243 ?_
  refine s_iload_n hZ.1 dX11_faces_244 rfl ?_
  exact s_iret hZ.1 rfl dX11_faces_245
noncomputable def vX11_faces_231 (j : Nat → rx_K) : rx_K := o_inc 8 (1) ((j 0))
set_option maxRecDepth 20000 in
theorem wX11_faces_231 (hZ : zO b e D A X) (j : Nat → rx_K) (hj : ∀ k pc, [45][k]? = some pc → rx_OK (zV b e D A X) mX11_faces 0 pc (j k)) : rx_OK (zV b e D A X) mX11_faces 0 231 (vX11_faces_231 j) := by
  unfold vX11_faces_231
  refine s_iinc hZ.1 dX11_faces_231 (Nat.le_of_ble_eq_true rfl) ?_
  exact s_goto dX11_faces_234 (by decide) (hj 0 45 rfl)
noncomputable def vX11_faces_202 (j : Nat → rx_K) : rx_K := o_ld rx_isL 5 (o_const 9 (o_ld rx_isI 11 (o_bs (fun x y => x <<< (y.toInt64 &&& 63)) (o_bl (fun x y => x ||| y) (o_stL 5 (o_ld rx_isR 0 (o_getf 11 12 (o_ld rx_isI 7 (o_ld rx_isI 11 (o_ast 0 (fun v => v) rx_isI (o_ld rx_isR 0 (o_getf 11 13 (o_ld rx_isI 7 (o_const 0 (o_ast 0 (fun v => v) rx_isI (o_inc 7 (1) ((vX11_faces_231 j))))))))))))))))))
set_option maxRecDepth 20000 in
theorem wX11_faces_202 (hZ : zO b e D A X) (j : Nat → rx_K) (hj : ∀ k pc, [45][k]? = some pc → rx_OK (zV b e D A X) mX11_faces 0 pc (j k)) : rx_OK (zV b e D A X) mX11_faces 0 202 (vX11_faces_202 j) := by
  unfold vX11_faces_202
  refine s_lload hZ.1 dX11_faces_202 ?_
  refine s_lconst dX11_faces_204 (by decide +kernel) ?_
  refine s_iload hZ.1 dX11_faces_205 ?_
  refine s_lshl dX11_faces_207 ?_
  refine s_lor dX11_faces_208 ?_
  refine s_lstore hZ.1 dX11_faces_209 (Nat.le_of_ble_eq_true rfl) ?_
  refine s_aload_n hZ.1 dX11_faces_211 rfl ?_
  refine yg11_12 dX11_faces_212 zw1287 ?_
  refine s_iload hZ.1 dX11_faces_215 ?_
  refine s_iload hZ.1 dX11_faces_217 ?_
  refine s_iast hZ.1 (tt := 0) rfl dX11_faces_219 ?_
  refine s_aload_n hZ.1 dX11_faces_220 rfl ?_
  refine yg11_13 dX11_faces_221 zw1288 ?_
  refine s_iload hZ.1 dX11_faces_224 ?_
  refine s_iconst dX11_faces_226 (by decide +kernel) ?_
  refine s_iast hZ.1 (tt := 0) rfl dX11_faces_227 ?_
  refine s_iinc hZ.1 dX11_faces_228 (Nat.le_of_ble_eq_true rfl) ?_
  exact (wX11_faces_231 hZ j hj)
noncomputable def vX11_faces_190 (j : Nat → rx_K) : rx_K := o_ld rx_isL 5 (o_ld rx_isI 11 (o_bs (fun x y => (x.toUInt64 >>> (y.toInt64.toUInt64 &&& Int64.toUInt64 63)).toInt64) (o_const 9 (o_bl (fun x y => x &&& y) (o_const 1 (o_bc (fun x y => lg_cmp x y) (o_c1 rx_eq (vX11_faces_202 j) (vX11_faces_231 j))))))))
set_option maxRecDepth 20000 in
theorem wX11_faces_190 (hZ : zO b e D A X) (j : Nat → rx_K) (hj : ∀ k pc, [45][k]? = some pc → rx_OK (zV b e D A X) mX11_faces 0 pc (j k)) : rx_OK (zV b e D A X) mX11_faces 0 190 (vX11_faces_190 j) := by
  unfold vX11_faces_190
  refine s_lload hZ.1 dX11_faces_190 ?_
  refine s_iload hZ.1 dX11_faces_192 ?_
  refine s_lushr dX11_faces_194 ?_
  refine s_lconst dX11_faces_195 (by decide +kernel) ?_
  refine s_land dX11_faces_196 ?_
  refine s_lconst dX11_faces_197 (by decide +kernel) ?_
  refine s_lcmp dX11_faces_198 ?_
  exact s_if_ne dX11_faces_199 (by decide) (wX11_faces_231 hZ j hj) (wX11_faces_202 hZ j hj)
noncomputable def vX11_faces_167 (j : Nat → rx_K) : rx_K := o_ld rx_isL 3 (o_const 9 (o_ld rx_isI 11 (o_bs (fun x y => x <<< (y.toInt64 &&& 63)) (o_bl (fun x y => x ||| y) (o_stL 3 (o_ld rx_isR 0 (o_getf 11 10 (o_ld rx_isI 1 (o_const 512 (o_bi (fun x y => x * y) (o_ld rx_isI 2 (o_bi (fun x y => x + y) (o_ld rx_isI 11 (o_ast 0 (fun v => v) rx_isI (o_inc 2 (1) ((vX11_faces_190 j)))))))))))))))))
set_option maxRecDepth 20000 in
theorem wX11_faces_167 (hZ : zO b e D A X) (j : Nat → rx_K) (hj : ∀ k pc, [45][k]? = some pc → rx_OK (zV b e D A X) mX11_faces 0 pc (j k)) : rx_OK (zV b e D A X) mX11_faces 0 167 (vX11_faces_167 j) := by
  unfold vX11_faces_167
  refine s_lload_n hZ.1 dX11_faces_167 rfl ?_
  refine s_lconst dX11_faces_168 (by decide +kernel) ?_
  refine s_iload hZ.1 dX11_faces_169 ?_
  refine s_lshl dX11_faces_171 ?_
  refine s_lor dX11_faces_172 ?_
  refine s_lstore_n hZ.1 dX11_faces_173 rfl (Nat.le_of_ble_eq_true rfl) ?_
  refine s_aload_n hZ.1 dX11_faces_174 rfl ?_
  refine yg11_10 dX11_faces_175 zw1282 ?_
  refine s_iload_n hZ.1 dX11_faces_178 rfl ?_
  refine s_bipush dX11_faces_179 (by decide +kernel) ?_
  refine s_imul dX11_faces_181 ?_
  refine s_iload_n hZ.1 dX11_faces_182 rfl ?_
  refine s_iadd dX11_faces_183 ?_
  refine s_iload hZ.1 dX11_faces_184 ?_
  refine s_iast hZ.1 (tt := 0) rfl dX11_faces_186 ?_
  refine s_iinc hZ.1 dX11_faces_187 (Nat.le_of_ble_eq_true rfl) ?_
  exact (wX11_faces_190 hZ j hj)
noncomputable def vX11_faces_156 (j : Nat → rx_K) : rx_K := o_ld rx_isL 3 (o_ld rx_isI 11 (o_bs (fun x y => (x.toUInt64 >>> (y.toInt64.toUInt64 &&& Int64.toUInt64 63)).toInt64) (o_const 9 (o_bl (fun x y => x &&& y) (o_const 1 (o_bc (fun x y => lg_cmp x y) (o_c1 rx_eq (vX11_faces_167 j) (vX11_faces_190 j))))))))
set_option maxRecDepth 20000 in
theorem wX11_faces_156 (hZ : zO b e D A X) (j : Nat → rx_K) (hj : ∀ k pc, [45][k]? = some pc → rx_OK (zV b e D A X) mX11_faces 0 pc (j k)) : rx_OK (zV b e D A X) mX11_faces 0 156 (vX11_faces_156 j) := by
  unfold vX11_faces_156
  refine s_lload_n hZ.1 dX11_faces_156 rfl ?_
  refine s_iload hZ.1 dX11_faces_157 ?_
  refine s_lushr dX11_faces_159 ?_
  refine s_lconst dX11_faces_160 (by decide +kernel) ?_
  refine s_land dX11_faces_161 ?_
  refine s_lconst dX11_faces_162 (by decide +kernel) ?_
  refine s_lcmp dX11_faces_163 ?_
  exact s_if_ne dX11_faces_164 (by decide) (wX11_faces_190 hZ j hj) (wX11_faces_167 hZ j hj)
noncomputable def vX11_faces_150 (j : Nat → rx_K) : rx_K := o_ld rx_isI 10 (o_const 32 (o_c2 rx_lt (vX11_faces_156 j) (vX11_faces_190 j)))
set_option maxRecDepth 20000 in
theorem wX11_faces_150 (hZ : zO b e D A X) (j : Nat → rx_K) (hj : ∀ k pc, [45][k]? = some pc → rx_OK (zV b e D A X) mX11_faces 0 pc (j k)) : rx_OK (zV b e D A X) mX11_faces 0 150 (vX11_faces_150 j) := by
  unfold vX11_faces_150
  refine s_iload hZ.1 dX11_faces_150 ?_
  refine s_iconst dX11_faces_152 (by decide +kernel) ?_
  exact s_icmp_ge dX11_faces_153 (by decide) (wX11_faces_190 hZ j hj) (wX11_faces_156 hZ j hj)
noncomputable def vX11_faces_145 (j : Nat → rx_K) : rx_K := o_ld rx_isI 11 (o_c1 rx_lt (vX11_faces_231 j) (vX11_faces_150 j))
set_option maxRecDepth 20000 in
theorem wX11_faces_145 (hZ : zO b e D A X) (j : Nat → rx_K) (hj : ∀ k pc, [45][k]? = some pc → rx_OK (zV b e D A X) mX11_faces 0 pc (j k)) : rx_OK (zV b e D A X) mX11_faces 0 145 (vX11_faces_145 j) := by
  unfold vX11_faces_145
  refine s_iload hZ.1 dX11_faces_145 ?_
  exact s_if_lt dX11_faces_147 (by decide) (wX11_faces_231 hZ j hj) (wX11_faces_150 hZ j hj)
noncomputable def vX11_faces_139 (j : Nat → rx_K) : rx_K := o_inc 7 (-1) ((vX11_faces_231 j))
set_option maxRecDepth 20000 in
theorem wX11_faces_139 (hZ : zO b e D A X) (j : Nat → rx_K) (hj : ∀ k pc, [45][k]? = some pc → rx_OK (zV b e D A X) mX11_faces 0 pc (j k)) : rx_OK (zV b e D A X) mX11_faces 0 139 (vX11_faces_139 j) := by
  unfold vX11_faces_139
  refine s_iinc hZ.1 dX11_faces_139 (Nat.le_of_ble_eq_true rfl) ?_
  exact s_goto dX11_faces_142 (by decide) (wX11_faces_231 hZ j hj)
noncomputable def vX11_faces_131 (j : Nat → rx_K) : rx_K := o_st rx_isI 11 (o_ld rx_isI 10 (o_const 32 (o_c2 (fun h x y => rx_lt h y x) (vX11_faces_139 j) (vX11_faces_145 j))))
set_option maxRecDepth 20000 in
theorem wX11_faces_131 (hZ : zO b e D A X) (j : Nat → rx_K) (hj : ∀ k pc, [45][k]? = some pc → rx_OK (zV b e D A X) mX11_faces 0 pc (j k)) : rx_OK (zV b e D A X) mX11_faces 0 131 (vX11_faces_131 j) := by
  unfold vX11_faces_131
  refine s_istore hZ.1 dX11_faces_131 (Nat.le_of_ble_eq_true rfl) ?_
  refine s_iload hZ.1 dX11_faces_133 ?_
  refine s_iconst dX11_faces_135 (by decide +kernel) ?_
  exact s_icmp_le dX11_faces_136 (by decide) (wX11_faces_145 hZ j hj) (wX11_faces_139 hZ j hj)
noncomputable def vX11_faces_129 (j : Nat → rx_K) : rx_K := o_const 34359738352 ((vX11_faces_131 j))
set_option maxRecDepth 20000 in
theorem wX11_faces_129 (hZ : zO b e D A X) (j : Nat → rx_K) (hj : ∀ k pc, [45][k]? = some pc → rx_OK (zV b e D A X) mX11_faces 0 pc (j k)) : rx_OK (zV b e D A X) mX11_faces 0 129 (vX11_faces_129 j) := by
  unfold vX11_faces_129
  refine s_bipush dX11_faces_129 (by decide +kernel) ?_
  exact (wX11_faces_131 hZ j hj)
noncomputable def vX11_faces_119 (j : Nat → rx_K) : rx_K := o_ld rx_isR 0 (o_getf 11 3 (o_ld rx_isI 9 (o_ald 0 ((vX11_faces_131 j)))))
set_option maxRecDepth 20000 in
theorem wX11_faces_119 (hZ : zO b e D A X) (j : Nat → rx_K) (hj : ∀ k pc, [45][k]? = some pc → rx_OK (zV b e D A X) mX11_faces 0 pc (j k)) : rx_OK (zV b e D A X) mX11_faces 0 119 (vX11_faces_119 j) := by
  unfold vX11_faces_119
  refine s_aload_n hZ.1 dX11_faces_119 rfl ?_
  refine yg11_3 dX11_faces_120 zw1262 ?_
  refine s_iload hZ.1 dX11_faces_123 ?_
  refine s_iald (tt := 0) rfl dX11_faces_125 ?_
  exact s_goto dX11_faces_126 (by decide) (wX11_faces_131 hZ j hj)
noncomputable def vX11_faces_113 (j : Nat → rx_K) : rx_K := o_ld rx_isI 10 (o_const 32 (o_c2 rx_eq (vX11_faces_119 j) (vX11_faces_129 j)))
set_option maxRecDepth 20000 in
theorem wX11_faces_113 (hZ : zO b e D A X) (j : Nat → rx_K) (hj : ∀ k pc, [45][k]? = some pc → rx_OK (zV b e D A X) mX11_faces 0 pc (j k)) : rx_OK (zV b e D A X) mX11_faces 0 113 (vX11_faces_113 j) := by
  unfold vX11_faces_113
  refine s_iload hZ.1 dX11_faces_113 ?_
  refine s_iconst dX11_faces_115 (by decide +kernel) ?_
  exact s_icmp_ne dX11_faces_116 (by decide) (wX11_faces_129 hZ j hj) (wX11_faces_119 hZ j hj)
noncomputable def vX11_faces_98 (j : Nat → rx_K) : rx_K := o_ld rx_isR 0 (o_getf 11 5 (o_ld rx_isI 9 (o_const 32 (o_bi (fun x y => x * y) (o_ld rx_isI 10 (o_bi (fun x y => x + y) (o_ald 0 ((vX11_faces_131 j)))))))))
set_option maxRecDepth 20000 in
theorem wX11_faces_98 (hZ : zO b e D A X) (j : Nat → rx_K) (hj : ∀ k pc, [45][k]? = some pc → rx_OK (zV b e D A X) mX11_faces 0 pc (j k)) : rx_OK (zV b e D A X) mX11_faces 0 98 (vX11_faces_98 j) := by
  unfold vX11_faces_98
  refine s_aload_n hZ.1 dX11_faces_98 rfl ?_
  refine yg11_5 dX11_faces_99 zw1272 ?_
  refine s_iload hZ.1 dX11_faces_102 ?_
  refine s_iconst dX11_faces_104 (by decide +kernel) ?_
  refine s_imul dX11_faces_105 ?_
  refine s_iload hZ.1 dX11_faces_106 ?_
  refine s_iadd dX11_faces_108 ?_
  refine s_iald (tt := 0) rfl dX11_faces_109 ?_
  exact s_goto dX11_faces_110 (by decide) (wX11_faces_131 hZ j hj)
noncomputable def vX11_faces_92 (j : Nat → rx_K) : rx_K := o_ld rx_isI 10 (o_const 32 (o_c2 rx_lt (vX11_faces_98 j) (vX11_faces_113 j)))
set_option maxRecDepth 20000 in
theorem wX11_faces_92 (hZ : zO b e D A X) (j : Nat → rx_K) (hj : ∀ k pc, [45][k]? = some pc → rx_OK (zV b e D A X) mX11_faces 0 pc (j k)) : rx_OK (zV b e D A X) mX11_faces 0 92 (vX11_faces_92 j) := by
  unfold vX11_faces_92
  refine s_iload hZ.1 dX11_faces_92 ?_
  refine s_iconst dX11_faces_94 (by decide +kernel) ?_
  exact s_icmp_ge dX11_faces_95 (by decide) (wX11_faces_113 hZ j hj) (wX11_faces_98 hZ j hj)
noncomputable def vX11_faces_57 (j : Nat → rx_K) : rx_K := o_ld rx_isR 0 (o_getf 11 12 (o_ld rx_isI 7 (o_const 8 (o_bi (fun x y => x - y) (o_ald 0 (o_st rx_isI 9 (o_ld rx_isR 0 (o_getf 11 13 (o_ld rx_isI 7 (o_const 8 (o_bi (fun x y => x - y) (o_ald 0 (o_st rx_isI 10 (o_ld rx_isR 0 (o_getf 11 13 (o_ld rx_isI 7 (o_const 8 (o_bi (fun x y => x - y) (o_dup2 (o_ald 0 (o_const 8 (o_bi (fun x y => x + y) (o_ast 0 (fun v => v) rx_isI ((vX11_faces_92 j)))))))))))))))))))))))))
set_option maxRecDepth 20000 in
theorem wX11_faces_57 (hZ : zO b e D A X) (j : Nat → rx_K) (hj : ∀ k pc, [45][k]? = some pc → rx_OK (zV b e D A X) mX11_faces 0 pc (j k)) : rx_OK (zV b e D A X) mX11_faces 0 57 (vX11_faces_57 j) := by
  unfold vX11_faces_57
  refine s_aload_n hZ.1 dX11_faces_57 rfl ?_
  refine yg11_12 dX11_faces_58 zw1287 ?_
  refine s_iload hZ.1 dX11_faces_61 ?_
  refine s_iconst dX11_faces_63 (by decide +kernel) ?_
  refine s_isub dX11_faces_64 ?_
  refine s_iald (tt := 0) rfl dX11_faces_65 ?_
  refine s_istore hZ.1 dX11_faces_66 (Nat.le_of_ble_eq_true rfl) ?_
  refine s_aload_n hZ.1 dX11_faces_68 rfl ?_
  refine yg11_13 dX11_faces_69 zw1288 ?_
  refine s_iload hZ.1 dX11_faces_72 ?_
  refine s_iconst dX11_faces_74 (by decide +kernel) ?_
  refine s_isub dX11_faces_75 ?_
  refine s_iald (tt := 0) rfl dX11_faces_76 ?_
  refine s_istore hZ.1 dX11_faces_77 (Nat.le_of_ble_eq_true rfl) ?_
  refine s_aload_n hZ.1 dX11_faces_79 rfl ?_
  refine yg11_13 dX11_faces_80 zw1288 ?_
  refine s_iload hZ.1 dX11_faces_83 ?_
  refine s_iconst dX11_faces_85 (by decide +kernel) ?_
  refine s_isub dX11_faces_86 ?_
  refine s_dup2 hZ.1 dX11_faces_87 ?_
  refine s_iald (tt := 0) rfl dX11_faces_88 ?_
  refine s_iconst dX11_faces_89 (by decide +kernel) ?_
  refine s_iadd dX11_faces_90 ?_
  refine s_iast hZ.1 (tt := 0) rfl dX11_faces_91 ?_
  exact (wX11_faces_92 hZ j hj)
noncomputable def vX11_faces_52 (j : Nat → rx_K) : rx_K := o_ld rx_isI 7 (o_c1 (fun h x y => rx_lt h y x) (vX11_faces_57 j) (vX11_faces_237 j))
set_option maxRecDepth 20000 in
theorem wX11_faces_52 (hZ : zO b e D A X) (j : Nat → rx_K) (hj : ∀ k pc, [45][k]? = some pc → rx_OK (zV b e D A X) mX11_faces 0 pc (j k)) : rx_OK (zV b e D A X) mX11_faces 0 52 (vX11_faces_52 j) := by
  unfold vX11_faces_52
  refine s_iload hZ.1 dX11_faces_52 ?_
  exact s_if_le dX11_faces_54 (by decide) (wX11_faces_237 hZ j hj) (wX11_faces_57 hZ j hj)
noncomputable def vX11_faces_45 (j : Nat → rx_K) : rx_K := o_ld rx_isI 8 (o_const 800000000 (o_c2 rx_lt (vX11_faces_52 j) (vX11_faces_237 j)))
set_option maxRecDepth 20000 in
theorem wX11_faces_45 (hZ : zO b e D A X) (j : Nat → rx_K) (hj : ∀ k pc, [45][k]? = some pc → rx_OK (zV b e D A X) mX11_faces 0 pc (j k)) : rx_OK (zV b e D A X) mX11_faces 0 45 (vX11_faces_45 j) := by
  unfold vX11_faces_45
  refine s_iload hZ.1 dX11_faces_45 ?_
  refine s_ldc dX11_faces_47 zw1987 (by decide +kernel) ?_
  exact s_icmp_ge dX11_faces_49 (by decide) (wX11_faces_237 hZ j hj) (wX11_faces_52 hZ j hj)
noncomputable def vX11_faces_16 (j : Nat → rx_K) : rx_K := o_const 0 (o_st rx_isI 2 (o_const 1 (o_stL 3 (o_const 9 (o_ld rx_isI 1 (o_bs (fun x y => x <<< (y.toInt64 &&& 63)) (o_stL 5 (o_const 8 (o_st rx_isI 7 (o_ld rx_isR 0 (o_getf 11 12 (o_const 0 (o_ld rx_isI 1 (o_ast 0 (fun v => v) rx_isI (o_ld rx_isR 0 (o_getf 11 13 (o_const 0 (o_const 0 (o_ast 0 (fun v => v) rx_isI (o_const 0 (o_st rx_isI 8 ((vX11_faces_45 j)))))))))))))))))))))))
set_option maxRecDepth 20000 in
theorem wX11_faces_16 (hZ : zO b e D A X) (j : Nat → rx_K) (hj : ∀ k pc, [45][k]? = some pc → rx_OK (zV b e D A X) mX11_faces 0 pc (j k)) : rx_OK (zV b e D A X) mX11_faces 0 16 (vX11_faces_16 j) := by
  unfold vX11_faces_16
  refine s_iconst dX11_faces_16 (by decide +kernel) ?_
  refine s_istore_n hZ.1 dX11_faces_17 rfl (Nat.le_of_ble_eq_true rfl) ?_
  refine s_lconst dX11_faces_18 (by decide +kernel) ?_
  refine s_lstore_n hZ.1 dX11_faces_19 rfl (Nat.le_of_ble_eq_true rfl) ?_
  refine s_lconst dX11_faces_20 (by decide +kernel) ?_
  refine s_iload_n hZ.1 dX11_faces_21 rfl ?_
  refine s_lshl dX11_faces_22 ?_
  refine s_lstore hZ.1 dX11_faces_23 (Nat.le_of_ble_eq_true rfl) ?_
  refine s_iconst dX11_faces_25 (by decide +kernel) ?_
  refine s_istore hZ.1 dX11_faces_26 (Nat.le_of_ble_eq_true rfl) ?_
  refine s_aload_n hZ.1 dX11_faces_28 rfl ?_
  refine yg11_12 dX11_faces_29 zw1287 ?_
  refine s_iconst dX11_faces_32 (by decide +kernel) ?_
  refine s_iload_n hZ.1 dX11_faces_33 rfl ?_
  refine s_iast hZ.1 (tt := 0) rfl dX11_faces_34 ?_
  refine s_aload_n hZ.1 dX11_faces_35 rfl ?_
  refine yg11_13 dX11_faces_36 zw1288 ?_
  refine s_iconst dX11_faces_39 (by decide +kernel) ?_
  refine s_iconst dX11_faces_40 (by decide +kernel) ?_
  refine s_iast hZ.1 (tt := 0) rfl dX11_faces_41 ?_
  refine s_iconst dX11_faces_42 (by decide +kernel) ?_
  refine s_istore hZ.1 dX11_faces_43 (Nat.le_of_ble_eq_true rfl) ?_
  exact (wX11_faces_45 hZ j hj)
noncomputable def vX11_faces_9 (j : Nat → rx_K) : rx_K := o_ld rx_isR 0 (o_getf 11 11 (o_ld rx_isI 1 (o_ald 0 (o_ret1 rx_isI))))
set_option maxRecDepth 20000 in
theorem wX11_faces_9 (hZ : zO b e D A X) (j : Nat → rx_K) (hj : ∀ k pc, [45][k]? = some pc → rx_OK (zV b e D A X) mX11_faces 0 pc (j k)) : rx_OK (zV b e D A X) mX11_faces 0 9 (vX11_faces_9 j) := by
  unfold vX11_faces_9
  refine s_aload_n hZ.1 dX11_faces_9 rfl ?_
  refine yg11_11 dX11_faces_10 zw1286 ?_
  refine s_iload_n hZ.1 dX11_faces_13 rfl ?_
  refine s_iald (tt := 0) rfl dX11_faces_14 ?_
  exact s_iret hZ.1 rfl dX11_faces_15
noncomputable def vX11_faces_0 (j : Nat → rx_K) : rx_K := o_ld rx_isR 0 (o_getf 11 11 (o_ld rx_isI 1 (o_ald 0 (o_c1 rx_lt (vX11_faces_16 j) (vX11_faces_9 j)))))
set_option maxRecDepth 20000 in
theorem wX11_faces_0 (hZ : zO b e D A X) (j : Nat → rx_K) (hj : ∀ k pc, [45][k]? = some pc → rx_OK (zV b e D A X) mX11_faces 0 pc (j k)) : rx_OK (zV b e D A X) mX11_faces 0 0 (vX11_faces_0 j) := by
  unfold vX11_faces_0
  refine s_aload_n hZ.1 dX11_faces_0 rfl ?_
  refine yg11_11 dX11_faces_1 zw1286 ?_
  refine s_iload_n hZ.1 dX11_faces_4 rfl ?_
  refine s_iald (tt := 0) rfl dX11_faces_5 ?_
  exact s_if_lt dX11_faces_6 (by decide) (wX11_faces_16 hZ j hj) (wX11_faces_9 hZ j hj)
noncomputable def vhX11_faces (j : Nat → rx_K) : List rx_K := [vX11_faces_45 j]
theorem vlX11_faces (hZ : zO b e D A X) : ∀ n k pc, [45][k]? = some pc → rx_OK (zV b e D A X) mX11_faces 0 pc (rx_J (vhX11_faces) n k) := rx_loop fun j hj k pc h => by
  match k, h with
  | 0, h =>
    have e9 := Option.some.inj (show some 45 = some pc from h)
    subst e9
    exact wX11_faces_45 hZ j hj
  | _ + 1, h => exact absurd h (by simp)
noncomputable def FX11_faces : List Nat → rx_H → Option (Nat × rx_H) := rx_ent 12 (vX11_faces_0 (rx_J (vhX11_faces) 4000000000))
theorem Met_X11_faces (hZ : zO b e D A X) : rx_Met (zV b e D A X) 0 yX11_faces mX11_faces (FX11_faces) := rx_entry hZ.1 (wX11_faces_0 hZ _ (vlX11_faces hZ 4000000000)) (by decide +kernel) rfl (fun h => by cases h)
abbrev mX0_whereLooked : rx_M := (RX0, cX0_whereLooked, 7, (some .int), false)
theorem vy_X0_whereLooked : rx_Y (zV b e D A X) yX0_whereLooked mX0_whereLooked 2 := ⟨zw2124, zw421, by decide, by decide +kernel, by decide +kernel, by decide +kernel⟩
noncomputable def vX0_whereLooked_133 (j : Nat → rx_K) : rx_K := o_ld rx_isI 3 (o_ret1 rx_isI)
set_option maxRecDepth 20000 in
theorem wX0_whereLooked_133 (hZ : zO b e D A X) (j : Nat → rx_K) (hj : ∀ k pc, [23, 96][k]? = some pc → rx_OK (zV b e D A X) mX0_whereLooked 1 pc (j k)) : rx_OK (zV b e D A X) mX0_whereLooked 1 133 (vX0_whereLooked_133 j) := by
  unfold vX0_whereLooked_133
  refine s_iload_n hZ.1 dX0_whereLooked_133 rfl ?_
  exact s_iret hZ.1 rfl dX0_whereLooked_134
noncomputable def vX0_whereLooked_103 (j : Nat → rx_K) : rx_K := o_ld rx_isR 0 (o_getf 0 15 (o_ld rx_isI 3 (o_ld rx_isR 0 (o_getf 0 0 (o_getf 11 10 (o_ld rx_isI 1 (o_const 512 (o_bi (fun x y => x * y) (o_ld rx_isI 6 (o_bi (fun x y => x + y) (o_ald 0 (o_ast 0 (fun v => v) rx_isI (o_inc 3 (1) (o_inc 6 (1) ((j 1))))))))))))))))
set_option maxRecDepth 20000 in
theorem wX0_whereLooked_103 (hZ : zO b e D A X) (j : Nat → rx_K) (hj : ∀ k pc, [23, 96][k]? = some pc → rx_OK (zV b e D A X) mX0_whereLooked 1 pc (j k)) : rx_OK (zV b e D A X) mX0_whereLooked 1 103 (vX0_whereLooked_103 j) := by
  unfold vX0_whereLooked_103
  refine s_aload_n hZ.1 dX0_whereLooked_103 rfl ?_
  refine yg0_15 dX0_whereLooked_104 zw678 ?_
  refine s_iload_n hZ.1 dX0_whereLooked_107 rfl ?_
  refine s_aload_n hZ.1 dX0_whereLooked_108 rfl ?_
  refine yg0_0 dX0_whereLooked_109 zw661 ?_
  refine yg11_10 dX0_whereLooked_112 zw1285 ?_
  refine s_iload_n hZ.1 dX0_whereLooked_115 rfl ?_
  refine s_bipush dX0_whereLooked_116 (by decide +kernel) ?_
  refine s_imul dX0_whereLooked_118 ?_
  refine s_iload hZ.1 dX0_whereLooked_119 ?_
  refine s_iadd dX0_whereLooked_121 ?_
  refine s_iald (tt := 0) rfl dX0_whereLooked_122 ?_
  refine s_iast hZ.1 (tt := 0) rfl dX0_whereLooked_123 ?_
  refine s_iinc hZ.1 dX0_whereLooked_124 (Nat.le_of_ble_eq_true rfl) ?_
  refine s_iinc hZ.1 dX0_whereLooked_127 (Nat.le_of_ble_eq_true rfl) ?_
  exact s_goto dX0_whereLooked_130 (by decide) (hj 1 96 rfl)
noncomputable def vX0_whereLooked_96 (j : Nat → rx_K) : rx_K := o_ld rx_isI 6 (o_ld rx_isI 5 (o_c2 rx_lt (vX0_whereLooked_103 j) (vX0_whereLooked_133 j)))
set_option maxRecDepth 20000 in
theorem wX0_whereLooked_96 (hZ : zO b e D A X) (j : Nat → rx_K) (hj : ∀ k pc, [23, 96][k]? = some pc → rx_OK (zV b e D A X) mX0_whereLooked 1 pc (j k)) : rx_OK (zV b e D A X) mX0_whereLooked 1 96 (vX0_whereLooked_96 j) := by
  unfold vX0_whereLooked_96
  refine s_iload hZ.1 dX0_whereLooked_96 ?_
  refine s_iload hZ.1 dX0_whereLooked_98 ?_
  exact s_icmp_ge dX0_whereLooked_100 (by decide) (wX0_whereLooked_133 hZ j hj) (wX0_whereLooked_103 hZ j hj)
noncomputable def vX0_whereLooked_91 (j : Nat → rx_K) : rx_K := o_st rx_isI 5 (o_const 0 (o_st rx_isI 6 ((vX0_whereLooked_96 j))))
set_option maxRecDepth 20000 in
theorem wX0_whereLooked_91 (hZ : zO b e D A X) (j : Nat → rx_K) (hj : ∀ k pc, [23, 96][k]? = some pc → rx_OK (zV b e D A X) mX0_whereLooked 1 pc (j k)) : rx_OK (zV b e D A X) mX0_whereLooked 1 91 (vX0_whereLooked_91 j) := by
  unfold vX0_whereLooked_91
  refine s_istore hZ.1 dX0_whereLooked_91 (Nat.le_of_ble_eq_true rfl) ?_
  refine s_iconst dX0_whereLooked_93 (by decide +kernel) ?_
  refine s_istore hZ.1 dX0_whereLooked_94 (Nat.le_of_ble_eq_true rfl) ?_
  exact (wX0_whereLooked_96 hZ j hj)
noncomputable def vX0_whereLooked_83 (j : Nat → rx_K) : rx_K := o_ld rx_isR 0 (o_getf 0 0 (o_ld rx_isI 1 (o_callV 1 11 FX11_faces ((vX0_whereLooked_91 j)))))
set_option maxRecDepth 20000 in
theorem wX0_whereLooked_83 (hZ : zO b e D A X) (j : Nat → rx_K) (hj : ∀ k pc, [23, 96][k]? = some pc → rx_OK (zV b e D A X) mX0_whereLooked 1 pc (j k)) : rx_OK (zV b e D A X) mX0_whereLooked 1 83 (vX0_whereLooked_83 j) := by
  unfold vX0_whereLooked_83
  refine s_aload_n hZ.1 dX0_whereLooked_83 rfl ?_
  refine yg0_0 dX0_whereLooked_84 zw661 ?_
  refine s_iload_n hZ.1 dX0_whereLooked_87 rfl ?_
  refine s_callV hZ.1 (Met_X11_faces hZ) (Nat.le_of_ble_eq_true rfl) vy_X11_faces zcl11 zw1984 zw1985 (Or.inl zw2125) dX0_whereLooked_88 ?_
  exact (wX0_whereLooked_91 hZ j hj)
noncomputable def vX0_whereLooked_79 (j : Nat → rx_K) : rx_K := o_const 0 ((vX0_whereLooked_91 j))
set_option maxRecDepth 20000 in
theorem wX0_whereLooked_79 (hZ : zO b e D A X) (j : Nat → rx_K) (hj : ∀ k pc, [23, 96][k]? = some pc → rx_OK (zV b e D A X) mX0_whereLooked 1 pc (j k)) : rx_OK (zV b e D A X) mX0_whereLooked 1 79 (vX0_whereLooked_79 j) := by
  unfold vX0_whereLooked_79
  refine s_iconst dX0_whereLooked_79 (by decide +kernel) ?_
  exact s_goto dX0_whereLooked_80 (by decide) (wX0_whereLooked_91 hZ j hj)
noncomputable def vX0_whereLooked_75 (j : Nat → rx_K) : rx_K := o_ld rx_isI 2 (o_c1 rx_eq (vX0_whereLooked_83 j) (vX0_whereLooked_79 j))
set_option maxRecDepth 20000 in
theorem wX0_whereLooked_75 (hZ : zO b e D A X) (j : Nat → rx_K) (hj : ∀ k pc, [23, 96][k]? = some pc → rx_OK (zV b e D A X) mX0_whereLooked 1 pc (j k)) : rx_OK (zV b e D A X) mX0_whereLooked 1 75 (vX0_whereLooked_75 j) := by
  unfold vX0_whereLooked_75
  refine s_iload_n hZ.1 dX0_whereLooked_75 rfl ?_
  exact s_if_eq dX0_whereLooked_76 (by decide) (wX0_whereLooked_83 hZ j hj) (wX0_whereLooked_79 hZ j hj)
noncomputable def vX0_whereLooked_46 (j : Nat → rx_K) : rx_K := o_ld rx_isR 0 (o_getf 0 15 (o_ld rx_isI 3 (o_ld rx_isI 4 (o_ast 0 (fun v => v) rx_isI (o_inc 3 (1) (o_ld rx_isR 0 (o_getf 0 0 (o_getf 11 3 (o_ld rx_isI 4 (o_ald 0 (o_st rx_isI 4 (o_inc 5 (1) ((j 0))))))))))))))
set_option maxRecDepth 20000 in
theorem wX0_whereLooked_46 (hZ : zO b e D A X) (j : Nat → rx_K) (hj : ∀ k pc, [23, 96][k]? = some pc → rx_OK (zV b e D A X) mX0_whereLooked 1 pc (j k)) : rx_OK (zV b e D A X) mX0_whereLooked 1 46 (vX0_whereLooked_46 j) := by
  unfold vX0_whereLooked_46
  refine s_aload_n hZ.1 dX0_whereLooked_46 rfl ?_
  refine yg0_15 dX0_whereLooked_47 zw678 ?_
  refine s_iload_n hZ.1 dX0_whereLooked_50 rfl ?_
  refine s_iload hZ.1 dX0_whereLooked_51 ?_
  refine s_iast hZ.1 (tt := 0) rfl dX0_whereLooked_53 ?_
  refine s_iinc hZ.1 dX0_whereLooked_54 (Nat.le_of_ble_eq_true rfl) ?_
  refine s_aload_n hZ.1 dX0_whereLooked_57 rfl ?_
  refine yg0_0 dX0_whereLooked_58 zw661 ?_
  refine yg11_3 dX0_whereLooked_61 zw1263 ?_
  refine s_iload hZ.1 dX0_whereLooked_64 ?_
  refine s_iald (tt := 0) rfl dX0_whereLooked_66 ?_
  refine s_istore hZ.1 dX0_whereLooked_67 (Nat.le_of_ble_eq_true rfl) ?_
  refine s_iinc hZ.1 dX0_whereLooked_69 (Nat.le_of_ble_eq_true rfl) ?_
  exact s_goto dX0_whereLooked_72 (by decide) (hj 0 23 rfl)
noncomputable def vX0_whereLooked_42 (j : Nat → rx_K) : rx_K := o_ld rx_isI 2 (o_c1 rx_eq (vX0_whereLooked_46 j) (vX0_whereLooked_75 j))
set_option maxRecDepth 20000 in
theorem wX0_whereLooked_42 (hZ : zO b e D A X) (j : Nat → rx_K) (hj : ∀ k pc, [23, 96][k]? = some pc → rx_OK (zV b e D A X) mX0_whereLooked 1 pc (j k)) : rx_OK (zV b e D A X) mX0_whereLooked 1 42 (vX0_whereLooked_42 j) := by
  unfold vX0_whereLooked_42
  refine s_iload_n hZ.1 dX0_whereLooked_42 rfl ?_
  exact s_if_ne dX0_whereLooked_43 (by decide) (wX0_whereLooked_75 hZ j hj) (wX0_whereLooked_46 hZ j hj)
noncomputable def vX0_whereLooked_37 (j : Nat → rx_K) : rx_K := o_ld rx_isI 4 (o_c1 rx_lt (vX0_whereLooked_75 j) (vX0_whereLooked_42 j))
set_option maxRecDepth 20000 in
theorem wX0_whereLooked_37 (hZ : zO b e D A X) (j : Nat → rx_K) (hj : ∀ k pc, [23, 96][k]? = some pc → rx_OK (zV b e D A X) mX0_whereLooked 1 pc (j k)) : rx_OK (zV b e D A X) mX0_whereLooked 1 37 (vX0_whereLooked_37 j) := by
  unfold vX0_whereLooked_37
  refine s_iload hZ.1 dX0_whereLooked_37 ?_
  exact s_if_lt dX0_whereLooked_39 (by decide) (wX0_whereLooked_75 hZ j hj) (wX0_whereLooked_42 hZ j hj)
noncomputable def vX0_whereLooked_23 (j : Nat → rx_K) : rx_K := o_ld rx_isI 5 (o_ld rx_isR 0 (o_getf 0 0 (o_getf 11 4 (o_ld rx_isI 1 (o_ald 0 (o_c2 rx_lt (vX0_whereLooked_37 j) (vX0_whereLooked_75 j)))))))
set_option maxRecDepth 20000 in
theorem wX0_whereLooked_23 (hZ : zO b e D A X) (j : Nat → rx_K) (hj : ∀ k pc, [23, 96][k]? = some pc → rx_OK (zV b e D A X) mX0_whereLooked 1 pc (j k)) : rx_OK (zV b e D A X) mX0_whereLooked 1 23 (vX0_whereLooked_23 j) := by
  unfold vX0_whereLooked_23
  refine s_iload hZ.1 dX0_whereLooked_23 ?_
  refine s_aload_n hZ.1 dX0_whereLooked_25 rfl ?_
  refine yg0_0 dX0_whereLooked_26 zw661 ?_
  refine yg11_4 dX0_whereLooked_29 zw1271 ?_
  refine s_iload_n hZ.1 dX0_whereLooked_32 rfl ?_
  refine s_iald (tt := 0) rfl dX0_whereLooked_33 ?_
  exact s_icmp_ge dX0_whereLooked_34 (by decide) (wX0_whereLooked_75 hZ j hj) (wX0_whereLooked_37 hZ j hj)
noncomputable def vX0_whereLooked_0 (j : Nat → rx_K) : rx_K := o_ld rx_isR 0 (o_getf 0 15 (o_const 0 (o_ld rx_isI 1 (o_ast 0 (fun v => v) rx_isI (o_const 8 (o_st rx_isI 3 (o_ld rx_isR 0 (o_getf 0 0 (o_getf 11 3 (o_ld rx_isI 1 (o_ald 0 (o_st rx_isI 4 (o_const 0 (o_st rx_isI 5 ((vX0_whereLooked_23 j))))))))))))))))
set_option maxRecDepth 20000 in
theorem wX0_whereLooked_0 (hZ : zO b e D A X) (j : Nat → rx_K) (hj : ∀ k pc, [23, 96][k]? = some pc → rx_OK (zV b e D A X) mX0_whereLooked 1 pc (j k)) : rx_OK (zV b e D A X) mX0_whereLooked 1 0 (vX0_whereLooked_0 j) := by
  unfold vX0_whereLooked_0
  refine s_aload_n hZ.1 dX0_whereLooked_0 rfl ?_
  refine yg0_15 dX0_whereLooked_1 zw678 ?_
  refine s_iconst dX0_whereLooked_4 (by decide +kernel) ?_
  refine s_iload_n hZ.1 dX0_whereLooked_5 rfl ?_
  refine s_iast hZ.1 (tt := 0) rfl dX0_whereLooked_6 ?_
  refine s_iconst dX0_whereLooked_7 (by decide +kernel) ?_
  refine s_istore_n hZ.1 dX0_whereLooked_8 rfl (Nat.le_of_ble_eq_true rfl) ?_
  refine s_aload_n hZ.1 dX0_whereLooked_9 rfl ?_
  refine yg0_0 dX0_whereLooked_10 zw661 ?_
  refine yg11_3 dX0_whereLooked_13 zw1263 ?_
  refine s_iload_n hZ.1 dX0_whereLooked_16 rfl ?_
  refine s_iald (tt := 0) rfl dX0_whereLooked_17 ?_
  refine s_istore hZ.1 dX0_whereLooked_18 (Nat.le_of_ble_eq_true rfl) ?_
  refine s_iconst dX0_whereLooked_20 (by decide +kernel) ?_
  refine s_istore hZ.1 dX0_whereLooked_21 (Nat.le_of_ble_eq_true rfl) ?_
  exact (wX0_whereLooked_23 hZ j hj)
noncomputable def vhX0_whereLooked (j : Nat → rx_K) : List rx_K := [vX0_whereLooked_23 j, vX0_whereLooked_96 j]
theorem vlX0_whereLooked (hZ : zO b e D A X) : ∀ n k pc, [23, 96][k]? = some pc → rx_OK (zV b e D A X) mX0_whereLooked 1 pc (rx_J (vhX0_whereLooked) n k) := rx_loop fun j hj k pc h => by
  match k, h with
  | 0, h =>
    have e9 := Option.some.inj (show some 23 = some pc from h)
    subst e9
    exact wX0_whereLooked_23 hZ j hj
  | 1, h =>
    have e9 := Option.some.inj (show some 96 = some pc from h)
    subst e9
    exact wX0_whereLooked_96 hZ j hj
  | _ + 2, h => exact absurd h (by simp)
noncomputable def FX0_whereLooked : List Nat → rx_H → Option (Nat × rx_H) := rx_ent 7 (vX0_whereLooked_0 (rx_J (vhX0_whereLooked) 4000000000))
theorem Met_X0_whereLooked (hZ : zO b e D A X) : rx_Met (zV b e D A X) 1 yX0_whereLooked mX0_whereLooked (FX0_whereLooked) := rx_entry hZ.1 (wX0_whereLooked_0 hZ _ (vlX0_whereLooked hZ 4000000000)) (by decide +kernel) rfl (fun h => by cases h)
end ZM1

section ZM35
variable {b : Nat} {e : Nat → Value} {D : va_G} {A : Nat → ClassId} {X : State → Prop}
abbrev mX13_sym : rx_M := (RX13, cX13_sym, 1, (some .int), false)
theorem vy_X13_sym : rx_Y (zV b e D A X) yX13_sym mX13_sym 1 := ⟨zw2958, zw431, by decide, by decide +kernel, by decide +kernel, by decide +kernel⟩
noncomputable def vX13_sym_66 : rx_K := o_ret1 rx_isI
set_option maxRecDepth 20000 in
theorem wX13_sym_66 (hZ : zO b e D A X) : rx_OK (zV b e D A X) mX13_sym 0 66 vX13_sym_66 := by
  unfold vX13_sym_66
  exact s_iret hZ.1 rfl dX13_sym_66
noncomputable def vX13_sym_65 : rx_K := o_const 0 (vX13_sym_66)
set_option maxRecDepth 20000 in
theorem wX13_sym_65 (hZ : zO b e D A X) : rx_OK (zV b e D A X) mX13_sym 0 65 vX13_sym_65 := by
  unfold vX13_sym_65
  refine s_iconst dX13_sym_65 (by decide +kernel) ?_
  exact (wX13_sym_66 hZ)
noncomputable def vX13_sym_55 : rx_K := o_ld rx_isI 0 (o_const 384 (o_bi (fun x y => x - y) (o_const 424 (o_bi (fun x y => x + y) (vX13_sym_66)))))
set_option maxRecDepth 20000 in
theorem wX13_sym_55 (hZ : zO b e D A X) : rx_OK (zV b e D A X) mX13_sym 0 55 vX13_sym_55 := by
  unfold vX13_sym_55
  refine s_iload_n hZ.1 dX13_sym_55 rfl ?_
  refine s_bipush dX13_sym_56 (by decide +kernel) ?_
  refine s_isub dX13_sym_58 ?_
  refine s_bipush dX13_sym_59 (by decide +kernel) ?_
  refine s_iadd dX13_sym_61 ?_
  exact s_goto dX13_sym_62 (by decide) (wX13_sym_66 hZ)
noncomputable def vX13_sym_49 : rx_K := o_ld rx_isI 0 (o_const 456 (o_c2 (fun h x y => rx_lt h y x) vX13_sym_65 vX13_sym_55))
set_option maxRecDepth 20000 in
theorem wX13_sym_49 (hZ : zO b e D A X) : rx_OK (zV b e D A X) mX13_sym 0 49 vX13_sym_49 := by
  unfold vX13_sym_49
  refine s_iload_n hZ.1 dX13_sym_49 rfl ?_
  refine s_bipush dX13_sym_50 (by decide +kernel) ?_
  exact s_icmp_gt dX13_sym_52 (by decide) (wX13_sym_65 hZ) (wX13_sym_55 hZ)
noncomputable def vX13_sym_43 : rx_K := o_ld rx_isI 0 (o_const 384 (o_c2 rx_lt vX13_sym_65 vX13_sym_49))
set_option maxRecDepth 20000 in
theorem wX13_sym_43 (hZ : zO b e D A X) : rx_OK (zV b e D A X) mX13_sym 0 43 vX13_sym_43 := by
  unfold vX13_sym_43
  refine s_iload_n hZ.1 dX13_sym_43 rfl ?_
  refine s_bipush dX13_sym_44 (by decide +kernel) ?_
  exact s_icmp_lt dX13_sym_46 (by decide) (wX13_sym_65 hZ) (wX13_sym_49 hZ)
noncomputable def vX13_sym_33 : rx_K := o_ld rx_isI 0 (o_const 520 (o_bi (fun x y => x - y) (o_const 216 (o_bi (fun x y => x + y) (vX13_sym_66)))))
set_option maxRecDepth 20000 in
theorem wX13_sym_33 (hZ : zO b e D A X) : rx_OK (zV b e D A X) mX13_sym 0 33 vX13_sym_33 := by
  unfold vX13_sym_33
  refine s_iload_n hZ.1 dX13_sym_33 rfl ?_
  refine s_bipush dX13_sym_34 (by decide +kernel) ?_
  refine s_isub dX13_sym_36 ?_
  refine s_bipush dX13_sym_37 (by decide +kernel) ?_
  refine s_iadd dX13_sym_39 ?_
  exact s_goto dX13_sym_40 (by decide) (wX13_sym_66 hZ)
noncomputable def vX13_sym_27 : rx_K := o_ld rx_isI 0 (o_const 720 (o_c2 (fun h x y => rx_lt h y x) vX13_sym_43 vX13_sym_33))
set_option maxRecDepth 20000 in
theorem wX13_sym_27 (hZ : zO b e D A X) : rx_OK (zV b e D A X) mX13_sym 0 27 vX13_sym_27 := by
  unfold vX13_sym_27
  refine s_iload_n hZ.1 dX13_sym_27 rfl ?_
  refine s_bipush dX13_sym_28 (by decide +kernel) ?_
  exact s_icmp_gt dX13_sym_30 (by decide) (wX13_sym_43 hZ) (wX13_sym_33 hZ)
noncomputable def vX13_sym_21 : rx_K := o_ld rx_isI 0 (o_const 520 (o_c2 rx_lt vX13_sym_43 vX13_sym_27))
set_option maxRecDepth 20000 in
theorem wX13_sym_21 (hZ : zO b e D A X) : rx_OK (zV b e D A X) mX13_sym 0 21 vX13_sym_21 := by
  unfold vX13_sym_21
  refine s_iload_n hZ.1 dX13_sym_21 rfl ?_
  refine s_bipush dX13_sym_22 (by decide +kernel) ?_
  exact s_icmp_lt dX13_sym_24 (by decide) (wX13_sym_43 hZ) (wX13_sym_27 hZ)
noncomputable def vX13_sym_12 : rx_K := o_ld rx_isI 0 (o_const 776 (o_bi (fun x y => x - y) (o_const 8 (o_bi (fun x y => x + y) (vX13_sym_66)))))
set_option maxRecDepth 20000 in
theorem wX13_sym_12 (hZ : zO b e D A X) : rx_OK (zV b e D A X) mX13_sym 0 12 vX13_sym_12 := by
  unfold vX13_sym_12
  refine s_iload_n hZ.1 dX13_sym_12 rfl ?_
  refine s_bipush dX13_sym_13 (by decide +kernel) ?_
  refine s_isub dX13_sym_15 ?_
  refine s_iconst dX13_sym_16 (by decide +kernel) ?_
  refine s_iadd dX13_sym_17 ?_
  exact s_goto dX13_sym_18 (by decide) (wX13_sym_66 hZ)
noncomputable def vX13_sym_6 : rx_K := o_ld rx_isI 0 (o_const 976 (o_c2 (fun h x y => rx_lt h y x) vX13_sym_21 vX13_sym_12))
set_option maxRecDepth 20000 in
theorem wX13_sym_6 (hZ : zO b e D A X) : rx_OK (zV b e D A X) mX13_sym 0 6 vX13_sym_6 := by
  unfold vX13_sym_6
  refine s_iload_n hZ.1 dX13_sym_6 rfl ?_
  refine s_bipush dX13_sym_7 (by decide +kernel) ?_
  exact s_icmp_gt dX13_sym_9 (by decide) (wX13_sym_21 hZ) (wX13_sym_12 hZ)
noncomputable def vX13_sym_0 : rx_K := o_ld rx_isI 0 (o_const 776 (o_c2 rx_lt vX13_sym_21 vX13_sym_6))
set_option maxRecDepth 20000 in
theorem wX13_sym_0 (hZ : zO b e D A X) : rx_OK (zV b e D A X) mX13_sym 0 0 vX13_sym_0 := by
  unfold vX13_sym_0
  refine s_iload_n hZ.1 dX13_sym_0 rfl ?_
  refine s_bipush dX13_sym_1 (by decide +kernel) ?_
  exact s_icmp_lt dX13_sym_3 (by decide) (wX13_sym_21 hZ) (wX13_sym_6 hZ)
noncomputable def FX13_sym : List Nat → rx_H → Option (Nat × rx_H) := rx_ent 1 vX13_sym_0
theorem Met_X13_sym (hZ : zO b e D A X) : rx_Met (zV b e D A X) 0 yX13_sym mX13_sym (FX13_sym) := rx_entry hZ.1 (wX13_sym_0 hZ) (by decide +kernel) rfl (fun h => by cases h)
abbrev mX13_letter : rx_M := (RX13, cX13_letter, 1, (some .int), false)
theorem vy_X13_letter : rx_Y (zV b e D A X) yX13_letter mX13_letter 1 := ⟨zw3660, zw431, by decide, by decide +kernel, by decide +kernel, by decide +kernel⟩
noncomputable def vX13_letter_38 : rx_K := o_ret1 rx_isI
set_option maxRecDepth 20000 in
theorem wX13_letter_38 (hZ : zO b e D A X) : rx_OK (zV b e D A X) mX13_letter 0 38 vX13_letter_38 := by
  unfold vX13_letter_38
  exact s_iret hZ.1 rfl dX13_letter_38
noncomputable def vX13_letter_31 : rx_K := o_const 384 (o_ld rx_isI 0 (o_bi (fun x y => x + y) (o_const 424 (o_bi (fun x y => x - y) (vX13_letter_38)))))
set_option maxRecDepth 20000 in
theorem wX13_letter_31 (hZ : zO b e D A X) : rx_OK (zV b e D A X) mX13_letter 0 31 vX13_letter_31 := by
  unfold vX13_letter_31
  refine s_bipush dX13_letter_31 (by decide +kernel) ?_
  refine s_iload_n hZ.1 dX13_letter_33 rfl ?_
  refine s_iadd dX13_letter_34 ?_
  refine s_bipush dX13_letter_35 (by decide +kernel) ?_
  refine s_isub dX13_letter_37 ?_
  exact (wX13_letter_38 hZ)
noncomputable def vX13_letter_21 : rx_K := o_const 520 (o_ld rx_isI 0 (o_bi (fun x y => x + y) (o_const 216 (o_bi (fun x y => x - y) (vX13_letter_38)))))
set_option maxRecDepth 20000 in
theorem wX13_letter_21 (hZ : zO b e D A X) : rx_OK (zV b e D A X) mX13_letter 0 21 vX13_letter_21 := by
  unfold vX13_letter_21
  refine s_bipush dX13_letter_21 (by decide +kernel) ?_
  refine s_iload_n hZ.1 dX13_letter_23 rfl ?_
  refine s_iadd dX13_letter_24 ?_
  refine s_bipush dX13_letter_25 (by decide +kernel) ?_
  refine s_isub dX13_letter_27 ?_
  exact s_goto dX13_letter_28 (by decide) (wX13_letter_38 hZ)
noncomputable def vX13_letter_15 : rx_K := o_ld rx_isI 0 (o_const 416 (o_c2 (fun h x y => rx_lt h y x) vX13_letter_31 vX13_letter_21))
set_option maxRecDepth 20000 in
theorem wX13_letter_15 (hZ : zO b e D A X) : rx_OK (zV b e D A X) mX13_letter 0 15 vX13_letter_15 := by
  unfold vX13_letter_15
  refine s_iload_n hZ.1 dX13_letter_15 rfl ?_
  refine s_bipush dX13_letter_16 (by decide +kernel) ?_
  exact s_icmp_gt dX13_letter_18 (by decide) (wX13_letter_31 hZ) (wX13_letter_21 hZ)
noncomputable def vX13_letter_6 : rx_K := o_const 776 (o_ld rx_isI 0 (o_bi (fun x y => x + y) (o_const 8 (o_bi (fun x y => x - y) (vX13_letter_38)))))
set_option maxRecDepth 20000 in
theorem wX13_letter_6 (hZ : zO b e D A X) : rx_OK (zV b e D A X) mX13_letter 0 6 vX13_letter_6 := by
  unfold vX13_letter_6
  refine s_bipush dX13_letter_6 (by decide +kernel) ?_
  refine s_iload_n hZ.1 dX13_letter_8 rfl ?_
  refine s_iadd dX13_letter_9 ?_
  refine s_iconst dX13_letter_10 (by decide +kernel) ?_
  refine s_isub dX13_letter_11 ?_
  exact s_goto dX13_letter_12 (by decide) (wX13_letter_38 hZ)
noncomputable def vX13_letter_0 : rx_K := o_ld rx_isI 0 (o_const 208 (o_c2 (fun h x y => rx_lt h y x) vX13_letter_15 vX13_letter_6))
set_option maxRecDepth 20000 in
theorem wX13_letter_0 (hZ : zO b e D A X) : rx_OK (zV b e D A X) mX13_letter 0 0 vX13_letter_0 := by
  unfold vX13_letter_0
  refine s_iload_n hZ.1 dX13_letter_0 rfl ?_
  refine s_bipush dX13_letter_1 (by decide +kernel) ?_
  exact s_icmp_gt dX13_letter_3 (by decide) (wX13_letter_15 hZ) (wX13_letter_6 hZ)
noncomputable def FX13_letter : List Nat → rx_H → Option (Nat × rx_H) := rx_ent 1 vX13_letter_0
theorem Met_X13_letter (hZ : zO b e D A X) : rx_Met (zV b e D A X) 0 yX13_letter mX13_letter (FX13_letter) := rx_entry hZ.1 (wX13_letter_0 hZ) (by decide +kernel) rfl (fun h => by cases h)
abbrev mX13_isC : rx_M := (RX13, cX13_isC, 2, (some .boolean), false)
theorem vy_X13_isC : rx_Y (zV b e D A X) yX13_isC mX13_isC 1 := ⟨zw3240, zw431, by decide, by decide +kernel, by decide +kernel, by decide +kernel⟩
noncomputable def vX13_isC_15 : rx_K := o_ret1 rx_isZ
set_option maxRecDepth 20000 in
theorem wX13_isC_15 (hZ : zO b e D A X) : rx_OK (zV b e D A X) mX13_isC 0 15 vX13_isC_15 := by
  unfold vX13_isC_15
  exact s_zret rx_z_ok rfl dX13_isC_15
noncomputable def vX13_isC_14 : rx_K := o_const 0 (vX13_isC_15)
set_option maxRecDepth 20000 in
theorem wX13_isC_14 (hZ : zO b e D A X) : rx_OK (zV b e D A X) mX13_isC 0 14 vX13_isC_14 := by
  unfold vX13_isC_14
  refine s_iconst dX13_isC_14 (by decide +kernel) ?_
  exact (wX13_isC_15 hZ)
noncomputable def vX13_isC_10 : rx_K := o_const 8 (vX13_isC_15)
set_option maxRecDepth 20000 in
theorem wX13_isC_10 (hZ : zO b e D A X) : rx_OK (zV b e D A X) mX13_isC 0 10 vX13_isC_10 := by
  unfold vX13_isC_10
  refine s_iconst dX13_isC_10 (by decide +kernel) ?_
  exact s_goto dX13_isC_11 (by decide) (wX13_isC_15 hZ)
noncomputable def vX13_isC_0 : rx_K := o_ld rx_isL 0 (o_const 18446744073709551617 (o_bl (fun x y => x &&& y) (o_const 1 (o_bc (fun x y => lg_cmp x y) (o_c1 rx_eq vX13_isC_14 vX13_isC_10)))))
set_option maxRecDepth 20000 in
theorem wX13_isC_0 (hZ : zO b e D A X) : rx_OK (zV b e D A X) mX13_isC 0 0 vX13_isC_0 := by
  unfold vX13_isC_0
  refine s_lload_n hZ.1 dX13_isC_0 rfl ?_
  refine s_ldc2 dX13_isC_1 zw2959 (by decide +kernel) ?_
  refine s_land dX13_isC_4 ?_
  refine s_lconst dX13_isC_5 (by decide +kernel) ?_
  refine s_lcmp dX13_isC_6 ?_
  exact s_if_eq dX13_isC_7 (by decide) (wX13_isC_14 hZ) (wX13_isC_10 hZ)
noncomputable def FX13_isC : List Nat → rx_H → Option (Nat × rx_H) := rx_ent 2 vX13_isC_0
theorem Met_X13_isC (hZ : zO b e D A X) : rx_Met (zV b e D A X) 0 yX13_isC mX13_isC (FX13_isC) := rx_entry hZ.1 (wX13_isC_0 hZ) (by decide +kernel) rfl (fun h => by cases h)
abbrev mX13_packageOf : rx_M := (RX13, cX13_packageOf, 5, (some .int), false)
theorem vy_X13_packageOf : rx_Y (zV b e D A X) yX13_packageOf mX13_packageOf 1 := ⟨zw3181, zw431, by decide, by decide +kernel, by decide +kernel, by decide +kernel⟩
noncomputable def vX13_packageOf_31 (j : Nat → rx_K) : rx_K := o_ld rx_isI 4 (o_ret1 rx_isI)
set_option maxRecDepth 20000 in
theorem wX13_packageOf_31 (hZ : zO b e D A X) (j : Nat → rx_K) (hj : ∀ k pc, [9][k]? = some pc → rx_OK (zV b e D A X) mX13_packageOf 0 pc (j k)) : rx_OK (zV b e D A X) mX13_packageOf 0 31 (vX13_packageOf_31 j) := by
  unfold vX13_packageOf_31
  refine s_iload hZ.1 dX13_packageOf_31 ?_
  exact s_iret hZ.1 rfl dX13_packageOf_33
noncomputable def vX13_packageOf_15 (j : Nat → rx_K) : rx_K := o_ld rx_isL 2 (o_const 505 (o_bl (fun x y => x &&& y) (o_li (fun x => x.toInt32) (o_st rx_isI 4 (o_ld rx_isL 2 (o_const 48 (o_bs (fun x y => (x.toUInt64 >>> (y.toInt64.toUInt64 &&& Int64.toUInt64 63)).toInt64) (o_stL 2 ((j 0))))))))))
set_option maxRecDepth 20000 in
theorem wX13_packageOf_15 (hZ : zO b e D A X) (j : Nat → rx_K) (hj : ∀ k pc, [9][k]? = some pc → rx_OK (zV b e D A X) mX13_packageOf 0 pc (j k)) : rx_OK (zV b e D A X) mX13_packageOf 0 15 (vX13_packageOf_15 j) := by
  unfold vX13_packageOf_15
  refine s_lload_n hZ.1 dX13_packageOf_15 rfl ?_
  refine s_ldc2 dX13_packageOf_16 zw3183 (by decide +kernel) ?_
  refine s_land dX13_packageOf_19 ?_
  refine s_l2i dX13_packageOf_20 ?_
  refine s_istore hZ.1 dX13_packageOf_21 (Nat.le_of_ble_eq_true rfl) ?_
  refine s_lload_n hZ.1 dX13_packageOf_23 rfl ?_
  refine s_bipush dX13_packageOf_24 (by decide +kernel) ?_
  refine s_lushr dX13_packageOf_26 ?_
  refine s_lstore_n hZ.1 dX13_packageOf_27 rfl (Nat.le_of_ble_eq_true rfl) ?_
  exact s_goto dX13_packageOf_28 (by decide) (hj 0 9 rfl)
noncomputable def vX13_packageOf_9 (j : Nat → rx_K) : rx_K := o_ld rx_isL 2 (o_const 1 (o_bc (fun x y => lg_cmp x y) (o_c1 rx_eq (vX13_packageOf_31 j) (vX13_packageOf_15 j))))
set_option maxRecDepth 20000 in
theorem wX13_packageOf_9 (hZ : zO b e D A X) (j : Nat → rx_K) (hj : ∀ k pc, [9][k]? = some pc → rx_OK (zV b e D A X) mX13_packageOf 0 pc (j k)) : rx_OK (zV b e D A X) mX13_packageOf 0 9 (vX13_packageOf_9 j) := by
  unfold vX13_packageOf_9
  refine s_lload_n hZ.1 dX13_packageOf_9 rfl ?_
  refine s_lconst dX13_packageOf_10 (by decide +kernel) ?_
  refine s_lcmp dX13_packageOf_11 ?_
  exact s_if_eq dX13_packageOf_12 (by decide) (wX13_packageOf_31 hZ j hj) (wX13_packageOf_15 hZ j hj)
noncomputable def vX13_packageOf_0 (j : Nat → rx_K) : rx_K := o_ld rx_isL 0 (o_const 129127208515966861305 (o_bl (fun x y => x &&& y) (o_stL 2 (o_const 0 (o_st rx_isI 4 ((vX13_packageOf_9 j)))))))
set_option maxRecDepth 20000 in
theorem wX13_packageOf_0 (hZ : zO b e D A X) (j : Nat → rx_K) (hj : ∀ k pc, [9][k]? = some pc → rx_OK (zV b e D A X) mX13_packageOf 0 pc (j k)) : rx_OK (zV b e D A X) mX13_packageOf 0 0 (vX13_packageOf_0 j) := by
  unfold vX13_packageOf_0
  refine s_lload_n hZ.1 dX13_packageOf_0 rfl ?_
  refine s_ldc2 dX13_packageOf_1 zw3182 (by decide +kernel) ?_
  refine s_land dX13_packageOf_4 ?_
  refine s_lstore_n hZ.1 dX13_packageOf_5 rfl (Nat.le_of_ble_eq_true rfl) ?_
  refine s_iconst dX13_packageOf_6 (by decide +kernel) ?_
  refine s_istore hZ.1 dX13_packageOf_7 (Nat.le_of_ble_eq_true rfl) ?_
  exact (wX13_packageOf_9 hZ j hj)
noncomputable def vhX13_packageOf (j : Nat → rx_K) : List rx_K := [vX13_packageOf_9 j]
theorem vlX13_packageOf (hZ : zO b e D A X) : ∀ n k pc, [9][k]? = some pc → rx_OK (zV b e D A X) mX13_packageOf 0 pc (rx_J (vhX13_packageOf) n k) := rx_loop fun j hj k pc h => by
  match k, h with
  | 0, h =>
    have e9 := Option.some.inj (show some 9 = some pc from h)
    subst e9
    exact wX13_packageOf_9 hZ j hj
  | _ + 1, h => exact absurd h (by simp)
noncomputable def FX13_packageOf : List Nat → rx_H → Option (Nat × rx_H) := rx_ent 5 (vX13_packageOf_0 (rx_J (vhX13_packageOf) 4000000000))
theorem Met_X13_packageOf (hZ : zO b e D A X) : rx_Met (zV b e D A X) 0 yX13_packageOf mX13_packageOf (FX13_packageOf) := rx_entry hZ.1 (wX13_packageOf_0 hZ _ (vlX13_packageOf hZ 4000000000)) (by decide +kernel) rfl (fun h => by cases h)
abbrev mX13_outByte : rx_M := (RX13, cX13_outByte, 2, none, false)
theorem vy_X13_outByte : rx_Y (zV b e D A X) yX13_outByte mX13_outByte 1 := ⟨zw3649, zw431, by decide, by decide +kernel, by decide +kernel, by decide +kernel⟩
noncomputable def vX13_outByte_0 : rx_K := o_ld rx_isR 0 (o_getf 13 2 (o_ld rx_isR 0 (o_getf 13 3 (o_ld rx_isI 1 (o_ast 0 (fun v => v) rx_isI (o_ld rx_isR 0 (o_dup (o_getf 13 3 (o_const 8 (o_bi (fun x y => x + y) (o_putf rx_isI 13 3 (o_ret0))))))))))))
set_option maxRecDepth 20000 in
theorem wX13_outByte_0 (hZ : zO b e D A X) : rx_OK (zV b e D A X) mX13_outByte 0 0 vX13_outByte_0 := by
  unfold vX13_outByte_0
  refine s_aload_n hZ.1 dX13_outByte_0 rfl ?_
  refine yg13_2 dX13_outByte_1 zw4123 ?_
  refine s_aload_n hZ.1 dX13_outByte_4 rfl ?_
  refine yg13_3 dX13_outByte_5 zw4124 ?_
  refine s_iload_n hZ.1 dX13_outByte_8 rfl ?_
  refine s_iast hZ.1 (tt := 0) rfl dX13_outByte_9 ?_
  refine s_aload_n hZ.1 dX13_outByte_10 rfl ?_
  refine s_dup hZ.1 dX13_outByte_11 ?_
  refine yg13_3 dX13_outByte_12 zw4124 ?_
  refine s_iconst dX13_outByte_15 (by decide +kernel) ?_
  refine s_iadd dX13_outByte_16 ?_
  refine yp13_3 hZ.1 dX13_outByte_17 zw4124 ?_
  exact s_vret rfl dX13_outByte_20
noncomputable def FX13_outByte : List Nat → rx_H → Option (Nat × rx_H) := rx_ent 2 vX13_outByte_0
theorem Met_X13_outByte (hZ : zO b e D A X) : rx_Met (zV b e D A X) 0 yX13_outByte mX13_outByte (FX13_outByte) := rx_entry hZ.1 (wX13_outByte_0 hZ) (by decide +kernel) rfl (fun h => by cases h)
abbrev mX13_outWord : rx_M := (RX13, cX13_outWord, 3, none, false)
theorem vy_X13_outWord : rx_Y (zV b e D A X) yX13_outWord mX13_outWord 1 := ⟨zw3645, zw431, by decide, by decide +kernel, by decide +kernel, by decide +kernel⟩
noncomputable def vX13_outWord_25 (j : Nat → rx_K) : rx_K := o_ret0
set_option maxRecDepth 20000 in
theorem wX13_outWord_25 (hZ : zO b e D A X) (j : Nat → rx_K) (hj : ∀ k pc, [2][k]? = some pc → rx_OK (zV b e D A X) mX13_outWord 4 pc (j k)) : rx_OK (zV b e D A X) mX13_outWord 4 25 (vX13_outWord_25 j) := by
  unfold vX13_outWord_25
  exact s_vret rfl dX13_outWord_25
noncomputable def vX13_outWord_16 (j : Nat → rx_K) : rx_K := o_callV 1 13 FX13_outByte (o_inc 2 (1) ((j 0)))
set_option maxRecDepth 20000 in
theorem wX13_outWord_16 (hZ : zO b e D A X) (j : Nat → rx_K) (hj : ∀ k pc, [2][k]? = some pc → rx_OK (zV b e D A X) mX13_outWord 4 pc (j k)) : rx_OK (zV b e D A X) mX13_outWord 4 16 (vX13_outWord_16 j) := by
  unfold vX13_outWord_16
  refine s_callV hZ.1 (Met_X13_outByte hZ) (Nat.le_of_ble_eq_true rfl) vy_X13_outByte zcl13 zw3648 zw327 (Or.inl zw3646) dX13_outWord_16 ?_
  refine s_iinc hZ.1 dX13_outWord_19 (Nat.le_of_ble_eq_true rfl) ?_
  exact s_goto dX13_outWord_22 (by decide) (hj 0 2 rfl)
noncomputable def vX13_outWord_10 (j : Nat → rx_K) : rx_K := o_ld rx_isR 0 (o_ld rx_isR 1 (o_ld rx_isI 2 (o_alt (zqn 1 6) (o_callX 1 6 FJ0_charAt_5068e ((vX13_outWord_16 j))) (o_alt (zqn 1 8) (o_callX 1 8 FJ0_charAt_5068e ((vX13_outWord_16 j))) (o_alt (zqn 1 10) (o_callX 1 10 FJ0_charAt_5068e ((vX13_outWord_16 j))) (o_alt (zqn 1 12) (o_callX 1 12 FJ0_charAt_5068e ((vX13_outWord_16 j))) (o_alt (zqn 1 14) (o_callX 1 14 FJ0_charAt_5068e ((vX13_outWord_16 j))) (o_alt (zqn 1 16) (o_callX 1 16 FJ0_charAt_5068e ((vX13_outWord_16 j))) (o_alt (zqn 1 18) (o_callX 1 18 FJ0_charAt_5068e ((vX13_outWord_16 j))) (o_alt (zqn 1 20) (o_callX 1 20 FJ0_charAt_5068e ((vX13_outWord_16 j))) (o_alt (zqn 1 22) (o_callX 1 22 FJ0_charAt_5068e ((vX13_outWord_16 j))) (o_alt (zqn 1 24) (o_callX 1 24 FJ0_charAt_5068e ((vX13_outWord_16 j))) (o_alt (zqn 1 26) (o_callX 1 26 FJ0_charAt_5068e ((vX13_outWord_16 j))) (o_alt (zqn 1 28) (o_callX 1 28 FJ0_charAt_5068e ((vX13_outWord_16 j))) (o_alt (zqn 1 30) (o_callX 1 30 FJ0_charAt_5068e ((vX13_outWord_16 j))) (o_alt (zqn 1 32) (o_callX 1 32 FJ0_charAt_5068e ((vX13_outWord_16 j))) (o_alt (zqn 1 34) (o_callX 1 34 FJ0_charAt_5068e ((vX13_outWord_16 j))) (o_alt (zqn 1 36) (o_callX 1 36 FJ0_charAt_5068e ((vX13_outWord_16 j))) (o_alt (zqn 1 38) (o_callX 1 38 FJ0_charAt_5068e ((vX13_outWord_16 j))) (o_alt (zqn 1 40) (o_callX 1 40 FJ0_charAt_5068e ((vX13_outWord_16 j))) (o_alt (zqn 1 42) (o_callX 1 42 FJ0_charAt_5068e ((vX13_outWord_16 j))) (o_alt (zqn 1 44) (o_callX 1 44 FJ0_charAt_5068e ((vX13_outWord_16 j))) (o_alt (zqn 1 46) (o_callX 1 46 FJ0_charAt_5068e ((vX13_outWord_16 j))) (o_alt (zqn 1 48) (o_callX 1 48 FJ0_charAt_5068e ((vX13_outWord_16 j))) (o_alt (zqn 1 50) (o_callX 1 50 FJ0_charAt_5068e ((vX13_outWord_16 j))) (o_alt (zqn 1 52) (o_callX 1 52 FJ0_charAt_5068e ((vX13_outWord_16 j))) (o_alt (zqn 1 54) (o_callX 1 54 FJ0_charAt_5068e ((vX13_outWord_16 j))) (o_alt (zqn 1 56) (o_callX 1 56 FJ0_charAt_5068e ((vX13_outWord_16 j))) (o_alt (zqn 1 58) (o_callX 1 58 FJ0_charAt_5068e ((vX13_outWord_16 j))) (o_alt (zqn 1 60) (o_callX 1 60 FJ0_charAt_5068e ((vX13_outWord_16 j))) (o_alt (zqn 1 62) (o_callX 1 62 FJ0_charAt_5068e ((vX13_outWord_16 j))) (o_alt (zqn 1 64) (o_callX 1 64 FJ0_charAt_5068e ((vX13_outWord_16 j))) (o_alt (zqn 1 66) (o_callX 1 66 FJ0_charAt_5068e ((vX13_outWord_16 j))) (o_alt (zqn 1 68) (o_callX 1 68 FJ0_charAt_5068e ((vX13_outWord_16 j))) (o_alt (zqn 1 70) (o_callX 1 70 FJ0_charAt_5068e ((vX13_outWord_16 j))) (o_alt (zqn 1 72) (o_callX 1 72 FJ0_charAt_5068e ((vX13_outWord_16 j))) (o_alt (zqn 1 74) (o_callX 1 74 FJ0_charAt_5068e ((vX13_outWord_16 j))) (o_alt (zqn 1 76) (o_callX 1 76 FJ0_charAt_5068e ((vX13_outWord_16 j))) (o_alt (zqn 1 78) (o_callX 1 78 FJ0_charAt_5068e ((vX13_outWord_16 j))) (o_alt (zqn 1 80) (o_callX 1 80 FJ0_charAt_5068e ((vX13_outWord_16 j))) (o_alt (zqn 1 82) (o_callX 1 82 FJ0_charAt_5068e ((vX13_outWord_16 j))) (o_alt (zqn 1 84) (o_callX 1 84 FJ0_charAt_5068e ((vX13_outWord_16 j))) (o_alt (zqn 1 86) (o_callX 1 86 FJ0_charAt_5068e ((vX13_outWord_16 j))) (o_alt (zqn 1 88) (o_callX 1 88 FJ0_charAt_5068e ((vX13_outWord_16 j))) (o_alt (zqn 1 90) (o_callX 1 90 FJ0_charAt_5068e ((vX13_outWord_16 j))) (o_alt (zqn 1 92) (o_callX 1 92 FJ0_charAt_5068e ((vX13_outWord_16 j))) (o_alt (zqn 1 94) (o_callX 1 94 FJ0_charAt_5068e ((vX13_outWord_16 j))) (o_alt (zqn 1 96) (o_callX 1 96 FJ0_charAt_5068e ((vX13_outWord_16 j))) (o_alt (zqn 1 98) (o_callX 1 98 FJ0_charAt_5068e ((vX13_outWord_16 j))) (o_alt (zqn 1 100) (o_callX 1 100 FJ0_charAt_5068e ((vX13_outWord_16 j))) (o_alt (zqn 1 102) (o_callX 1 102 FJ0_charAt_5068e ((vX13_outWord_16 j))) (o_alt (zqn 1 104) (o_callX 1 104 FJ0_charAt_5068e ((vX13_outWord_16 j))) (o_alt (zqn 1 106) (o_callX 1 106 FJ0_charAt_5068e ((vX13_outWord_16 j))) (o_alt (zqn 1 108) (o_callX 1 108 FJ0_charAt_5068e ((vX13_outWord_16 j))) (o_alt (zqn 1 110) (o_callX 1 110 FJ0_charAt_5068e ((vX13_outWord_16 j))) (o_alt (zqn 1 112) (o_callX 1 112 FJ0_charAt_5068e ((vX13_outWord_16 j))) (o_alt (zqn 1 114) (o_callX 1 114 FJ0_charAt_5068e ((vX13_outWord_16 j))) (o_alt (zqn 1 116) (o_callX 1 116 FJ0_charAt_5068e ((vX13_outWord_16 j))) (o_alt (zqn 1 118) (o_callX 1 118 FJ0_charAt_5068e ((vX13_outWord_16 j))) (o_alt (zqn 1 120) (o_callX 1 120 FJ0_charAt_5068e ((vX13_outWord_16 j))) (o_alt (zqn 1 122) (o_callX 1 122 FJ0_charAt_5068e ((vX13_outWord_16 j))) (o_alt (zqn 1 124) (o_callX 1 124 FJ0_charAt_5068e ((vX13_outWord_16 j))) (o_alt (zqn 1 126) (o_callX 1 126 FJ0_charAt_5068e ((vX13_outWord_16 j))) (o_alt (zqn 1 128) (o_callX 1 128 FJ0_charAt_5068e ((vX13_outWord_16 j))) (o_alt (zqn 1 130) (o_callX 1 130 FJ0_charAt_5068e ((vX13_outWord_16 j))) (o_alt (zqn 1 132) (o_callX 1 132 FJ0_charAt_5068e ((vX13_outWord_16 j))) (o_alt (zqn 1 134) (o_callX 1 134 FJ0_charAt_5068e ((vX13_outWord_16 j))) (o_alt (zqn 1 136) (o_callX 1 136 FJ0_charAt_5068e ((vX13_outWord_16 j))) (o_alt (zqn 1 138) (o_callX 1 138 FJ0_charAt_5068e ((vX13_outWord_16 j))) (o_alt (zqn 1 140) (o_callX 1 140 FJ0_charAt_5068e ((vX13_outWord_16 j))) (o_alt (zqn 1 142) (o_callX 1 142 FJ0_charAt_5068e ((vX13_outWord_16 j))) (o_alt (zqn 1 144) (o_callX 1 144 FJ0_charAt_5068e ((vX13_outWord_16 j))) (o_alt (zqn 1 146) (o_callX 1 146 FJ0_charAt_5068e ((vX13_outWord_16 j))) (o_alt (zqn 1 148) (o_callX 1 148 FJ0_charAt_5068e ((vX13_outWord_16 j))) (o_alt (zqn 1 150) (o_callX 1 150 FJ0_charAt_5068e ((vX13_outWord_16 j))) (o_alt (zqn 1 152) (o_callX 1 152 FJ0_charAt_5068e ((vX13_outWord_16 j))) (o_alt (zqn 1 154) (o_callX 1 154 FJ0_charAt_5068e ((vX13_outWord_16 j))) (o_alt (zqn 1 156) (o_callX 1 156 FJ0_charAt_5068e ((vX13_outWord_16 j))) (o_alt (zqn 1 158) (o_callX 1 158 FJ0_charAt_5068e ((vX13_outWord_16 j))) (o_none))))))))))))))))))))))))))))))))))))))))))))))))))))))))))))))))))))))))))))))))
set_option maxRecDepth 20000 in
theorem wX13_outWord_10 (hZ : zO b e D A X) (j : Nat → rx_K) (hj : ∀ k pc, [2][k]? = some pc → rx_OK (zV b e D A X) mX13_outWord 4 pc (j k)) : rx_OK (zV b e D A X) mX13_outWord 4 10 (vX13_outWord_10 j) := by
  unfold vX13_outWord_10
  refine s_aload_n hZ.1 dX13_outWord_10 rfl ?_
  refine s_aload_n hZ.1 dX13_outWord_11 rfl ?_
  refine s_iload_n hZ.1 dX13_outWord_12 rfl ?_
  exact (s_alt (s_callX hZ.1 (Met_J0_charAt_5068e hZ) (Nat.le_of_ble_eq_true rfl) vy_J0_charAt_5068e (zo_O6 hZ) zw541 zw542 zw2993 dX13_outWord_13 (wX13_outWord_16 hZ j hj)) (s_alt (s_callX hZ.1 (Met_J0_charAt_5068e hZ) (Nat.le_of_ble_eq_true rfl) vy_J0_charAt_5068e (zo_O8 hZ) zw541 zw542 zw2993 dX13_outWord_13 (wX13_outWord_16 hZ j hj)) (s_alt (s_callX hZ.1 (Met_J0_charAt_5068e hZ) (Nat.le_of_ble_eq_true rfl) vy_J0_charAt_5068e (zo_O10 hZ) zw541 zw542 zw2993 dX13_outWord_13 (wX13_outWord_16 hZ j hj)) (s_alt (s_callX hZ.1 (Met_J0_charAt_5068e hZ) (Nat.le_of_ble_eq_true rfl) vy_J0_charAt_5068e (zo_O12 hZ) zw541 zw542 zw2993 dX13_outWord_13 (wX13_outWord_16 hZ j hj)) (s_alt (s_callX hZ.1 (Met_J0_charAt_5068e hZ) (Nat.le_of_ble_eq_true rfl) vy_J0_charAt_5068e (zo_O14 hZ) zw541 zw542 zw2993 dX13_outWord_13 (wX13_outWord_16 hZ j hj)) (s_alt (s_callX hZ.1 (Met_J0_charAt_5068e hZ) (Nat.le_of_ble_eq_true rfl) vy_J0_charAt_5068e (zo_O16 hZ) zw541 zw542 zw2993 dX13_outWord_13 (wX13_outWord_16 hZ j hj)) (s_alt (s_callX hZ.1 (Met_J0_charAt_5068e hZ) (Nat.le_of_ble_eq_true rfl) vy_J0_charAt_5068e (zo_O18 hZ) zw541 zw542 zw2993 dX13_outWord_13 (wX13_outWord_16 hZ j hj)) (s_alt (s_callX hZ.1 (Met_J0_charAt_5068e hZ) (Nat.le_of_ble_eq_true rfl) vy_J0_charAt_5068e (zo_O20 hZ) zw541 zw542 zw2993 dX13_outWord_13 (wX13_outWord_16 hZ j hj)) (s_alt (s_callX hZ.1 (Met_J0_charAt_5068e hZ) (Nat.le_of_ble_eq_true rfl) vy_J0_charAt_5068e (zo_O22 hZ) zw541 zw542 zw2993 dX13_outWord_13 (wX13_outWord_16 hZ j hj)) (s_alt (s_callX hZ.1 (Met_J0_charAt_5068e hZ) (Nat.le_of_ble_eq_true rfl) vy_J0_charAt_5068e (zo_O24 hZ) zw541 zw542 zw2993 dX13_outWord_13 (wX13_outWord_16 hZ j hj)) (s_alt (s_callX hZ.1 (Met_J0_charAt_5068e hZ) (Nat.le_of_ble_eq_true rfl) vy_J0_charAt_5068e (zo_O26 hZ) zw541 zw542 zw2993 dX13_outWord_13 (wX13_outWord_16 hZ j hj)) (s_alt (s_callX hZ.1 (Met_J0_charAt_5068e hZ) (Nat.le_of_ble_eq_true rfl) vy_J0_charAt_5068e (zo_O28 hZ) zw541 zw542 zw2993 dX13_outWord_13 (wX13_outWord_16 hZ j hj)) (s_alt (s_callX hZ.1 (Met_J0_charAt_5068e hZ) (Nat.le_of_ble_eq_true rfl) vy_J0_charAt_5068e (zo_O30 hZ) zw541 zw542 zw2993 dX13_outWord_13 (wX13_outWord_16 hZ j hj)) (s_alt (s_callX hZ.1 (Met_J0_charAt_5068e hZ) (Nat.le_of_ble_eq_true rfl) vy_J0_charAt_5068e (zo_O32 hZ) zw541 zw542 zw2993 dX13_outWord_13 (wX13_outWord_16 hZ j hj)) (s_alt (s_callX hZ.1 (Met_J0_charAt_5068e hZ) (Nat.le_of_ble_eq_true rfl) vy_J0_charAt_5068e (zo_O34 hZ) zw541 zw542 zw2993 dX13_outWord_13 (wX13_outWord_16 hZ j hj)) (s_alt (s_callX hZ.1 (Met_J0_charAt_5068e hZ) (Nat.le_of_ble_eq_true rfl) vy_J0_charAt_5068e (zo_O36 hZ) zw541 zw542 zw2993 dX13_outWord_13 (wX13_outWord_16 hZ j hj)) (s_alt (s_callX hZ.1 (Met_J0_charAt_5068e hZ) (Nat.le_of_ble_eq_true rfl) vy_J0_charAt_5068e (zo_O38 hZ) zw541 zw542 zw2993 dX13_outWord_13 (wX13_outWord_16 hZ j hj)) (s_alt (s_callX hZ.1 (Met_J0_charAt_5068e hZ) (Nat.le_of_ble_eq_true rfl) vy_J0_charAt_5068e (zo_O40 hZ) zw541 zw542 zw2993 dX13_outWord_13 (wX13_outWord_16 hZ j hj)) (s_alt (s_callX hZ.1 (Met_J0_charAt_5068e hZ) (Nat.le_of_ble_eq_true rfl) vy_J0_charAt_5068e (zo_O42 hZ) zw541 zw542 zw2993 dX13_outWord_13 (wX13_outWord_16 hZ j hj)) (s_alt (s_callX hZ.1 (Met_J0_charAt_5068e hZ) (Nat.le_of_ble_eq_true rfl) vy_J0_charAt_5068e (zo_O44 hZ) zw541 zw542 zw2993 dX13_outWord_13 (wX13_outWord_16 hZ j hj)) (s_alt (s_callX hZ.1 (Met_J0_charAt_5068e hZ) (Nat.le_of_ble_eq_true rfl) vy_J0_charAt_5068e (zo_O46 hZ) zw541 zw542 zw2993 dX13_outWord_13 (wX13_outWord_16 hZ j hj)) (s_alt (s_callX hZ.1 (Met_J0_charAt_5068e hZ) (Nat.le_of_ble_eq_true rfl) vy_J0_charAt_5068e (zo_O48 hZ) zw541 zw542 zw2993 dX13_outWord_13 (wX13_outWord_16 hZ j hj)) (s_alt (s_callX hZ.1 (Met_J0_charAt_5068e hZ) (Nat.le_of_ble_eq_true rfl) vy_J0_charAt_5068e (zo_O50 hZ) zw541 zw542 zw2993 dX13_outWord_13 (wX13_outWord_16 hZ j hj)) (s_alt (s_callX hZ.1 (Met_J0_charAt_5068e hZ) (Nat.le_of_ble_eq_true rfl) vy_J0_charAt_5068e (zo_O52 hZ) zw541 zw542 zw2993 dX13_outWord_13 (wX13_outWord_16 hZ j hj)) (s_alt (s_callX hZ.1 (Met_J0_charAt_5068e hZ) (Nat.le_of_ble_eq_true rfl) vy_J0_charAt_5068e (zo_O54 hZ) zw541 zw542 zw2993 dX13_outWord_13 (wX13_outWord_16 hZ j hj)) (s_alt (s_callX hZ.1 (Met_J0_charAt_5068e hZ) (Nat.le_of_ble_eq_true rfl) vy_J0_charAt_5068e (zo_O56 hZ) zw541 zw542 zw2993 dX13_outWord_13 (wX13_outWord_16 hZ j hj)) (s_alt (s_callX hZ.1 (Met_J0_charAt_5068e hZ) (Nat.le_of_ble_eq_true rfl) vy_J0_charAt_5068e (zo_O58 hZ) zw541 zw542 zw2993 dX13_outWord_13 (wX13_outWord_16 hZ j hj)) (s_alt (s_callX hZ.1 (Met_J0_charAt_5068e hZ) (Nat.le_of_ble_eq_true rfl) vy_J0_charAt_5068e (zo_O60 hZ) zw541 zw542 zw2993 dX13_outWord_13 (wX13_outWord_16 hZ j hj)) (s_alt (s_callX hZ.1 (Met_J0_charAt_5068e hZ) (Nat.le_of_ble_eq_true rfl) vy_J0_charAt_5068e (zo_O62 hZ) zw541 zw542 zw2993 dX13_outWord_13 (wX13_outWord_16 hZ j hj)) (s_alt (s_callX hZ.1 (Met_J0_charAt_5068e hZ) (Nat.le_of_ble_eq_true rfl) vy_J0_charAt_5068e (zo_O64 hZ) zw541 zw542 zw2993 dX13_outWord_13 (wX13_outWord_16 hZ j hj)) (s_alt (s_callX hZ.1 (Met_J0_charAt_5068e hZ) (Nat.le_of_ble_eq_true rfl) vy_J0_charAt_5068e (zo_O66 hZ) zw541 zw542 zw2993 dX13_outWord_13 (wX13_outWord_16 hZ j hj)) (s_alt (s_callX hZ.1 (Met_J0_charAt_5068e hZ) (Nat.le_of_ble_eq_true rfl) vy_J0_charAt_5068e (zo_O68 hZ) zw541 zw542 zw2993 dX13_outWord_13 (wX13_outWord_16 hZ j hj)) (s_alt (s_callX hZ.1 (Met_J0_charAt_5068e hZ) (Nat.le_of_ble_eq_true rfl) vy_J0_charAt_5068e (zo_O70 hZ) zw541 zw542 zw2993 dX13_outWord_13 (wX13_outWord_16 hZ j hj)) (s_alt (s_callX hZ.1 (Met_J0_charAt_5068e hZ) (Nat.le_of_ble_eq_true rfl) vy_J0_charAt_5068e (zo_O72 hZ) zw541 zw542 zw2993 dX13_outWord_13 (wX13_outWord_16 hZ j hj)) (s_alt (s_callX hZ.1 (Met_J0_charAt_5068e hZ) (Nat.le_of_ble_eq_true rfl) vy_J0_charAt_5068e (zo_O74 hZ) zw541 zw542 zw2993 dX13_outWord_13 (wX13_outWord_16 hZ j hj)) (s_alt (s_callX hZ.1 (Met_J0_charAt_5068e hZ) (Nat.le_of_ble_eq_true rfl) vy_J0_charAt_5068e (zo_O76 hZ) zw541 zw542 zw2993 dX13_outWord_13 (wX13_outWord_16 hZ j hj)) (s_alt (s_callX hZ.1 (Met_J0_charAt_5068e hZ) (Nat.le_of_ble_eq_true rfl) vy_J0_charAt_5068e (zo_O78 hZ) zw541 zw542 zw2993 dX13_outWord_13 (wX13_outWord_16 hZ j hj)) (s_alt (s_callX hZ.1 (Met_J0_charAt_5068e hZ) (Nat.le_of_ble_eq_true rfl) vy_J0_charAt_5068e (zo_O80 hZ) zw541 zw542 zw2993 dX13_outWord_13 (wX13_outWord_16 hZ j hj)) (s_alt (s_callX hZ.1 (Met_J0_charAt_5068e hZ) (Nat.le_of_ble_eq_true rfl) vy_J0_charAt_5068e (zo_O82 hZ) zw541 zw542 zw2993 dX13_outWord_13 (wX13_outWord_16 hZ j hj)) (s_alt (s_callX hZ.1 (Met_J0_charAt_5068e hZ) (Nat.le_of_ble_eq_true rfl) vy_J0_charAt_5068e (zo_O84 hZ) zw541 zw542 zw2993 dX13_outWord_13 (wX13_outWord_16 hZ j hj)) (s_alt (s_callX hZ.1 (Met_J0_charAt_5068e hZ) (Nat.le_of_ble_eq_true rfl) vy_J0_charAt_5068e (zo_O86 hZ) zw541 zw542 zw2993 dX13_outWord_13 (wX13_outWord_16 hZ j hj)) (s_alt (s_callX hZ.1 (Met_J0_charAt_5068e hZ) (Nat.le_of_ble_eq_true rfl) vy_J0_charAt_5068e (zo_O88 hZ) zw541 zw542 zw2993 dX13_outWord_13 (wX13_outWord_16 hZ j hj)) (s_alt (s_callX hZ.1 (Met_J0_charAt_5068e hZ) (Nat.le_of_ble_eq_true rfl) vy_J0_charAt_5068e (zo_O90 hZ) zw541 zw542 zw2993 dX13_outWord_13 (wX13_outWord_16 hZ j hj)) (s_alt (s_callX hZ.1 (Met_J0_charAt_5068e hZ) (Nat.le_of_ble_eq_true rfl) vy_J0_charAt_5068e (zo_O92 hZ) zw541 zw542 zw2993 dX13_outWord_13 (wX13_outWord_16 hZ j hj)) (s_alt (s_callX hZ.1 (Met_J0_charAt_5068e hZ) (Nat.le_of_ble_eq_true rfl) vy_J0_charAt_5068e (zo_O94 hZ) zw541 zw542 zw2993 dX13_outWord_13 (wX13_outWord_16 hZ j hj)) (s_alt (s_callX hZ.1 (Met_J0_charAt_5068e hZ) (Nat.le_of_ble_eq_true rfl) vy_J0_charAt_5068e (zo_O96 hZ) zw541 zw542 zw2993 dX13_outWord_13 (wX13_outWord_16 hZ j hj)) (s_alt (s_callX hZ.1 (Met_J0_charAt_5068e hZ) (Nat.le_of_ble_eq_true rfl) vy_J0_charAt_5068e (zo_O98 hZ) zw541 zw542 zw2993 dX13_outWord_13 (wX13_outWord_16 hZ j hj)) (s_alt (s_callX hZ.1 (Met_J0_charAt_5068e hZ) (Nat.le_of_ble_eq_true rfl) vy_J0_charAt_5068e (zo_O100 hZ) zw541 zw542 zw2993 dX13_outWord_13 (wX13_outWord_16 hZ j hj)) (s_alt (s_callX hZ.1 (Met_J0_charAt_5068e hZ) (Nat.le_of_ble_eq_true rfl) vy_J0_charAt_5068e (zo_O102 hZ) zw541 zw542 zw2993 dX13_outWord_13 (wX13_outWord_16 hZ j hj)) (s_alt (s_callX hZ.1 (Met_J0_charAt_5068e hZ) (Nat.le_of_ble_eq_true rfl) vy_J0_charAt_5068e (zo_O104 hZ) zw541 zw542 zw2993 dX13_outWord_13 (wX13_outWord_16 hZ j hj)) (s_alt (s_callX hZ.1 (Met_J0_charAt_5068e hZ) (Nat.le_of_ble_eq_true rfl) vy_J0_charAt_5068e (zo_O106 hZ) zw541 zw542 zw2993 dX13_outWord_13 (wX13_outWord_16 hZ j hj)) (s_alt (s_callX hZ.1 (Met_J0_charAt_5068e hZ) (Nat.le_of_ble_eq_true rfl) vy_J0_charAt_5068e (zo_O108 hZ) zw541 zw542 zw2993 dX13_outWord_13 (wX13_outWord_16 hZ j hj)) (s_alt (s_callX hZ.1 (Met_J0_charAt_5068e hZ) (Nat.le_of_ble_eq_true rfl) vy_J0_charAt_5068e (zo_O110 hZ) zw541 zw542 zw2993 dX13_outWord_13 (wX13_outWord_16 hZ j hj)) (s_alt (s_callX hZ.1 (Met_J0_charAt_5068e hZ) (Nat.le_of_ble_eq_true rfl) vy_J0_charAt_5068e (zo_O112 hZ) zw541 zw542 zw2993 dX13_outWord_13 (wX13_outWord_16 hZ j hj)) (s_alt (s_callX hZ.1 (Met_J0_charAt_5068e hZ) (Nat.le_of_ble_eq_true rfl) vy_J0_charAt_5068e (zo_O114 hZ) zw541 zw542 zw2993 dX13_outWord_13 (wX13_outWord_16 hZ j hj)) (s_alt (s_callX hZ.1 (Met_J0_charAt_5068e hZ) (Nat.le_of_ble_eq_true rfl) vy_J0_charAt_5068e (zo_O116 hZ) zw541 zw542 zw2993 dX13_outWord_13 (wX13_outWord_16 hZ j hj)) (s_alt (s_callX hZ.1 (Met_J0_charAt_5068e hZ) (Nat.le_of_ble_eq_true rfl) vy_J0_charAt_5068e (zo_O118 hZ) zw541 zw542 zw2993 dX13_outWord_13 (wX13_outWord_16 hZ j hj)) (s_alt (s_callX hZ.1 (Met_J0_charAt_5068e hZ) (Nat.le_of_ble_eq_true rfl) vy_J0_charAt_5068e (zo_O120 hZ) zw541 zw542 zw2993 dX13_outWord_13 (wX13_outWord_16 hZ j hj)) (s_alt (s_callX hZ.1 (Met_J0_charAt_5068e hZ) (Nat.le_of_ble_eq_true rfl) vy_J0_charAt_5068e (zo_O122 hZ) zw541 zw542 zw2993 dX13_outWord_13 (wX13_outWord_16 hZ j hj)) (s_alt (s_callX hZ.1 (Met_J0_charAt_5068e hZ) (Nat.le_of_ble_eq_true rfl) vy_J0_charAt_5068e (zo_O124 hZ) zw541 zw542 zw2993 dX13_outWord_13 (wX13_outWord_16 hZ j hj)) (s_alt (s_callX hZ.1 (Met_J0_charAt_5068e hZ) (Nat.le_of_ble_eq_true rfl) vy_J0_charAt_5068e (zo_O126 hZ) zw541 zw542 zw2993 dX13_outWord_13 (wX13_outWord_16 hZ j hj)) (s_alt (s_callX hZ.1 (Met_J0_charAt_5068e hZ) (Nat.le_of_ble_eq_true rfl) vy_J0_charAt_5068e (zo_O128 hZ) zw541 zw542 zw2993 dX13_outWord_13 (wX13_outWord_16 hZ j hj)) (s_alt (s_callX hZ.1 (Met_J0_charAt_5068e hZ) (Nat.le_of_ble_eq_true rfl) vy_J0_charAt_5068e (zo_O130 hZ) zw541 zw542 zw2993 dX13_outWord_13 (wX13_outWord_16 hZ j hj)) (s_alt (s_callX hZ.1 (Met_J0_charAt_5068e hZ) (Nat.le_of_ble_eq_true rfl) vy_J0_charAt_5068e (zo_O132 hZ) zw541 zw542 zw2993 dX13_outWord_13 (wX13_outWord_16 hZ j hj)) (s_alt (s_callX hZ.1 (Met_J0_charAt_5068e hZ) (Nat.le_of_ble_eq_true rfl) vy_J0_charAt_5068e (zo_O134 hZ) zw541 zw542 zw2993 dX13_outWord_13 (wX13_outWord_16 hZ j hj)) (s_alt (s_callX hZ.1 (Met_J0_charAt_5068e hZ) (Nat.le_of_ble_eq_true rfl) vy_J0_charAt_5068e (zo_O136 hZ) zw541 zw542 zw2993 dX13_outWord_13 (wX13_outWord_16 hZ j hj)) (s_alt (s_callX hZ.1 (Met_J0_charAt_5068e hZ) (Nat.le_of_ble_eq_true rfl) vy_J0_charAt_5068e (zo_O138 hZ) zw541 zw542 zw2993 dX13_outWord_13 (wX13_outWord_16 hZ j hj)) (s_alt (s_callX hZ.1 (Met_J0_charAt_5068e hZ) (Nat.le_of_ble_eq_true rfl) vy_J0_charAt_5068e (zo_O140 hZ) zw541 zw542 zw2993 dX13_outWord_13 (wX13_outWord_16 hZ j hj)) (s_alt (s_callX hZ.1 (Met_J0_charAt_5068e hZ) (Nat.le_of_ble_eq_true rfl) vy_J0_charAt_5068e (zo_O142 hZ) zw541 zw542 zw2993 dX13_outWord_13 (wX13_outWord_16 hZ j hj)) (s_alt (s_callX hZ.1 (Met_J0_charAt_5068e hZ) (Nat.le_of_ble_eq_true rfl) vy_J0_charAt_5068e (zo_O144 hZ) zw541 zw542 zw2993 dX13_outWord_13 (wX13_outWord_16 hZ j hj)) (s_alt (s_callX hZ.1 (Met_J0_charAt_5068e hZ) (Nat.le_of_ble_eq_true rfl) vy_J0_charAt_5068e (zo_O146 hZ) zw541 zw542 zw2993 dX13_outWord_13 (wX13_outWord_16 hZ j hj)) (s_alt (s_callX hZ.1 (Met_J0_charAt_5068e hZ) (Nat.le_of_ble_eq_true rfl) vy_J0_charAt_5068e (zo_O148 hZ) zw541 zw542 zw2993 dX13_outWord_13 (wX13_outWord_16 hZ j hj)) (s_alt (s_callX hZ.1 (Met_J0_charAt_5068e hZ) (Nat.le_of_ble_eq_true rfl) vy_J0_charAt_5068e (zo_O150 hZ) zw541 zw542 zw2993 dX13_outWord_13 (wX13_outWord_16 hZ j hj)) (s_alt (s_callX hZ.1 (Met_J0_charAt_5068e hZ) (Nat.le_of_ble_eq_true rfl) vy_J0_charAt_5068e (zo_O152 hZ) zw541 zw542 zw2993 dX13_outWord_13 (wX13_outWord_16 hZ j hj)) (s_alt (s_callX hZ.1 (Met_J0_charAt_5068e hZ) (Nat.le_of_ble_eq_true rfl) vy_J0_charAt_5068e (zo_O154 hZ) zw541 zw542 zw2993 dX13_outWord_13 (wX13_outWord_16 hZ j hj)) (s_alt (s_callX hZ.1 (Met_J0_charAt_5068e hZ) (Nat.le_of_ble_eq_true rfl) vy_J0_charAt_5068e (zo_O156 hZ) zw541 zw542 zw2993 dX13_outWord_13 (wX13_outWord_16 hZ j hj)) (s_alt (s_callX hZ.1 (Met_J0_charAt_5068e hZ) (Nat.le_of_ble_eq_true rfl) vy_J0_charAt_5068e (zo_O158 hZ) zw541 zw542 zw2993 dX13_outWord_13 (wX13_outWord_16 hZ j hj)) s_none)))))))))))))))))))))))))))))))))))))))))))))))))))))))))))))))))))))))))))))
noncomputable def vX13_outWord_7 (j : Nat → rx_K) : rx_K := o_c2 rx_lt (vX13_outWord_10 j) (vX13_outWord_25 j)
set_option maxRecDepth 20000 in
theorem wX13_outWord_7 (hZ : zO b e D A X) (j : Nat → rx_K) (hj : ∀ k pc, [2][k]? = some pc → rx_OK (zV b e D A X) mX13_outWord 4 pc (j k)) : rx_OK (zV b e D A X) mX13_outWord 4 7 (vX13_outWord_7 j) := by
  unfold vX13_outWord_7
  exact s_icmp_ge dX13_outWord_7 (by decide) (wX13_outWord_25 hZ j hj) (wX13_outWord_10 hZ j hj)
noncomputable def vX13_outWord_2 (j : Nat → rx_K) : rx_K := o_ld rx_isI 2 (o_ld rx_isR 1 (o_alt (zqn 0 6) (o_callX 0 6 FJ0_length_8abf5 ((vX13_outWord_7 j))) (o_alt (zqn 0 8) (o_callX 0 8 FJ0_length_8abf5 ((vX13_outWord_7 j))) (o_alt (zqn 0 10) (o_callX 0 10 FJ0_length_8abf5 ((vX13_outWord_7 j))) (o_alt (zqn 0 12) (o_callX 0 12 FJ0_length_8abf5 ((vX13_outWord_7 j))) (o_alt (zqn 0 14) (o_callX 0 14 FJ0_length_8abf5 ((vX13_outWord_7 j))) (o_alt (zqn 0 16) (o_callX 0 16 FJ0_length_8abf5 ((vX13_outWord_7 j))) (o_alt (zqn 0 18) (o_callX 0 18 FJ0_length_8abf5 ((vX13_outWord_7 j))) (o_alt (zqn 0 20) (o_callX 0 20 FJ0_length_8abf5 ((vX13_outWord_7 j))) (o_alt (zqn 0 22) (o_callX 0 22 FJ0_length_8abf5 ((vX13_outWord_7 j))) (o_alt (zqn 0 24) (o_callX 0 24 FJ0_length_8abf5 ((vX13_outWord_7 j))) (o_alt (zqn 0 26) (o_callX 0 26 FJ0_length_8abf5 ((vX13_outWord_7 j))) (o_alt (zqn 0 28) (o_callX 0 28 FJ0_length_8abf5 ((vX13_outWord_7 j))) (o_alt (zqn 0 30) (o_callX 0 30 FJ0_length_8abf5 ((vX13_outWord_7 j))) (o_alt (zqn 0 32) (o_callX 0 32 FJ0_length_8abf5 ((vX13_outWord_7 j))) (o_alt (zqn 0 34) (o_callX 0 34 FJ0_length_8abf5 ((vX13_outWord_7 j))) (o_alt (zqn 0 36) (o_callX 0 36 FJ0_length_8abf5 ((vX13_outWord_7 j))) (o_alt (zqn 0 38) (o_callX 0 38 FJ0_length_8abf5 ((vX13_outWord_7 j))) (o_alt (zqn 0 40) (o_callX 0 40 FJ0_length_8abf5 ((vX13_outWord_7 j))) (o_alt (zqn 0 42) (o_callX 0 42 FJ0_length_8abf5 ((vX13_outWord_7 j))) (o_alt (zqn 0 44) (o_callX 0 44 FJ0_length_8abf5 ((vX13_outWord_7 j))) (o_alt (zqn 0 46) (o_callX 0 46 FJ0_length_8abf5 ((vX13_outWord_7 j))) (o_alt (zqn 0 48) (o_callX 0 48 FJ0_length_8abf5 ((vX13_outWord_7 j))) (o_alt (zqn 0 50) (o_callX 0 50 FJ0_length_8abf5 ((vX13_outWord_7 j))) (o_alt (zqn 0 52) (o_callX 0 52 FJ0_length_8abf5 ((vX13_outWord_7 j))) (o_alt (zqn 0 54) (o_callX 0 54 FJ0_length_8abf5 ((vX13_outWord_7 j))) (o_alt (zqn 0 56) (o_callX 0 56 FJ0_length_8abf5 ((vX13_outWord_7 j))) (o_alt (zqn 0 58) (o_callX 0 58 FJ0_length_8abf5 ((vX13_outWord_7 j))) (o_alt (zqn 0 60) (o_callX 0 60 FJ0_length_8abf5 ((vX13_outWord_7 j))) (o_alt (zqn 0 62) (o_callX 0 62 FJ0_length_8abf5 ((vX13_outWord_7 j))) (o_alt (zqn 0 64) (o_callX 0 64 FJ0_length_8abf5 ((vX13_outWord_7 j))) (o_alt (zqn 0 66) (o_callX 0 66 FJ0_length_8abf5 ((vX13_outWord_7 j))) (o_alt (zqn 0 68) (o_callX 0 68 FJ0_length_8abf5 ((vX13_outWord_7 j))) (o_alt (zqn 0 70) (o_callX 0 70 FJ0_length_8abf5 ((vX13_outWord_7 j))) (o_alt (zqn 0 72) (o_callX 0 72 FJ0_length_8abf5 ((vX13_outWord_7 j))) (o_alt (zqn 0 74) (o_callX 0 74 FJ0_length_8abf5 ((vX13_outWord_7 j))) (o_alt (zqn 0 76) (o_callX 0 76 FJ0_length_8abf5 ((vX13_outWord_7 j))) (o_alt (zqn 0 78) (o_callX 0 78 FJ0_length_8abf5 ((vX13_outWord_7 j))) (o_alt (zqn 0 80) (o_callX 0 80 FJ0_length_8abf5 ((vX13_outWord_7 j))) (o_alt (zqn 0 82) (o_callX 0 82 FJ0_length_8abf5 ((vX13_outWord_7 j))) (o_alt (zqn 0 84) (o_callX 0 84 FJ0_length_8abf5 ((vX13_outWord_7 j))) (o_alt (zqn 0 86) (o_callX 0 86 FJ0_length_8abf5 ((vX13_outWord_7 j))) (o_alt (zqn 0 88) (o_callX 0 88 FJ0_length_8abf5 ((vX13_outWord_7 j))) (o_alt (zqn 0 90) (o_callX 0 90 FJ0_length_8abf5 ((vX13_outWord_7 j))) (o_alt (zqn 0 92) (o_callX 0 92 FJ0_length_8abf5 ((vX13_outWord_7 j))) (o_alt (zqn 0 94) (o_callX 0 94 FJ0_length_8abf5 ((vX13_outWord_7 j))) (o_alt (zqn 0 96) (o_callX 0 96 FJ0_length_8abf5 ((vX13_outWord_7 j))) (o_alt (zqn 0 98) (o_callX 0 98 FJ0_length_8abf5 ((vX13_outWord_7 j))) (o_alt (zqn 0 100) (o_callX 0 100 FJ0_length_8abf5 ((vX13_outWord_7 j))) (o_alt (zqn 0 102) (o_callX 0 102 FJ0_length_8abf5 ((vX13_outWord_7 j))) (o_alt (zqn 0 104) (o_callX 0 104 FJ0_length_8abf5 ((vX13_outWord_7 j))) (o_alt (zqn 0 106) (o_callX 0 106 FJ0_length_8abf5 ((vX13_outWord_7 j))) (o_alt (zqn 0 108) (o_callX 0 108 FJ0_length_8abf5 ((vX13_outWord_7 j))) (o_alt (zqn 0 110) (o_callX 0 110 FJ0_length_8abf5 ((vX13_outWord_7 j))) (o_alt (zqn 0 112) (o_callX 0 112 FJ0_length_8abf5 ((vX13_outWord_7 j))) (o_alt (zqn 0 114) (o_callX 0 114 FJ0_length_8abf5 ((vX13_outWord_7 j))) (o_alt (zqn 0 116) (o_callX 0 116 FJ0_length_8abf5 ((vX13_outWord_7 j))) (o_alt (zqn 0 118) (o_callX 0 118 FJ0_length_8abf5 ((vX13_outWord_7 j))) (o_alt (zqn 0 120) (o_callX 0 120 FJ0_length_8abf5 ((vX13_outWord_7 j))) (o_alt (zqn 0 122) (o_callX 0 122 FJ0_length_8abf5 ((vX13_outWord_7 j))) (o_alt (zqn 0 124) (o_callX 0 124 FJ0_length_8abf5 ((vX13_outWord_7 j))) (o_alt (zqn 0 126) (o_callX 0 126 FJ0_length_8abf5 ((vX13_outWord_7 j))) (o_alt (zqn 0 128) (o_callX 0 128 FJ0_length_8abf5 ((vX13_outWord_7 j))) (o_alt (zqn 0 130) (o_callX 0 130 FJ0_length_8abf5 ((vX13_outWord_7 j))) (o_alt (zqn 0 132) (o_callX 0 132 FJ0_length_8abf5 ((vX13_outWord_7 j))) (o_alt (zqn 0 134) (o_callX 0 134 FJ0_length_8abf5 ((vX13_outWord_7 j))) (o_alt (zqn 0 136) (o_callX 0 136 FJ0_length_8abf5 ((vX13_outWord_7 j))) (o_alt (zqn 0 138) (o_callX 0 138 FJ0_length_8abf5 ((vX13_outWord_7 j))) (o_alt (zqn 0 140) (o_callX 0 140 FJ0_length_8abf5 ((vX13_outWord_7 j))) (o_alt (zqn 0 142) (o_callX 0 142 FJ0_length_8abf5 ((vX13_outWord_7 j))) (o_alt (zqn 0 144) (o_callX 0 144 FJ0_length_8abf5 ((vX13_outWord_7 j))) (o_alt (zqn 0 146) (o_callX 0 146 FJ0_length_8abf5 ((vX13_outWord_7 j))) (o_alt (zqn 0 148) (o_callX 0 148 FJ0_length_8abf5 ((vX13_outWord_7 j))) (o_alt (zqn 0 150) (o_callX 0 150 FJ0_length_8abf5 ((vX13_outWord_7 j))) (o_alt (zqn 0 152) (o_callX 0 152 FJ0_length_8abf5 ((vX13_outWord_7 j))) (o_alt (zqn 0 154) (o_callX 0 154 FJ0_length_8abf5 ((vX13_outWord_7 j))) (o_alt (zqn 0 156) (o_callX 0 156 FJ0_length_8abf5 ((vX13_outWord_7 j))) (o_alt (zqn 0 158) (o_callX 0 158 FJ0_length_8abf5 ((vX13_outWord_7 j))) (o_none)))))))))))))))))))))))))))))))))))))))))))))))))))))))))))))))))))))))))))))))
set_option maxRecDepth 20000 in
theorem wX13_outWord_2 (hZ : zO b e D A X) (j : Nat → rx_K) (hj : ∀ k pc, [2][k]? = some pc → rx_OK (zV b e D A X) mX13_outWord 4 pc (j k)) : rx_OK (zV b e D A X) mX13_outWord 4 2 (vX13_outWord_2 j) := by
  unfold vX13_outWord_2
  refine s_iload_n hZ.1 dX13_outWord_2 rfl ?_
  refine s_aload_n hZ.1 dX13_outWord_3 rfl ?_
  exact (s_alt (s_callX hZ.1 (Met_J0_length_8abf5 hZ) (Nat.le_of_ble_eq_true rfl) vy_J0_length_8abf5 (zo_O6 hZ) zw531 zw532 zw2992 dX13_outWord_4 (wX13_outWord_7 hZ j hj)) (s_alt (s_callX hZ.1 (Met_J0_length_8abf5 hZ) (Nat.le_of_ble_eq_true rfl) vy_J0_length_8abf5 (zo_O8 hZ) zw531 zw532 zw2992 dX13_outWord_4 (wX13_outWord_7 hZ j hj)) (s_alt (s_callX hZ.1 (Met_J0_length_8abf5 hZ) (Nat.le_of_ble_eq_true rfl) vy_J0_length_8abf5 (zo_O10 hZ) zw531 zw532 zw2992 dX13_outWord_4 (wX13_outWord_7 hZ j hj)) (s_alt (s_callX hZ.1 (Met_J0_length_8abf5 hZ) (Nat.le_of_ble_eq_true rfl) vy_J0_length_8abf5 (zo_O12 hZ) zw531 zw532 zw2992 dX13_outWord_4 (wX13_outWord_7 hZ j hj)) (s_alt (s_callX hZ.1 (Met_J0_length_8abf5 hZ) (Nat.le_of_ble_eq_true rfl) vy_J0_length_8abf5 (zo_O14 hZ) zw531 zw532 zw2992 dX13_outWord_4 (wX13_outWord_7 hZ j hj)) (s_alt (s_callX hZ.1 (Met_J0_length_8abf5 hZ) (Nat.le_of_ble_eq_true rfl) vy_J0_length_8abf5 (zo_O16 hZ) zw531 zw532 zw2992 dX13_outWord_4 (wX13_outWord_7 hZ j hj)) (s_alt (s_callX hZ.1 (Met_J0_length_8abf5 hZ) (Nat.le_of_ble_eq_true rfl) vy_J0_length_8abf5 (zo_O18 hZ) zw531 zw532 zw2992 dX13_outWord_4 (wX13_outWord_7 hZ j hj)) (s_alt (s_callX hZ.1 (Met_J0_length_8abf5 hZ) (Nat.le_of_ble_eq_true rfl) vy_J0_length_8abf5 (zo_O20 hZ) zw531 zw532 zw2992 dX13_outWord_4 (wX13_outWord_7 hZ j hj)) (s_alt (s_callX hZ.1 (Met_J0_length_8abf5 hZ) (Nat.le_of_ble_eq_true rfl) vy_J0_length_8abf5 (zo_O22 hZ) zw531 zw532 zw2992 dX13_outWord_4 (wX13_outWord_7 hZ j hj)) (s_alt (s_callX hZ.1 (Met_J0_length_8abf5 hZ) (Nat.le_of_ble_eq_true rfl) vy_J0_length_8abf5 (zo_O24 hZ) zw531 zw532 zw2992 dX13_outWord_4 (wX13_outWord_7 hZ j hj)) (s_alt (s_callX hZ.1 (Met_J0_length_8abf5 hZ) (Nat.le_of_ble_eq_true rfl) vy_J0_length_8abf5 (zo_O26 hZ) zw531 zw532 zw2992 dX13_outWord_4 (wX13_outWord_7 hZ j hj)) (s_alt (s_callX hZ.1 (Met_J0_length_8abf5 hZ) (Nat.le_of_ble_eq_true rfl) vy_J0_length_8abf5 (zo_O28 hZ) zw531 zw532 zw2992 dX13_outWord_4 (wX13_outWord_7 hZ j hj)) (s_alt (s_callX hZ.1 (Met_J0_length_8abf5 hZ) (Nat.le_of_ble_eq_true rfl) vy_J0_length_8abf5 (zo_O30 hZ) zw531 zw532 zw2992 dX13_outWord_4 (wX13_outWord_7 hZ j hj)) (s_alt (s_callX hZ.1 (Met_J0_length_8abf5 hZ) (Nat.le_of_ble_eq_true rfl) vy_J0_length_8abf5 (zo_O32 hZ) zw531 zw532 zw2992 dX13_outWord_4 (wX13_outWord_7 hZ j hj)) (s_alt (s_callX hZ.1 (Met_J0_length_8abf5 hZ) (Nat.le_of_ble_eq_true rfl) vy_J0_length_8abf5 (zo_O34 hZ) zw531 zw532 zw2992 dX13_outWord_4 (wX13_outWord_7 hZ j hj)) (s_alt (s_callX hZ.1 (Met_J0_length_8abf5 hZ) (Nat.le_of_ble_eq_true rfl) vy_J0_length_8abf5 (zo_O36 hZ) zw531 zw532 zw2992 dX13_outWord_4 (wX13_outWord_7 hZ j hj)) (s_alt (s_callX hZ.1 (Met_J0_length_8abf5 hZ) (Nat.le_of_ble_eq_true rfl) vy_J0_length_8abf5 (zo_O38 hZ) zw531 zw532 zw2992 dX13_outWord_4 (wX13_outWord_7 hZ j hj)) (s_alt (s_callX hZ.1 (Met_J0_length_8abf5 hZ) (Nat.le_of_ble_eq_true rfl) vy_J0_length_8abf5 (zo_O40 hZ) zw531 zw532 zw2992 dX13_outWord_4 (wX13_outWord_7 hZ j hj)) (s_alt (s_callX hZ.1 (Met_J0_length_8abf5 hZ) (Nat.le_of_ble_eq_true rfl) vy_J0_length_8abf5 (zo_O42 hZ) zw531 zw532 zw2992 dX13_outWord_4 (wX13_outWord_7 hZ j hj)) (s_alt (s_callX hZ.1 (Met_J0_length_8abf5 hZ) (Nat.le_of_ble_eq_true rfl) vy_J0_length_8abf5 (zo_O44 hZ) zw531 zw532 zw2992 dX13_outWord_4 (wX13_outWord_7 hZ j hj)) (s_alt (s_callX hZ.1 (Met_J0_length_8abf5 hZ) (Nat.le_of_ble_eq_true rfl) vy_J0_length_8abf5 (zo_O46 hZ) zw531 zw532 zw2992 dX13_outWord_4 (wX13_outWord_7 hZ j hj)) (s_alt (s_callX hZ.1 (Met_J0_length_8abf5 hZ) (Nat.le_of_ble_eq_true rfl) vy_J0_length_8abf5 (zo_O48 hZ) zw531 zw532 zw2992 dX13_outWord_4 (wX13_outWord_7 hZ j hj)) (s_alt (s_callX hZ.1 (Met_J0_length_8abf5 hZ) (Nat.le_of_ble_eq_true rfl) vy_J0_length_8abf5 (zo_O50 hZ) zw531 zw532 zw2992 dX13_outWord_4 (wX13_outWord_7 hZ j hj)) (s_alt (s_callX hZ.1 (Met_J0_length_8abf5 hZ) (Nat.le_of_ble_eq_true rfl) vy_J0_length_8abf5 (zo_O52 hZ) zw531 zw532 zw2992 dX13_outWord_4 (wX13_outWord_7 hZ j hj)) (s_alt (s_callX hZ.1 (Met_J0_length_8abf5 hZ) (Nat.le_of_ble_eq_true rfl) vy_J0_length_8abf5 (zo_O54 hZ) zw531 zw532 zw2992 dX13_outWord_4 (wX13_outWord_7 hZ j hj)) (s_alt (s_callX hZ.1 (Met_J0_length_8abf5 hZ) (Nat.le_of_ble_eq_true rfl) vy_J0_length_8abf5 (zo_O56 hZ) zw531 zw532 zw2992 dX13_outWord_4 (wX13_outWord_7 hZ j hj)) (s_alt (s_callX hZ.1 (Met_J0_length_8abf5 hZ) (Nat.le_of_ble_eq_true rfl) vy_J0_length_8abf5 (zo_O58 hZ) zw531 zw532 zw2992 dX13_outWord_4 (wX13_outWord_7 hZ j hj)) (s_alt (s_callX hZ.1 (Met_J0_length_8abf5 hZ) (Nat.le_of_ble_eq_true rfl) vy_J0_length_8abf5 (zo_O60 hZ) zw531 zw532 zw2992 dX13_outWord_4 (wX13_outWord_7 hZ j hj)) (s_alt (s_callX hZ.1 (Met_J0_length_8abf5 hZ) (Nat.le_of_ble_eq_true rfl) vy_J0_length_8abf5 (zo_O62 hZ) zw531 zw532 zw2992 dX13_outWord_4 (wX13_outWord_7 hZ j hj)) (s_alt (s_callX hZ.1 (Met_J0_length_8abf5 hZ) (Nat.le_of_ble_eq_true rfl) vy_J0_length_8abf5 (zo_O64 hZ) zw531 zw532 zw2992 dX13_outWord_4 (wX13_outWord_7 hZ j hj)) (s_alt (s_callX hZ.1 (Met_J0_length_8abf5 hZ) (Nat.le_of_ble_eq_true rfl) vy_J0_length_8abf5 (zo_O66 hZ) zw531 zw532 zw2992 dX13_outWord_4 (wX13_outWord_7 hZ j hj)) (s_alt (s_callX hZ.1 (Met_J0_length_8abf5 hZ) (Nat.le_of_ble_eq_true rfl) vy_J0_length_8abf5 (zo_O68 hZ) zw531 zw532 zw2992 dX13_outWord_4 (wX13_outWord_7 hZ j hj)) (s_alt (s_callX hZ.1 (Met_J0_length_8abf5 hZ) (Nat.le_of_ble_eq_true rfl) vy_J0_length_8abf5 (zo_O70 hZ) zw531 zw532 zw2992 dX13_outWord_4 (wX13_outWord_7 hZ j hj)) (s_alt (s_callX hZ.1 (Met_J0_length_8abf5 hZ) (Nat.le_of_ble_eq_true rfl) vy_J0_length_8abf5 (zo_O72 hZ) zw531 zw532 zw2992 dX13_outWord_4 (wX13_outWord_7 hZ j hj)) (s_alt (s_callX hZ.1 (Met_J0_length_8abf5 hZ) (Nat.le_of_ble_eq_true rfl) vy_J0_length_8abf5 (zo_O74 hZ) zw531 zw532 zw2992 dX13_outWord_4 (wX13_outWord_7 hZ j hj)) (s_alt (s_callX hZ.1 (Met_J0_length_8abf5 hZ) (Nat.le_of_ble_eq_true rfl) vy_J0_length_8abf5 (zo_O76 hZ) zw531 zw532 zw2992 dX13_outWord_4 (wX13_outWord_7 hZ j hj)) (s_alt (s_callX hZ.1 (Met_J0_length_8abf5 hZ) (Nat.le_of_ble_eq_true rfl) vy_J0_length_8abf5 (zo_O78 hZ) zw531 zw532 zw2992 dX13_outWord_4 (wX13_outWord_7 hZ j hj)) (s_alt (s_callX hZ.1 (Met_J0_length_8abf5 hZ) (Nat.le_of_ble_eq_true rfl) vy_J0_length_8abf5 (zo_O80 hZ) zw531 zw532 zw2992 dX13_outWord_4 (wX13_outWord_7 hZ j hj)) (s_alt (s_callX hZ.1 (Met_J0_length_8abf5 hZ) (Nat.le_of_ble_eq_true rfl) vy_J0_length_8abf5 (zo_O82 hZ) zw531 zw532 zw2992 dX13_outWord_4 (wX13_outWord_7 hZ j hj)) (s_alt (s_callX hZ.1 (Met_J0_length_8abf5 hZ) (Nat.le_of_ble_eq_true rfl) vy_J0_length_8abf5 (zo_O84 hZ) zw531 zw532 zw2992 dX13_outWord_4 (wX13_outWord_7 hZ j hj)) (s_alt (s_callX hZ.1 (Met_J0_length_8abf5 hZ) (Nat.le_of_ble_eq_true rfl) vy_J0_length_8abf5 (zo_O86 hZ) zw531 zw532 zw2992 dX13_outWord_4 (wX13_outWord_7 hZ j hj)) (s_alt (s_callX hZ.1 (Met_J0_length_8abf5 hZ) (Nat.le_of_ble_eq_true rfl) vy_J0_length_8abf5 (zo_O88 hZ) zw531 zw532 zw2992 dX13_outWord_4 (wX13_outWord_7 hZ j hj)) (s_alt (s_callX hZ.1 (Met_J0_length_8abf5 hZ) (Nat.le_of_ble_eq_true rfl) vy_J0_length_8abf5 (zo_O90 hZ) zw531 zw532 zw2992 dX13_outWord_4 (wX13_outWord_7 hZ j hj)) (s_alt (s_callX hZ.1 (Met_J0_length_8abf5 hZ) (Nat.le_of_ble_eq_true rfl) vy_J0_length_8abf5 (zo_O92 hZ) zw531 zw532 zw2992 dX13_outWord_4 (wX13_outWord_7 hZ j hj)) (s_alt (s_callX hZ.1 (Met_J0_length_8abf5 hZ) (Nat.le_of_ble_eq_true rfl) vy_J0_length_8abf5 (zo_O94 hZ) zw531 zw532 zw2992 dX13_outWord_4 (wX13_outWord_7 hZ j hj)) (s_alt (s_callX hZ.1 (Met_J0_length_8abf5 hZ) (Nat.le_of_ble_eq_true rfl) vy_J0_length_8abf5 (zo_O96 hZ) zw531 zw532 zw2992 dX13_outWord_4 (wX13_outWord_7 hZ j hj)) (s_alt (s_callX hZ.1 (Met_J0_length_8abf5 hZ) (Nat.le_of_ble_eq_true rfl) vy_J0_length_8abf5 (zo_O98 hZ) zw531 zw532 zw2992 dX13_outWord_4 (wX13_outWord_7 hZ j hj)) (s_alt (s_callX hZ.1 (Met_J0_length_8abf5 hZ) (Nat.le_of_ble_eq_true rfl) vy_J0_length_8abf5 (zo_O100 hZ) zw531 zw532 zw2992 dX13_outWord_4 (wX13_outWord_7 hZ j hj)) (s_alt (s_callX hZ.1 (Met_J0_length_8abf5 hZ) (Nat.le_of_ble_eq_true rfl) vy_J0_length_8abf5 (zo_O102 hZ) zw531 zw532 zw2992 dX13_outWord_4 (wX13_outWord_7 hZ j hj)) (s_alt (s_callX hZ.1 (Met_J0_length_8abf5 hZ) (Nat.le_of_ble_eq_true rfl) vy_J0_length_8abf5 (zo_O104 hZ) zw531 zw532 zw2992 dX13_outWord_4 (wX13_outWord_7 hZ j hj)) (s_alt (s_callX hZ.1 (Met_J0_length_8abf5 hZ) (Nat.le_of_ble_eq_true rfl) vy_J0_length_8abf5 (zo_O106 hZ) zw531 zw532 zw2992 dX13_outWord_4 (wX13_outWord_7 hZ j hj)) (s_alt (s_callX hZ.1 (Met_J0_length_8abf5 hZ) (Nat.le_of_ble_eq_true rfl) vy_J0_length_8abf5 (zo_O108 hZ) zw531 zw532 zw2992 dX13_outWord_4 (wX13_outWord_7 hZ j hj)) (s_alt (s_callX hZ.1 (Met_J0_length_8abf5 hZ) (Nat.le_of_ble_eq_true rfl) vy_J0_length_8abf5 (zo_O110 hZ) zw531 zw532 zw2992 dX13_outWord_4 (wX13_outWord_7 hZ j hj)) (s_alt (s_callX hZ.1 (Met_J0_length_8abf5 hZ) (Nat.le_of_ble_eq_true rfl) vy_J0_length_8abf5 (zo_O112 hZ) zw531 zw532 zw2992 dX13_outWord_4 (wX13_outWord_7 hZ j hj)) (s_alt (s_callX hZ.1 (Met_J0_length_8abf5 hZ) (Nat.le_of_ble_eq_true rfl) vy_J0_length_8abf5 (zo_O114 hZ) zw531 zw532 zw2992 dX13_outWord_4 (wX13_outWord_7 hZ j hj)) (s_alt (s_callX hZ.1 (Met_J0_length_8abf5 hZ) (Nat.le_of_ble_eq_true rfl) vy_J0_length_8abf5 (zo_O116 hZ) zw531 zw532 zw2992 dX13_outWord_4 (wX13_outWord_7 hZ j hj)) (s_alt (s_callX hZ.1 (Met_J0_length_8abf5 hZ) (Nat.le_of_ble_eq_true rfl) vy_J0_length_8abf5 (zo_O118 hZ) zw531 zw532 zw2992 dX13_outWord_4 (wX13_outWord_7 hZ j hj)) (s_alt (s_callX hZ.1 (Met_J0_length_8abf5 hZ) (Nat.le_of_ble_eq_true rfl) vy_J0_length_8abf5 (zo_O120 hZ) zw531 zw532 zw2992 dX13_outWord_4 (wX13_outWord_7 hZ j hj)) (s_alt (s_callX hZ.1 (Met_J0_length_8abf5 hZ) (Nat.le_of_ble_eq_true rfl) vy_J0_length_8abf5 (zo_O122 hZ) zw531 zw532 zw2992 dX13_outWord_4 (wX13_outWord_7 hZ j hj)) (s_alt (s_callX hZ.1 (Met_J0_length_8abf5 hZ) (Nat.le_of_ble_eq_true rfl) vy_J0_length_8abf5 (zo_O124 hZ) zw531 zw532 zw2992 dX13_outWord_4 (wX13_outWord_7 hZ j hj)) (s_alt (s_callX hZ.1 (Met_J0_length_8abf5 hZ) (Nat.le_of_ble_eq_true rfl) vy_J0_length_8abf5 (zo_O126 hZ) zw531 zw532 zw2992 dX13_outWord_4 (wX13_outWord_7 hZ j hj)) (s_alt (s_callX hZ.1 (Met_J0_length_8abf5 hZ) (Nat.le_of_ble_eq_true rfl) vy_J0_length_8abf5 (zo_O128 hZ) zw531 zw532 zw2992 dX13_outWord_4 (wX13_outWord_7 hZ j hj)) (s_alt (s_callX hZ.1 (Met_J0_length_8abf5 hZ) (Nat.le_of_ble_eq_true rfl) vy_J0_length_8abf5 (zo_O130 hZ) zw531 zw532 zw2992 dX13_outWord_4 (wX13_outWord_7 hZ j hj)) (s_alt (s_callX hZ.1 (Met_J0_length_8abf5 hZ) (Nat.le_of_ble_eq_true rfl) vy_J0_length_8abf5 (zo_O132 hZ) zw531 zw532 zw2992 dX13_outWord_4 (wX13_outWord_7 hZ j hj)) (s_alt (s_callX hZ.1 (Met_J0_length_8abf5 hZ) (Nat.le_of_ble_eq_true rfl) vy_J0_length_8abf5 (zo_O134 hZ) zw531 zw532 zw2992 dX13_outWord_4 (wX13_outWord_7 hZ j hj)) (s_alt (s_callX hZ.1 (Met_J0_length_8abf5 hZ) (Nat.le_of_ble_eq_true rfl) vy_J0_length_8abf5 (zo_O136 hZ) zw531 zw532 zw2992 dX13_outWord_4 (wX13_outWord_7 hZ j hj)) (s_alt (s_callX hZ.1 (Met_J0_length_8abf5 hZ) (Nat.le_of_ble_eq_true rfl) vy_J0_length_8abf5 (zo_O138 hZ) zw531 zw532 zw2992 dX13_outWord_4 (wX13_outWord_7 hZ j hj)) (s_alt (s_callX hZ.1 (Met_J0_length_8abf5 hZ) (Nat.le_of_ble_eq_true rfl) vy_J0_length_8abf5 (zo_O140 hZ) zw531 zw532 zw2992 dX13_outWord_4 (wX13_outWord_7 hZ j hj)) (s_alt (s_callX hZ.1 (Met_J0_length_8abf5 hZ) (Nat.le_of_ble_eq_true rfl) vy_J0_length_8abf5 (zo_O142 hZ) zw531 zw532 zw2992 dX13_outWord_4 (wX13_outWord_7 hZ j hj)) (s_alt (s_callX hZ.1 (Met_J0_length_8abf5 hZ) (Nat.le_of_ble_eq_true rfl) vy_J0_length_8abf5 (zo_O144 hZ) zw531 zw532 zw2992 dX13_outWord_4 (wX13_outWord_7 hZ j hj)) (s_alt (s_callX hZ.1 (Met_J0_length_8abf5 hZ) (Nat.le_of_ble_eq_true rfl) vy_J0_length_8abf5 (zo_O146 hZ) zw531 zw532 zw2992 dX13_outWord_4 (wX13_outWord_7 hZ j hj)) (s_alt (s_callX hZ.1 (Met_J0_length_8abf5 hZ) (Nat.le_of_ble_eq_true rfl) vy_J0_length_8abf5 (zo_O148 hZ) zw531 zw532 zw2992 dX13_outWord_4 (wX13_outWord_7 hZ j hj)) (s_alt (s_callX hZ.1 (Met_J0_length_8abf5 hZ) (Nat.le_of_ble_eq_true rfl) vy_J0_length_8abf5 (zo_O150 hZ) zw531 zw532 zw2992 dX13_outWord_4 (wX13_outWord_7 hZ j hj)) (s_alt (s_callX hZ.1 (Met_J0_length_8abf5 hZ) (Nat.le_of_ble_eq_true rfl) vy_J0_length_8abf5 (zo_O152 hZ) zw531 zw532 zw2992 dX13_outWord_4 (wX13_outWord_7 hZ j hj)) (s_alt (s_callX hZ.1 (Met_J0_length_8abf5 hZ) (Nat.le_of_ble_eq_true rfl) vy_J0_length_8abf5 (zo_O154 hZ) zw531 zw532 zw2992 dX13_outWord_4 (wX13_outWord_7 hZ j hj)) (s_alt (s_callX hZ.1 (Met_J0_length_8abf5 hZ) (Nat.le_of_ble_eq_true rfl) vy_J0_length_8abf5 (zo_O156 hZ) zw531 zw532 zw2992 dX13_outWord_4 (wX13_outWord_7 hZ j hj)) (s_alt (s_callX hZ.1 (Met_J0_length_8abf5 hZ) (Nat.le_of_ble_eq_true rfl) vy_J0_length_8abf5 (zo_O158 hZ) zw531 zw532 zw2992 dX13_outWord_4 (wX13_outWord_7 hZ j hj)) s_none)))))))))))))))))))))))))))))))))))))))))))))))))))))))))))))))))))))))))))))
noncomputable def vX13_outWord_0 (j : Nat → rx_K) : rx_K := o_const 0 (o_st rx_isI 2 ((vX13_outWord_2 j)))
set_option maxRecDepth 20000 in
theorem wX13_outWord_0 (hZ : zO b e D A X) (j : Nat → rx_K) (hj : ∀ k pc, [2][k]? = some pc → rx_OK (zV b e D A X) mX13_outWord 4 pc (j k)) : rx_OK (zV b e D A X) mX13_outWord 4 0 (vX13_outWord_0 j) := by
  unfold vX13_outWord_0
  refine s_iconst dX13_outWord_0 (by decide +kernel) ?_
  refine s_istore_n hZ.1 dX13_outWord_1 rfl (Nat.le_of_ble_eq_true rfl) ?_
  exact (wX13_outWord_2 hZ j hj)
noncomputable def vhX13_outWord (j : Nat → rx_K) : List rx_K := [vX13_outWord_2 j]
theorem vlX13_outWord (hZ : zO b e D A X) : ∀ n k pc, [2][k]? = some pc → rx_OK (zV b e D A X) mX13_outWord 4 pc (rx_J (vhX13_outWord) n k) := rx_loop fun j hj k pc h => by
  match k, h with
  | 0, h =>
    have e9 := Option.some.inj (show some 2 = some pc from h)
    subst e9
    exact wX13_outWord_2 hZ j hj
  | _ + 1, h => exact absurd h (by simp)
noncomputable def FX13_outWord : List Nat → rx_H → Option (Nat × rx_H) := rx_ent 3 (vX13_outWord_0 (rx_J (vhX13_outWord) 4000000000))
theorem Met_X13_outWord (hZ : zO b e D A X) : rx_Met (zV b e D A X) 4 yX13_outWord mX13_outWord (FX13_outWord) := rx_entry hZ.1 (wX13_outWord_0 hZ _ (vlX13_outWord hZ 4000000000)) (by decide +kernel) rfl (fun h => by cases h)
abbrev mX13_outName : rx_M := (RX13, cX13_outName, 7, none, false)
theorem vy_X13_outName : rx_Y (zV b e D A X) yX13_outName mX13_outName 1 := ⟨zw3657, zw431, by decide, by decide +kernel, by decide +kernel, by decide +kernel⟩
noncomputable def vX13_outName_92 (j : Nat → rx_K) : rx_K := o_ret0
set_option maxRecDepth 20000 in
theorem wX13_outName_92 (hZ : zO b e D A X) (j : Nat → rx_K) (hj : ∀ k pc, [9, 40][k]? = some pc → rx_OK (zV b e D A X) mX13_outName 1 pc (j k)) : rx_OK (zV b e D A X) mX13_outName 1 92 (vX13_outName_92 j) := by
  unfold vX13_outName_92
  exact s_vret rfl dX13_outName_92
noncomputable def vX13_outName_86 (j : Nat → rx_K) : rx_K := o_inc 6 (-1) ((j 1))
set_option maxRecDepth 20000 in
theorem wX13_outName_86 (hZ : zO b e D A X) (j : Nat → rx_K) (hj : ∀ k pc, [9, 40][k]? = some pc → rx_OK (zV b e D A X) mX13_outName 1 pc (j k)) : rx_OK (zV b e D A X) mX13_outName 1 86 (vX13_outName_86 j) := by
  unfold vX13_outName_86
  refine s_iinc hZ.1 dX13_outName_86 (Nat.le_of_ble_eq_true rfl) ?_
  exact s_goto dX13_outName_89 (by decide) (hj 1 40 rfl)
noncomputable def vX13_outName_80 (j : Nat → rx_K) : rx_K := o_ld rx_isR 0 (o_const 368 (o_callV 1 13 FX13_outByte ((vX13_outName_86 j))))
set_option maxRecDepth 20000 in
theorem wX13_outName_80 (hZ : zO b e D A X) (j : Nat → rx_K) (hj : ∀ k pc, [9, 40][k]? = some pc → rx_OK (zV b e D A X) mX13_outName 1 pc (j k)) : rx_OK (zV b e D A X) mX13_outName 1 80 (vX13_outName_80 j) := by
  unfold vX13_outName_80
  refine s_aload_n hZ.1 dX13_outName_80 rfl ?_
  refine s_bipush dX13_outName_81 (by decide +kernel) ?_
  refine s_callV hZ.1 (Met_X13_outByte hZ) (Nat.le_of_ble_eq_true rfl) vy_X13_outByte zcl13 zw3648 zw327 (Or.inl zw3646) dX13_outName_83 ?_
  exact (wX13_outName_86 hZ j hj)
noncomputable def vX13_outName_71 (j : Nat → rx_K) : rx_K := o_ld rx_isI 6 (o_ld rx_isI 5 (o_const 8 (o_bi (fun x y => x - y) (o_c2 rx_eq (vX13_outName_80 j) (vX13_outName_86 j)))))
set_option maxRecDepth 20000 in
theorem wX13_outName_71 (hZ : zO b e D A X) (j : Nat → rx_K) (hj : ∀ k pc, [9, 40][k]? = some pc → rx_OK (zV b e D A X) mX13_outName 1 pc (j k)) : rx_OK (zV b e D A X) mX13_outName 1 71 (vX13_outName_71 j) := by
  unfold vX13_outName_71
  refine s_iload hZ.1 dX13_outName_71 ?_
  refine s_iload hZ.1 dX13_outName_73 ?_
  refine s_iconst dX13_outName_75 (by decide +kernel) ?_
  refine s_isub dX13_outName_76 ?_
  exact s_icmp_ne dX13_outName_77 (by decide) (wX13_outName_86 hZ j hj) (wX13_outName_80 hZ j hj)
noncomputable def vX13_outName_45 (j : Nat → rx_K) : rx_K := o_ld rx_isR 0 (o_ld rx_isL 3 (o_const 48 (o_ld rx_isI 6 (o_bi (fun x y => x * y) (o_bs (fun x y => (x.toUInt64 >>> (y.toInt64.toUInt64 &&& Int64.toUInt64 63)).toInt64) (o_const 505 (o_bl (fun x y => x &&& y) (o_li (fun x => x.toInt32) (o_callS 1 FX13_letter (o_callV 1 13 FX13_outByte (o_ld rx_isL 1 (o_callS 1 FX13_isC (o_c1 rx_eq (vX13_outName_86 j) (vX13_outName_71 j))))))))))))))
set_option maxRecDepth 20000 in
theorem wX13_outName_45 (hZ : zO b e D A X) (j : Nat → rx_K) (hj : ∀ k pc, [9, 40][k]? = some pc → rx_OK (zV b e D A X) mX13_outName 1 pc (j k)) : rx_OK (zV b e D A X) mX13_outName 1 45 (vX13_outName_45 j) := by
  unfold vX13_outName_45
  refine s_aload_n hZ.1 dX13_outName_45 rfl ?_
  refine s_lload_n hZ.1 dX13_outName_46 rfl ?_
  refine s_bipush dX13_outName_47 (by decide +kernel) ?_
  refine s_iload hZ.1 dX13_outName_49 ?_
  refine s_imul dX13_outName_51 ?_
  refine s_lushr dX13_outName_52 ?_
  refine s_ldc2 dX13_outName_53 zw3183 (by decide +kernel) ?_
  refine s_land dX13_outName_56 ?_
  refine s_l2i dX13_outName_57 ?_
  refine s_callS hZ.1 (Met_X13_letter hZ) (Nat.le_of_ble_eq_true rfl) vy_X13_letter zw3659 (Or.inl zw3658) dX13_outName_58 ?_
  refine s_callV hZ.1 (Met_X13_outByte hZ) (Nat.le_of_ble_eq_true rfl) vy_X13_outByte zcl13 zw3648 zw327 (Or.inl zw3646) dX13_outName_61 ?_
  refine s_lload_n hZ.1 dX13_outName_64 rfl ?_
  refine s_callS hZ.1 (Met_X13_isC hZ) (Nat.le_of_ble_eq_true rfl) vy_X13_isC zw3239 (Or.inl zw3238) dX13_outName_65 ?_
  exact s_if_eq dX13_outName_68 (by decide) (wX13_outName_86 hZ j hj) (wX13_outName_71 hZ j hj)
noncomputable def vX13_outName_40 (j : Nat → rx_K) : rx_K := o_ld rx_isI 6 (o_c1 rx_lt (vX13_outName_92 j) (vX13_outName_45 j))
set_option maxRecDepth 20000 in
theorem wX13_outName_40 (hZ : zO b e D A X) (j : Nat → rx_K) (hj : ∀ k pc, [9, 40][k]? = some pc → rx_OK (zV b e D A X) mX13_outName 1 pc (j k)) : rx_OK (zV b e D A X) mX13_outName 1 40 (vX13_outName_40 j) := by
  unfold vX13_outName_40
  refine s_iload hZ.1 dX13_outName_40 ?_
  exact s_if_lt dX13_outName_42 (by decide) (wX13_outName_92 hZ j hj) (wX13_outName_45 hZ j hj)
noncomputable def vX13_outName_34 (j : Nat → rx_K) : rx_K := o_ld rx_isI 5 (o_const 8 (o_bi (fun x y => x - y) (o_st rx_isI 6 ((vX13_outName_40 j)))))
set_option maxRecDepth 20000 in
theorem wX13_outName_34 (hZ : zO b e D A X) (j : Nat → rx_K) (hj : ∀ k pc, [9, 40][k]? = some pc → rx_OK (zV b e D A X) mX13_outName 1 pc (j k)) : rx_OK (zV b e D A X) mX13_outName 1 34 (vX13_outName_34 j) := by
  unfold vX13_outName_34
  refine s_iload hZ.1 dX13_outName_34 ?_
  refine s_iconst dX13_outName_36 (by decide +kernel) ?_
  refine s_isub dX13_outName_37 ?_
  refine s_istore hZ.1 dX13_outName_38 (Nat.le_of_ble_eq_true rfl) ?_
  exact (wX13_outName_40 hZ j hj)
noncomputable def vX13_outName_28 (j : Nat → rx_K) : rx_K := o_inc 5 (1) ((j 0))
set_option maxRecDepth 20000 in
theorem wX13_outName_28 (hZ : zO b e D A X) (j : Nat → rx_K) (hj : ∀ k pc, [9, 40][k]? = some pc → rx_OK (zV b e D A X) mX13_outName 1 pc (j k)) : rx_OK (zV b e D A X) mX13_outName 1 28 (vX13_outName_28 j) := by
  unfold vX13_outName_28
  refine s_iinc hZ.1 dX13_outName_28 (Nat.le_of_ble_eq_true rfl) ?_
  exact s_goto dX13_outName_31 (by decide) (hj 0 9 rfl)
noncomputable def vX13_outName_16 (j : Nat → rx_K) : rx_K := o_ld rx_isL 3 (o_const 48 (o_ld rx_isI 5 (o_bi (fun x y => x * y) (o_bs (fun x y => (x.toUInt64 >>> (y.toInt64.toUInt64 &&& Int64.toUInt64 63)).toInt64) (o_const 1 (o_bc (fun x y => lg_cmp x y) (o_c1 rx_eq (vX13_outName_34 j) (vX13_outName_28 j))))))))
set_option maxRecDepth 20000 in
theorem wX13_outName_16 (hZ : zO b e D A X) (j : Nat → rx_K) (hj : ∀ k pc, [9, 40][k]? = some pc → rx_OK (zV b e D A X) mX13_outName 1 pc (j k)) : rx_OK (zV b e D A X) mX13_outName 1 16 (vX13_outName_16 j) := by
  unfold vX13_outName_16
  refine s_lload_n hZ.1 dX13_outName_16 rfl ?_
  refine s_bipush dX13_outName_17 (by decide +kernel) ?_
  refine s_iload hZ.1 dX13_outName_19 ?_
  refine s_imul dX13_outName_21 ?_
  refine s_lushr dX13_outName_22 ?_
  refine s_lconst dX13_outName_23 (by decide +kernel) ?_
  refine s_lcmp dX13_outName_24 ?_
  exact s_if_eq dX13_outName_25 (by decide) (wX13_outName_34 hZ j hj) (wX13_outName_28 hZ j hj)
noncomputable def vX13_outName_9 (j : Nat → rx_K) : rx_K := o_ld rx_isI 5 (o_const 80 (o_c2 rx_lt (vX13_outName_16 j) (vX13_outName_34 j)))
set_option maxRecDepth 20000 in
theorem wX13_outName_9 (hZ : zO b e D A X) (j : Nat → rx_K) (hj : ∀ k pc, [9, 40][k]? = some pc → rx_OK (zV b e D A X) mX13_outName 1 pc (j k)) : rx_OK (zV b e D A X) mX13_outName 1 9 (vX13_outName_9 j) := by
  unfold vX13_outName_9
  refine s_iload hZ.1 dX13_outName_9 ?_
  refine s_bipush dX13_outName_11 (by decide +kernel) ?_
  exact s_icmp_ge dX13_outName_13 (by decide) (wX13_outName_34 hZ j hj) (wX13_outName_16 hZ j hj)
noncomputable def vX13_outName_0 (j : Nat → rx_K) : rx_K := o_ld rx_isL 1 (o_const 129127208515966861305 (o_bl (fun x y => x &&& y) (o_stL 3 (o_const 0 (o_st rx_isI 5 ((vX13_outName_9 j)))))))
set_option maxRecDepth 20000 in
theorem wX13_outName_0 (hZ : zO b e D A X) (j : Nat → rx_K) (hj : ∀ k pc, [9, 40][k]? = some pc → rx_OK (zV b e D A X) mX13_outName 1 pc (j k)) : rx_OK (zV b e D A X) mX13_outName 1 0 (vX13_outName_0 j) := by
  unfold vX13_outName_0
  refine s_lload_n hZ.1 dX13_outName_0 rfl ?_
  refine s_ldc2 dX13_outName_1 zw3182 (by decide +kernel) ?_
  refine s_land dX13_outName_4 ?_
  refine s_lstore_n hZ.1 dX13_outName_5 rfl (Nat.le_of_ble_eq_true rfl) ?_
  refine s_iconst dX13_outName_6 (by decide +kernel) ?_
  refine s_istore hZ.1 dX13_outName_7 (Nat.le_of_ble_eq_true rfl) ?_
  exact (wX13_outName_9 hZ j hj)
noncomputable def vhX13_outName (j : Nat → rx_K) : List rx_K := [vX13_outName_9 j, vX13_outName_40 j]
theorem vlX13_outName (hZ : zO b e D A X) : ∀ n k pc, [9, 40][k]? = some pc → rx_OK (zV b e D A X) mX13_outName 1 pc (rx_J (vhX13_outName) n k) := rx_loop fun j hj k pc h => by
  match k, h with
  | 0, h =>
    have e9 := Option.some.inj (show some 9 = some pc from h)
    subst e9
    exact wX13_outName_9 hZ j hj
  | 1, h =>
    have e9 := Option.some.inj (show some 40 = some pc from h)
    subst e9
    exact wX13_outName_40 hZ j hj
  | _ + 2, h => exact absurd h (by simp)
noncomputable def FX13_outName : List Nat → rx_H → Option (Nat × rx_H) := rx_ent 7 (vX13_outName_0 (rx_J (vhX13_outName) 4000000000))
theorem Met_X13_outName (hZ : zO b e D A X) : rx_Met (zV b e D A X) 1 yX13_outName mX13_outName (FX13_outName) := rx_entry hZ.1 (wX13_outName_0 hZ _ (vlX13_outName hZ 4000000000)) (by decide +kernel) rfl (fun h => by cases h)
abbrev mX13_outInt : rx_M := (RX13, cX13_outInt, 7, none, false)
theorem vy_X13_outInt : rx_Y (zV b e D A X) yX13_outInt mX13_outInt 1 := ⟨zw3688, zw431, by decide, by decide +kernel, by decide +kernel, by decide +kernel⟩
noncomputable def vX13_outInt_76 (j : Nat → rx_K) : rx_K := o_ret0
set_option maxRecDepth 20000 in
theorem wX13_outInt_76 (hZ : zO b e D A X) (j : Nat → rx_K) (hj : ∀ k pc, [20, 42][k]? = some pc → rx_OK (zV b e D A X) mX13_outInt 1 pc (j k)) : rx_OK (zV b e D A X) mX13_outInt 1 76 (vX13_outInt_76 j) := by
  unfold vX13_outInt_76
  exact s_vret rfl dX13_outInt_76
noncomputable def vX13_outInt_49 (j : Nat → rx_K) : rx_K := o_ld rx_isR 0 (o_const 384 (o_ld rx_isL 3 (o_ld rx_isL 5 (o_bln (fun x y => x / y) (o_const 81 (o_bln (fun x y => x - x / y * y) (o_li (fun x => x.toInt32) (o_bi (fun x y => x + y) (o_callV 1 13 FX13_outByte (o_ld rx_isL 5 (o_const 81 (o_bln (fun x y => x / y) (o_stL 5 ((j 1)))))))))))))))
set_option maxRecDepth 20000 in
theorem wX13_outInt_49 (hZ : zO b e D A X) (j : Nat → rx_K) (hj : ∀ k pc, [20, 42][k]? = some pc → rx_OK (zV b e D A X) mX13_outInt 1 pc (j k)) : rx_OK (zV b e D A X) mX13_outInt 1 49 (vX13_outInt_49 j) := by
  unfold vX13_outInt_49
  refine s_aload_n hZ.1 dX13_outInt_49 rfl ?_
  refine s_bipush dX13_outInt_50 (by decide +kernel) ?_
  refine s_lload_n hZ.1 dX13_outInt_52 rfl ?_
  refine s_lload hZ.1 dX13_outInt_53 ?_
  refine s_ldiv dX13_outInt_55 ?_
  refine s_ldc2 dX13_outInt_56 zw3689 (by decide +kernel) ?_
  refine s_lrem dX13_outInt_59 ?_
  refine s_l2i dX13_outInt_60 ?_
  refine s_iadd dX13_outInt_61 ?_
  refine s_callV hZ.1 (Met_X13_outByte hZ) (Nat.le_of_ble_eq_true rfl) vy_X13_outByte zcl13 zw3648 zw327 (Or.inl zw3646) dX13_outInt_62 ?_
  refine s_lload hZ.1 dX13_outInt_65 ?_
  refine s_ldc2 dX13_outInt_67 zw3689 (by decide +kernel) ?_
  refine s_ldiv dX13_outInt_70 ?_
  refine s_lstore hZ.1 dX13_outInt_71 (Nat.le_of_ble_eq_true rfl) ?_
  exact s_goto dX13_outInt_73 (by decide) (hj 1 42 rfl)
noncomputable def vX13_outInt_42 (j : Nat → rx_K) : rx_K := o_ld rx_isL 5 (o_const 1 (o_bc (fun x y => lg_cmp x y) (o_c1 (fun h x y => rx_lt h y x) (vX13_outInt_49 j) (vX13_outInt_76 j))))
set_option maxRecDepth 20000 in
theorem wX13_outInt_42 (hZ : zO b e D A X) (j : Nat → rx_K) (hj : ∀ k pc, [20, 42][k]? = some pc → rx_OK (zV b e D A X) mX13_outInt 1 pc (j k)) : rx_OK (zV b e D A X) mX13_outInt 1 42 (vX13_outInt_42 j) := by
  unfold vX13_outInt_42
  refine s_lload hZ.1 dX13_outInt_42 ?_
  refine s_lconst dX13_outInt_44 (by decide +kernel) ?_
  refine s_lcmp dX13_outInt_45 ?_
  exact s_if_le dX13_outInt_46 (by decide) (wX13_outInt_76 hZ j hj) (wX13_outInt_49 hZ j hj)
noncomputable def vX13_outInt_31 (j : Nat → rx_K) : rx_K := o_ld rx_isL 5 (o_const 81 (o_bl (fun x y => x * y) (o_stL 5 ((j 0)))))
set_option maxRecDepth 20000 in
theorem wX13_outInt_31 (hZ : zO b e D A X) (j : Nat → rx_K) (hj : ∀ k pc, [20, 42][k]? = some pc → rx_OK (zV b e D A X) mX13_outInt 1 pc (j k)) : rx_OK (zV b e D A X) mX13_outInt 1 31 (vX13_outInt_31 j) := by
  unfold vX13_outInt_31
  refine s_lload hZ.1 dX13_outInt_31 ?_
  refine s_ldc2 dX13_outInt_33 zw3689 (by decide +kernel) ?_
  refine s_lmul dX13_outInt_36 ?_
  refine s_lstore hZ.1 dX13_outInt_37 (Nat.le_of_ble_eq_true rfl) ?_
  exact s_goto dX13_outInt_39 (by decide) (hj 0 20 rfl)
noncomputable def vX13_outInt_20 (j : Nat → rx_K) : rx_K := o_ld rx_isL 3 (o_ld rx_isL 5 (o_bln (fun x y => x / y) (o_const 81 (o_bc (fun x y => lg_cmp x y) (o_c1 rx_lt (vX13_outInt_42 j) (vX13_outInt_31 j))))))
set_option maxRecDepth 20000 in
theorem wX13_outInt_20 (hZ : zO b e D A X) (j : Nat → rx_K) (hj : ∀ k pc, [20, 42][k]? = some pc → rx_OK (zV b e D A X) mX13_outInt 1 pc (j k)) : rx_OK (zV b e D A X) mX13_outInt 1 20 (vX13_outInt_20 j) := by
  unfold vX13_outInt_20
  refine s_lload_n hZ.1 dX13_outInt_20 rfl ?_
  refine s_lload hZ.1 dX13_outInt_21 ?_
  refine s_ldiv dX13_outInt_23 ?_
  refine s_ldc2 dX13_outInt_24 zw3689 (by decide +kernel) ?_
  refine s_lcmp dX13_outInt_27 ?_
  exact s_if_lt dX13_outInt_28 (by decide) (wX13_outInt_42 hZ j hj) (wX13_outInt_31 hZ j hj)
noncomputable def vX13_outInt_17 (j : Nat → rx_K) : rx_K := o_const 9 (o_stL 5 ((vX13_outInt_20 j)))
set_option maxRecDepth 20000 in
theorem wX13_outInt_17 (hZ : zO b e D A X) (j : Nat → rx_K) (hj : ∀ k pc, [20, 42][k]? = some pc → rx_OK (zV b e D A X) mX13_outInt 1 pc (j k)) : rx_OK (zV b e D A X) mX13_outInt 1 17 (vX13_outInt_17 j) := by
  unfold vX13_outInt_17
  refine s_lconst dX13_outInt_17 (by decide +kernel) ?_
  refine s_lstore hZ.1 dX13_outInt_18 (Nat.le_of_ble_eq_true rfl) ?_
  exact (wX13_outInt_20 hZ j hj)
noncomputable def vX13_outInt_8 (j : Nat → rx_K) : rx_K := o_ld rx_isR 0 (o_const 360 (o_callV 1 13 FX13_outByte (o_ld rx_isL 3 (o_ul (fun x => -x) (o_stL 3 ((vX13_outInt_17 j)))))))
set_option maxRecDepth 20000 in
theorem wX13_outInt_8 (hZ : zO b e D A X) (j : Nat → rx_K) (hj : ∀ k pc, [20, 42][k]? = some pc → rx_OK (zV b e D A X) mX13_outInt 1 pc (j k)) : rx_OK (zV b e D A X) mX13_outInt 1 8 (vX13_outInt_8 j) := by
  unfold vX13_outInt_8
  refine s_aload_n hZ.1 dX13_outInt_8 rfl ?_
  refine s_bipush dX13_outInt_9 (by decide +kernel) ?_
  refine s_callV hZ.1 (Met_X13_outByte hZ) (Nat.le_of_ble_eq_true rfl) vy_X13_outByte zcl13 zw3648 zw327 (Or.inl zw3646) dX13_outInt_11 ?_
  refine s_lload_n hZ.1 dX13_outInt_14 rfl ?_
  refine s_lneg dX13_outInt_15 ?_
  refine s_lstore_n hZ.1 dX13_outInt_16 rfl (Nat.le_of_ble_eq_true rfl) ?_
  exact (wX13_outInt_17 hZ j hj)
noncomputable def vX13_outInt_0 (j : Nat → rx_K) : rx_K := o_ld rx_isL 1 (o_stL 3 (o_ld rx_isL 3 (o_const 1 (o_bc (fun x y => lg_cmp x y) (o_c1 rx_lt (vX13_outInt_8 j) (vX13_outInt_17 j))))))
set_option maxRecDepth 20000 in
theorem wX13_outInt_0 (hZ : zO b e D A X) (j : Nat → rx_K) (hj : ∀ k pc, [20, 42][k]? = some pc → rx_OK (zV b e D A X) mX13_outInt 1 pc (j k)) : rx_OK (zV b e D A X) mX13_outInt 1 0 (vX13_outInt_0 j) := by
  unfold vX13_outInt_0
  refine s_lload_n hZ.1 dX13_outInt_0 rfl ?_
  refine s_lstore_n hZ.1 dX13_outInt_1 rfl (Nat.le_of_ble_eq_true rfl) ?_
  refine s_lload_n hZ.1 dX13_outInt_2 rfl ?_
  refine s_lconst dX13_outInt_3 (by decide +kernel) ?_
  refine s_lcmp dX13_outInt_4 ?_
  exact s_if_ge dX13_outInt_5 (by decide) (wX13_outInt_17 hZ j hj) (wX13_outInt_8 hZ j hj)
noncomputable def vhX13_outInt (j : Nat → rx_K) : List rx_K := [vX13_outInt_20 j, vX13_outInt_42 j]
theorem vlX13_outInt (hZ : zO b e D A X) : ∀ n k pc, [20, 42][k]? = some pc → rx_OK (zV b e D A X) mX13_outInt 1 pc (rx_J (vhX13_outInt) n k) := rx_loop fun j hj k pc h => by
  match k, h with
  | 0, h =>
    have e9 := Option.some.inj (show some 20 = some pc from h)
    subst e9
    exact wX13_outInt_20 hZ j hj
  | 1, h =>
    have e9 := Option.some.inj (show some 42 = some pc from h)
    subst e9
    exact wX13_outInt_42 hZ j hj
  | _ + 2, h => exact absurd h (by simp)
noncomputable def FX13_outInt : List Nat → rx_H → Option (Nat × rx_H) := rx_ent 7 (vX13_outInt_0 (rx_J (vhX13_outInt) 4000000000))
theorem Met_X13_outInt (hZ : zO b e D A X) : rx_Met (zV b e D A X) 1 yX13_outInt mX13_outInt (FX13_outInt) := rx_entry hZ.1 (wX13_outInt_0 hZ _ (vlX13_outInt hZ 4000000000)) (by decide +kernel) rfl (fun h => by cases h)
abbrev mX13_outType : rx_M := (RX13, cX13_outType, 3, none, false)
theorem vy_X13_outType : rx_Y (zV b e D A X) yX13_outType mX13_outType 1 := ⟨zw3680, zw431, by decide, by decide +kernel, by decide +kernel, by decide +kernel⟩
noncomputable def vX13_outType_37 : rx_K := o_ret0
set_option maxRecDepth 20000 in
theorem wX13_outType_37 (hZ : zO b e D A X) : rx_OK (zV b e D A X) mX13_outType 5 37 vX13_outType_37 := by
  unfold vX13_outType_37
  exact s_vret rfl dX13_outType_37
noncomputable def vX13_outType_32 : rx_K := o_ld rx_isR 0 (o_ld rx_isL 1 (o_callV 1 13 FX13_outName (vX13_outType_37)))
set_option maxRecDepth 20000 in
theorem wX13_outType_32 (hZ : zO b e D A X) : rx_OK (zV b e D A X) mX13_outType 5 32 vX13_outType_32 := by
  unfold vX13_outType_32
  refine s_aload_n hZ.1 dX13_outType_32 rfl ?_
  refine s_lload_n hZ.1 dX13_outType_33 rfl ?_
  refine s_callV hZ.1 (Met_X13_outName hZ) (Nat.le_of_ble_eq_true rfl) vy_X13_outName zcl13 zw3656 zw328 (Or.inl zw3654) dX13_outType_34 ?_
  exact (wX13_outType_37 hZ)
noncomputable def vX13_outType_23 : rx_K := o_ld rx_isR 0 (o_const 500 (o_callV 1 13 FX13_outWord (vX13_outType_37)))
set_option maxRecDepth 20000 in
theorem wX13_outType_23 (hZ : zO b e D A X) : rx_OK (zV b e D A X) mX13_outType 5 23 vX13_outType_23 := by
  unfold vX13_outType_23
  refine s_aload_n hZ.1 dX13_outType_23 rfl ?_
  refine s_ldcS (k := 62) (zo_R62 hZ) dX13_outType_24 ?_
  refine s_callV hZ.1 (Met_X13_outWord hZ) (Nat.le_of_ble_eq_true rfl) vy_X13_outWord zcl13 zw3644 zw326 (Or.inl zw3642) dX13_outType_26 ?_
  exact s_goto dX13_outType_29 (by decide) (wX13_outType_37 hZ)
noncomputable def vX13_outType_17 : rx_K := o_ld rx_isL 1 (o_const 9 (o_bc (fun x y => lg_cmp x y) (o_c1 rx_eq vX13_outType_23 vX13_outType_32)))
set_option maxRecDepth 20000 in
theorem wX13_outType_17 (hZ : zO b e D A X) : rx_OK (zV b e D A X) mX13_outType 5 17 vX13_outType_17 := by
  unfold vX13_outType_17
  refine s_lload_n hZ.1 dX13_outType_17 rfl ?_
  refine s_lconst dX13_outType_18 (by decide +kernel) ?_
  refine s_lcmp dX13_outType_19 ?_
  exact s_if_ne dX13_outType_20 (by decide) (wX13_outType_32 hZ) (wX13_outType_23 hZ)
noncomputable def vX13_outType_8 : rx_K := o_ld rx_isR 0 (o_const 484 (o_callV 1 13 FX13_outWord (vX13_outType_37)))
set_option maxRecDepth 20000 in
theorem wX13_outType_8 (hZ : zO b e D A X) : rx_OK (zV b e D A X) mX13_outType 5 8 vX13_outType_8 := by
  unfold vX13_outType_8
  refine s_aload_n hZ.1 dX13_outType_8 rfl ?_
  refine s_ldcS (k := 60) (zo_R60 hZ) dX13_outType_9 ?_
  refine s_callV hZ.1 (Met_X13_outWord hZ) (Nat.le_of_ble_eq_true rfl) vy_X13_outWord zcl13 zw3644 zw326 (Or.inl zw3642) dX13_outType_11 ?_
  exact s_goto dX13_outType_14 (by decide) (wX13_outType_37 hZ)
noncomputable def vX13_outType_0 : rx_K := o_ld rx_isL 1 (o_const 17 (o_bc (fun x y => lg_cmp x y) (o_c1 rx_eq vX13_outType_8 vX13_outType_17)))
set_option maxRecDepth 20000 in
theorem wX13_outType_0 (hZ : zO b e D A X) : rx_OK (zV b e D A X) mX13_outType 5 0 vX13_outType_0 := by
  unfold vX13_outType_0
  refine s_lload_n hZ.1 dX13_outType_0 rfl ?_
  refine s_ldc2 dX13_outType_1 zw3066 (by decide +kernel) ?_
  refine s_lcmp dX13_outType_4 ?_
  exact s_if_ne dX13_outType_5 (by decide) (wX13_outType_17 hZ) (wX13_outType_8 hZ)
noncomputable def FX13_outType : List Nat → rx_H → Option (Nat × rx_H) := rx_ent 3 vX13_outType_0
theorem Met_X13_outType (hZ : zO b e D A X) : rx_Met (zV b e D A X) 5 yX13_outType mX13_outType (FX13_outType) := rx_entry hZ.1 (wX13_outType_0 hZ) (by decide +kernel) rfl (fun h => by cases h)
abbrev mX13_four : rx_M := (RX13, cX13_four, 3, none, false)
theorem vy_X13_four : rx_Y (zV b e D A X) yX13_four mX13_four 1 := ⟨zw2909, zw431, by decide, by decide +kernel, by decide +kernel, by decide +kernel⟩
noncomputable def vX13_four_39 (j : Nat → rx_K) : rx_K := o_ret0
set_option maxRecDepth 20000 in
theorem wX13_four_39 (hZ : zO b e D A X) (j : Nat → rx_K) (hj : ∀ k pc, [3][k]? = some pc → rx_OK (zV b e D A X) mX13_four 0 pc (j k)) : rx_OK (zV b e D A X) mX13_four 0 39 (vX13_four_39 j) := by
  unfold vX13_four_39
  exact s_vret rfl dX13_four_39
noncomputable def vX13_four_7 (j : Nat → rx_K) : rx_K := o_ld rx_isR 0 (o_getf 13 0 (o_ld rx_isR 0 (o_getf 13 1 (o_ld rx_isI 1 (o_ld rx_isI 2 (o_bi (fun x y => (x.toUInt32 >>> (y.toUInt32 &&& Int32.toUInt32 31)).toInt32) (o_const 2040 (o_bi (fun x y => x &&& y) (o_ast 0 (fun v => v) rx_isI (o_ld rx_isR 0 (o_dup (o_getf 13 1 (o_const 8 (o_bi (fun x y => x + y) (o_putf rx_isI 13 1 (o_inc 2 (-8) ((j 0))))))))))))))))))
set_option maxRecDepth 20000 in
theorem wX13_four_7 (hZ : zO b e D A X) (j : Nat → rx_K) (hj : ∀ k pc, [3][k]? = some pc → rx_OK (zV b e D A X) mX13_four 0 pc (j k)) : rx_OK (zV b e D A X) mX13_four 0 7 (vX13_four_7 j) := by
  unfold vX13_four_7
  refine s_aload_n hZ.1 dX13_four_7 rfl ?_
  refine yg13_0 dX13_four_8 zw4121 ?_
  refine s_aload_n hZ.1 dX13_four_11 rfl ?_
  refine yg13_1 dX13_four_12 zw4122 ?_
  refine s_iload_n hZ.1 dX13_four_15 rfl ?_
  refine s_iload_n hZ.1 dX13_four_16 rfl ?_
  refine s_iushr dX13_four_17 ?_
  refine s_sipush dX13_four_18 (by decide +kernel) ?_
  refine s_iand dX13_four_21 ?_
  refine s_iast hZ.1 (tt := 0) rfl dX13_four_22 ?_
  refine s_aload_n hZ.1 dX13_four_23 rfl ?_
  refine s_dup hZ.1 dX13_four_24 ?_
  refine yg13_1 dX13_four_25 zw4122 ?_
  refine s_iconst dX13_four_28 (by decide +kernel) ?_
  refine s_iadd dX13_four_29 ?_
  refine yp13_1 hZ.1 dX13_four_30 zw4122 ?_
  refine s_iinc hZ.1 dX13_four_33 (Nat.le_of_ble_eq_true rfl) ?_
  exact s_goto dX13_four_36 (by decide) (hj 0 3 rfl)
noncomputable def vX13_four_3 (j : Nat → rx_K) : rx_K := o_ld rx_isI 2 (o_c1 rx_lt (vX13_four_39 j) (vX13_four_7 j))
set_option maxRecDepth 20000 in
theorem wX13_four_3 (hZ : zO b e D A X) (j : Nat → rx_K) (hj : ∀ k pc, [3][k]? = some pc → rx_OK (zV b e D A X) mX13_four 0 pc (j k)) : rx_OK (zV b e D A X) mX13_four 0 3 (vX13_four_3 j) := by
  unfold vX13_four_3
  refine s_iload_n hZ.1 dX13_four_3 rfl ?_
  exact s_if_lt dX13_four_4 (by decide) (wX13_four_39 hZ j hj) (wX13_four_7 hZ j hj)
noncomputable def vX13_four_0 (j : Nat → rx_K) : rx_K := o_const 192 (o_st rx_isI 2 ((vX13_four_3 j)))
set_option maxRecDepth 20000 in
theorem wX13_four_0 (hZ : zO b e D A X) (j : Nat → rx_K) (hj : ∀ k pc, [3][k]? = some pc → rx_OK (zV b e D A X) mX13_four 0 pc (j k)) : rx_OK (zV b e D A X) mX13_four 0 0 (vX13_four_0 j) := by
  unfold vX13_four_0
  refine s_bipush dX13_four_0 (by decide +kernel) ?_
  refine s_istore_n hZ.1 dX13_four_2 rfl (Nat.le_of_ble_eq_true rfl) ?_
  exact (wX13_four_3 hZ j hj)
noncomputable def vhX13_four (j : Nat → rx_K) : List rx_K := [vX13_four_3 j]
theorem vlX13_four (hZ : zO b e D A X) : ∀ n k pc, [3][k]? = some pc → rx_OK (zV b e D A X) mX13_four 0 pc (rx_J (vhX13_four) n k) := rx_loop fun j hj k pc h => by
  match k, h with
  | 0, h =>
    have e9 := Option.some.inj (show some 3 = some pc from h)
    subst e9
    exact wX13_four_3 hZ j hj
  | _ + 1, h => exact absurd h (by simp)
noncomputable def FX13_four : List Nat → rx_H → Option (Nat × rx_H) := rx_ent 3 (vX13_four_0 (rx_J (vhX13_four) 4000000000))
theorem Met_X13_four (hZ : zO b e D A X) : rx_Met (zV b e D A X) 0 yX13_four mX13_four (FX13_four) := rx_entry hZ.1 (wX13_four_0 hZ _ (vlX13_four hZ 4000000000)) (by decide +kernel) rfl (fun h => by cases h)
abbrev mX13_feed : rx_M := (RX13, cX13_feed, 6, (some .int), false)
theorem vy_X13_feed : rx_Y (zV b e D A X) yX13_feed mX13_feed 5 := ⟨zw2904, zw431, by decide, by decide +kernel, by decide +kernel, by decide +kernel⟩
noncomputable def vX13_feed_16 : rx_K := o_ld rx_isR 0 (o_ld rx_isI 1 (o_callV 1 13 FX13_four (o_ld rx_isR 0 (o_ld rx_isI 2 (o_callV 1 13 FX13_four (o_ld rx_isR 0 (o_ld rx_isI 3 (o_callV 1 13 FX13_four (o_ld rx_isR 0 (o_ld rx_isI 4 (o_callV 1 13 FX13_four (o_ld rx_isR 0 (o_ld rx_isI 5 (o_callV 1 13 FX13_four (o_ld rx_isR 0 (o_getf 13 1 (o_ret1 rx_isI)))))))))))))))))
set_option maxRecDepth 20000 in
theorem wX13_feed_16 (hZ : zO b e D A X) : rx_OK (zV b e D A X) mX13_feed 1 16 vX13_feed_16 := by
  unfold vX13_feed_16
  refine s_aload_n hZ.1 dX13_feed_16 rfl ?_
  refine s_iload_n hZ.1 dX13_feed_17 rfl ?_
  refine s_callV hZ.1 (Met_X13_four hZ) (Nat.le_of_ble_eq_true rfl) vy_X13_four zcl13 zw2907 zw175 (Or.inl zw2905) dX13_feed_18 ?_
  refine s_aload_n hZ.1 dX13_feed_21 rfl ?_
  refine s_iload_n hZ.1 dX13_feed_22 rfl ?_
  refine s_callV hZ.1 (Met_X13_four hZ) (Nat.le_of_ble_eq_true rfl) vy_X13_four zcl13 zw2907 zw175 (Or.inl zw2905) dX13_feed_23 ?_
  refine s_aload_n hZ.1 dX13_feed_26 rfl ?_
  refine s_iload_n hZ.1 dX13_feed_27 rfl ?_
  refine s_callV hZ.1 (Met_X13_four hZ) (Nat.le_of_ble_eq_true rfl) vy_X13_four zcl13 zw2907 zw175 (Or.inl zw2905) dX13_feed_28 ?_
  refine s_aload_n hZ.1 dX13_feed_31 rfl ?_
  refine s_iload hZ.1 dX13_feed_32 ?_
  refine s_callV hZ.1 (Met_X13_four hZ) (Nat.le_of_ble_eq_true rfl) vy_X13_four zcl13 zw2907 zw175 (Or.inl zw2905) dX13_feed_34 ?_
  refine s_aload_n hZ.1 dX13_feed_37 rfl ?_
  refine s_iload hZ.1 dX13_feed_38 ?_
  refine s_callV hZ.1 (Met_X13_four hZ) (Nat.le_of_ble_eq_true rfl) vy_X13_four zcl13 zw2907 zw175 (Or.inl zw2905) dX13_feed_40 ?_
  refine s_aload_n hZ.1 dX13_feed_43 rfl ?_
  refine yg13_1 dX13_feed_44 zw4122 ?_
  exact s_iret hZ.1 rfl dX13_feed_47
noncomputable def vX13_feed_13 : rx_K := o_const 34359738344 (o_ret1 rx_isI)
set_option maxRecDepth 20000 in
theorem wX13_feed_13 (hZ : zO b e D A X) : rx_OK (zV b e D A X) mX13_feed 1 13 vX13_feed_13 := by
  unfold vX13_feed_13
  refine s_bipush dX13_feed_13 (by decide +kernel) ?_
  exact s_iret hZ.1 rfl dX13_feed_15
noncomputable def vX13_feed_0 : rx_K := o_ld rx_isR 0 (o_getf 13 1 (o_const 160 (o_bi (fun x y => x + y) (o_const 32000 (o_c2 (fun h x y => rx_lt h y x) vX13_feed_13 vX13_feed_16)))))
set_option maxRecDepth 20000 in
theorem wX13_feed_0 (hZ : zO b e D A X) : rx_OK (zV b e D A X) mX13_feed 1 0 vX13_feed_0 := by
  unfold vX13_feed_0
  refine s_aload_n hZ.1 dX13_feed_0 rfl ?_
  refine yg13_1 dX13_feed_1 zw4122 ?_
  refine s_bipush dX13_feed_4 (by decide +kernel) ?_
  refine s_iadd dX13_feed_6 ?_
  refine s_sipush dX13_feed_7 (by decide +kernel) ?_
  exact s_icmp_le dX13_feed_10 (by decide) (wX13_feed_16 hZ) (wX13_feed_13 hZ)
noncomputable def FX13_feed : List Nat → rx_H → Option (Nat × rx_H) := rx_ent 6 vX13_feed_0
theorem Met_X13_feed (hZ : zO b e D A X) : rx_Met (zV b e D A X) 1 yX13_feed mX13_feed (FX13_feed) := rx_entry hZ.1 (wX13_feed_0 hZ) (by decide +kernel) rfl (fun h => by cases h)
abbrev mX13_cut : rx_M := (RX13, cX13_cut, 2, (some .int), false)
theorem vy_X13_cut : rx_Y (zV b e D A X) yX13_cut mX13_cut 1 := ⟨zw2913, zw431, by decide, by decide +kernel, by decide +kernel, by decide +kernel⟩
noncomputable def vX13_cut_14 : rx_K := o_ld rx_isR 0 (o_dup (o_getf 13 1 (o_ld rx_isI 1 (o_bi (fun x y => x - y) (o_putf rx_isI 13 1 (o_ld rx_isR 0 (o_getf 13 1 (o_ret1 rx_isI))))))))
set_option maxRecDepth 20000 in
theorem wX13_cut_14 (hZ : zO b e D A X) : rx_OK (zV b e D A X) mX13_cut 0 14 vX13_cut_14 := by
  unfold vX13_cut_14
  refine s_aload_n hZ.1 dX13_cut_14 rfl ?_
  refine s_dup hZ.1 dX13_cut_15 ?_
  refine yg13_1 dX13_cut_16 zw4122 ?_
  refine s_iload_n hZ.1 dX13_cut_19 rfl ?_
  refine s_isub dX13_cut_20 ?_
  refine yp13_1 hZ.1 dX13_cut_21 zw4122 ?_
  refine s_aload_n hZ.1 dX13_cut_24 rfl ?_
  refine yg13_1 dX13_cut_25 zw4122 ?_
  exact s_iret hZ.1 rfl dX13_cut_28
noncomputable def vX13_cut_12 : rx_K := o_const 34359738360 (o_ret1 rx_isI)
set_option maxRecDepth 20000 in
theorem wX13_cut_12 (hZ : zO b e D A X) : rx_OK (zV b e D A X) mX13_cut 0 12 vX13_cut_12 := by
  unfold vX13_cut_12
  refine s_iconst dX13_cut_12 (by decide +kernel) ?_
  exact s_iret hZ.1 rfl dX13_cut_13
noncomputable def vX13_cut_4 : rx_K := o_ld rx_isI 1 (o_ld rx_isR 0 (o_getf 13 1 (o_c2 (fun h x y => rx_lt h y x) vX13_cut_12 vX13_cut_14)))
set_option maxRecDepth 20000 in
theorem wX13_cut_4 (hZ : zO b e D A X) : rx_OK (zV b e D A X) mX13_cut 0 4 vX13_cut_4 := by
  unfold vX13_cut_4
  refine s_iload_n hZ.1 dX13_cut_4 rfl ?_
  refine s_aload_n hZ.1 dX13_cut_5 rfl ?_
  refine yg13_1 dX13_cut_6 zw4122 ?_
  exact s_icmp_le dX13_cut_9 (by decide) (wX13_cut_14 hZ) (wX13_cut_12 hZ)
noncomputable def vX13_cut_0 : rx_K := o_ld rx_isI 1 (o_c1 rx_lt vX13_cut_12 vX13_cut_4)
set_option maxRecDepth 20000 in
theorem wX13_cut_0 (hZ : zO b e D A X) : rx_OK (zV b e D A X) mX13_cut 0 0 vX13_cut_0 := by
  unfold vX13_cut_0
  refine s_iload_n hZ.1 dX13_cut_0 rfl ?_
  exact s_if_lt dX13_cut_1 (by decide) (wX13_cut_12 hZ) (wX13_cut_4 hZ)
noncomputable def FX13_cut : List Nat → rx_H → Option (Nat × rx_H) := rx_ent 2 vX13_cut_0
theorem Met_X13_cut (hZ : zO b e D A X) : rx_Met (zV b e D A X) 0 yX13_cut mX13_cut (FX13_cut) := rx_entry hZ.1 (wX13_cut_0 hZ) (by decide +kernel) rfl (fun h => by cases h)
end ZM35

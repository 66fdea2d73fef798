section ZM63
variable {b : Nat} {e : Nat → Value} {D : va_G} {A : Nat → ClassId} {X : State → Prop}
abbrev mX13_beginArgs : rx_M := (RX13, cX13_beginArgs, 3, none, false)
theorem vy_X13_beginArgs : rx_Y (zV b e D A X) yX13_beginArgs mX13_beginArgs 2 := ⟨zw3897, zw431, by decide, by decide +kernel, by decide +kernel, by decide +kernel⟩
noncomputable def vX13_beginArgs_0 : rx_K := o_ld rx_isR 0 (o_getf 13 159 (o_ld rx_isI 1 (o_ld rx_isR 0 (o_getf 13 155 (o_ast 0 (fun v => v) rx_isI (o_ld rx_isR 0 (o_getf 13 160 (o_ld rx_isI 1 (o_ld rx_isI 2 (o_ast 0 (fun v => v) rx_isI (o_ld rx_isR 0 (o_getf 13 157 (o_ld rx_isI 1 (o_const 16 (o_ast 0 (fun v => v) rx_isI (o_ret0))))))))))))))))
set_option maxRecDepth 20000 in
theorem wX13_beginArgs_0 (hZ : zO b e D A X) : rx_OK (zV b e D A X) mX13_beginArgs 0 0 vX13_beginArgs_0 := by
  unfold vX13_beginArgs_0
  refine s_aload_n hZ.1 dX13_beginArgs_0 rfl ?_
  refine yg13_159 dX13_beginArgs_1 zw4279 ?_
  refine s_iload_n hZ.1 dX13_beginArgs_4 rfl ?_
  refine s_aload_n hZ.1 dX13_beginArgs_5 rfl ?_
  refine yg13_155 dX13_beginArgs_6 zw4275 ?_
  refine s_iast hZ.1 (tt := 0) rfl dX13_beginArgs_9 ?_
  refine s_aload_n hZ.1 dX13_beginArgs_10 rfl ?_
  refine yg13_160 dX13_beginArgs_11 zw4280 ?_
  refine s_iload_n hZ.1 dX13_beginArgs_14 rfl ?_
  refine s_iload_n hZ.1 dX13_beginArgs_15 rfl ?_
  refine s_iast hZ.1 (tt := 0) rfl dX13_beginArgs_16 ?_
  refine s_aload_n hZ.1 dX13_beginArgs_17 rfl ?_
  refine yg13_157 dX13_beginArgs_18 zw4277 ?_
  refine s_iload_n hZ.1 dX13_beginArgs_21 rfl ?_
  refine s_iconst dX13_beginArgs_22 (by decide +kernel) ?_
  refine s_iast hZ.1 (tt := 0) rfl dX13_beginArgs_23 ?_
  exact s_vret rfl dX13_beginArgs_24
noncomputable def FX13_beginArgs : List Nat → rx_H → Option (Nat × rx_H) := rx_ent 3 vX13_beginArgs_0
theorem Met_X13_beginArgs (hZ : zO b e D A X) : rx_Met (zV b e D A X) 0 yX13_beginArgs mX13_beginArgs (FX13_beginArgs) := rx_entry hZ.1 (wX13_beginArgs_0 hZ) (by decide +kernel) rfl (fun h => by cases h)
abbrev mX13_cast : rx_M := (RX13, cX13_cast, 3, (some .int), false)
theorem vy_X13_cast : rx_Y (zV b e D A X) yX13_cast mX13_cast 2 := ⟨zw3893, zw431, by decide, by decide +kernel, by decide +kernel, by decide +kernel⟩
noncomputable def vX13_cast_47 : rx_K := o_ret1 rx_isI
set_option maxRecDepth 20000 in
theorem wX13_cast_47 (hZ : zO b e D A X) : rx_OK (zV b e D A X) mX13_cast 173 47 vX13_cast_47 := by
  unfold vX13_cast_47
  exact s_iret hZ.1 rfl dX13_cast_47
noncomputable def vX13_cast_41 : rx_K := o_ld rx_isR 0 (o_const 96 (o_callV 1 13 FX13_fail (vX13_cast_47)))
set_option maxRecDepth 20000 in
theorem wX13_cast_41 (hZ : zO b e D A X) : rx_OK (zV b e D A X) mX13_cast 173 41 vX13_cast_41 := by
  unfold vX13_cast_41
  refine s_aload_n hZ.1 dX13_cast_41 rfl ?_
  refine s_bipush dX13_cast_42 (by decide +kernel) ?_
  refine s_callV hZ.1 (Met_X13_fail hZ) (Nat.le_of_ble_eq_true rfl) vy_X13_fail zcl13 zw3820 zw352 (Or.inl zw3818) dX13_cast_44 ?_
  exact (wX13_cast_47 hZ)
noncomputable def vX13_cast_37 : rx_K := o_ld rx_isI 2 (vX13_cast_47)
set_option maxRecDepth 20000 in
theorem wX13_cast_37 (hZ : zO b e D A X) : rx_OK (zV b e D A X) mX13_cast 173 37 vX13_cast_37 := by
  unfold vX13_cast_37
  refine s_iload_n hZ.1 dX13_cast_37 rfl ?_
  exact s_goto dX13_cast_38 (by decide) (wX13_cast_47 hZ)
noncomputable def vX13_cast_19 : rx_K := o_ld rx_isR 0 (o_ld rx_isI 2 (o_ld rx_isR 0 (o_ld rx_isR 0 (o_getf 13 75 (o_ld rx_isI 1 (o_ald 1 (o_callV 1 13 FX13_find (o_callV 2 13 FX13_isMade (o_c1 rx_eq vX13_cast_41 vX13_cast_37)))))))))
set_option maxRecDepth 20000 in
theorem wX13_cast_19 (hZ : zO b e D A X) : rx_OK (zV b e D A X) mX13_cast 173 19 vX13_cast_19 := by
  unfold vX13_cast_19
  refine s_aload_n hZ.1 dX13_cast_19 rfl ?_
  refine s_iload_n hZ.1 dX13_cast_20 rfl ?_
  refine s_aload_n hZ.1 dX13_cast_21 rfl ?_
  refine s_aload_n hZ.1 dX13_cast_22 rfl ?_
  refine yg13_75 dX13_cast_23 zw4196 ?_
  refine s_iload_n hZ.1 dX13_cast_26 rfl ?_
  refine s_lald (tt := 1) rfl dX13_cast_27 ?_
  refine s_callV hZ.1 (Met_X13_find hZ) (Nat.le_of_ble_eq_true rfl) vy_X13_find zcl13 zw3186 zw226 (Or.inl zw3184) dX13_cast_28 ?_
  refine s_callV hZ.1 (Met_X13_isMade hZ) (Nat.le_of_ble_eq_true rfl) vy_X13_isMade zcl13 zw3888 zw369 (Or.inl zw3886) dX13_cast_31 ?_
  exact s_if_eq dX13_cast_34 (by decide) (wX13_cast_41 hZ) (wX13_cast_37 hZ)
noncomputable def vX13_cast_17 : rx_K := o_const 0 (o_ret1 rx_isI)
set_option maxRecDepth 20000 in
theorem wX13_cast_17 (hZ : zO b e D A X) : rx_OK (zV b e D A X) mX13_cast 173 17 vX13_cast_17 := by
  unfold vX13_cast_17
  refine s_iconst dX13_cast_17 (by decide +kernel) ?_
  exact s_iret hZ.1 rfl dX13_cast_18
noncomputable def vX13_cast_4 : rx_K := o_ld rx_isR 0 (o_ld rx_isR 0 (o_getf 13 87 (o_ld rx_isI 1 (o_ald 0 (o_callV 1 13 FX13_asks (o_c1 rx_eq vX13_cast_17 vX13_cast_19))))))
set_option maxRecDepth 20000 in
theorem wX13_cast_4 (hZ : zO b e D A X) : rx_OK (zV b e D A X) mX13_cast 173 4 vX13_cast_4 := by
  unfold vX13_cast_4
  refine s_aload_n hZ.1 dX13_cast_4 rfl ?_
  refine s_aload_n hZ.1 dX13_cast_5 rfl ?_
  refine yg13_87 dX13_cast_6 zw4208 ?_
  refine s_iload_n hZ.1 dX13_cast_9 rfl ?_
  refine s_iald (tt := 0) rfl dX13_cast_10 ?_
  refine s_callV hZ.1 (Met_X13_asks hZ) (Nat.le_of_ble_eq_true rfl) vy_X13_asks zcl13 zw3868 zw364 (Or.inl zw3866) dX13_cast_11 ?_
  exact s_if_ne dX13_cast_14 (by decide) (wX13_cast_19 hZ) (wX13_cast_17 hZ)
noncomputable def vX13_cast_0 : rx_K := o_ld rx_isI 2 (o_c1 rx_eq vX13_cast_17 vX13_cast_4)
set_option maxRecDepth 20000 in
theorem wX13_cast_0 (hZ : zO b e D A X) : rx_OK (zV b e D A X) mX13_cast 173 0 vX13_cast_0 := by
  unfold vX13_cast_0
  refine s_iload_n hZ.1 dX13_cast_0 rfl ?_
  exact s_if_eq dX13_cast_1 (by decide) (wX13_cast_17 hZ) (wX13_cast_4 hZ)
noncomputable def FX13_cast : List Nat → rx_H → Option (Nat × rx_H) := rx_ent 3 vX13_cast_0
theorem Met_X13_cast (hZ : zO b e D A X) : rx_Met (zV b e D A X) 173 yX13_cast mX13_cast (FX13_cast) := rx_entry hZ.1 (wX13_cast_0 hZ) (by decide +kernel) rfl (fun h => by cases h)
abbrev mX13_fieldsOf : rx_M := (RX13, cX13_fieldsOf, 5, (some .int), false)
theorem vy_X13_fieldsOf : rx_Y (zV b e D A X) yX13_fieldsOf mX13_fieldsOf 1 := ⟨zw3881, zw431, by decide, by decide +kernel, by decide +kernel, by decide +kernel⟩
noncomputable def vX13_fieldsOf_77 (j : Nat → rx_K) : rx_K := o_ld rx_isI 2 (o_ret1 rx_isI)
set_option maxRecDepth 20000 in
theorem wX13_fieldsOf_77 (hZ : zO b e D A X) (j : Nat → rx_K) (hj : ∀ k pc, [4, 13][k]? = some pc → rx_OK (zV b e D A X) mX13_fieldsOf 3 pc (j k)) : rx_OK (zV b e D A X) mX13_fieldsOf 3 77 (vX13_fieldsOf_77 j) := by
  unfold vX13_fieldsOf_77
  refine s_iload_n hZ.1 dX13_fieldsOf_77 rfl ?_
  exact s_iret hZ.1 rfl dX13_fieldsOf_78
noncomputable def vX13_fieldsOf_68 (j : Nat → rx_K) : rx_K := o_ld rx_isR 0 (o_ld rx_isI 3 (o_callV 1 13 FX13_parent (o_st rx_isI 3 ((j 0)))))
set_option maxRecDepth 20000 in
theorem wX13_fieldsOf_68 (hZ : zO b e D A X) (j : Nat → rx_K) (hj : ∀ k pc, [4, 13][k]? = some pc → rx_OK (zV b e D A X) mX13_fieldsOf 3 pc (j k)) : rx_OK (zV b e D A X) mX13_fieldsOf 3 68 (vX13_fieldsOf_68 j) := by
  unfold vX13_fieldsOf_68
  refine s_aload_n hZ.1 dX13_fieldsOf_68 rfl ?_
  refine s_iload_n hZ.1 dX13_fieldsOf_69 rfl ?_
  refine s_callV hZ.1 (Met_X13_parent hZ) (Nat.le_of_ble_eq_true rfl) vy_X13_parent zcl13 zw3220 zw233 (Or.inl zw3218) dX13_fieldsOf_70 ?_
  refine s_istore_n hZ.1 dX13_fieldsOf_73 rfl (Nat.le_of_ble_eq_true rfl) ?_
  exact s_goto dX13_fieldsOf_74 (by decide) (hj 0 4 rfl)
noncomputable def vX13_fieldsOf_60 (j : Nat → rx_K) : rx_K := o_bi (fun x y => x + y) (o_st rx_isI 2 (o_inc 4 (1) ((j 1))))
set_option maxRecDepth 20000 in
theorem wX13_fieldsOf_60 (hZ : zO b e D A X) (j : Nat → rx_K) (hj : ∀ k pc, [4, 13][k]? = some pc → rx_OK (zV b e D A X) mX13_fieldsOf 3 pc (j k)) : rx_OK (zV b e D A X) mX13_fieldsOf 3 60 (vX13_fieldsOf_60 j) := by
  unfold vX13_fieldsOf_60
  refine s_iadd dX13_fieldsOf_60 ?_
  refine s_istore_n hZ.1 dX13_fieldsOf_61 rfl (Nat.le_of_ble_eq_true rfl) ?_
  refine s_iinc hZ.1 dX13_fieldsOf_62 (Nat.le_of_ble_eq_true rfl) ?_
  exact s_goto dX13_fieldsOf_65 (by decide) (hj 1 13 rfl)
noncomputable def vX13_fieldsOf_59 (j : Nat → rx_K) : rx_K := o_const 0 ((vX13_fieldsOf_60 j))
set_option maxRecDepth 20000 in
theorem wX13_fieldsOf_59 (hZ : zO b e D A X) (j : Nat → rx_K) (hj : ∀ k pc, [4, 13][k]? = some pc → rx_OK (zV b e D A X) mX13_fieldsOf 3 pc (j k)) : rx_OK (zV b e D A X) mX13_fieldsOf 3 59 (vX13_fieldsOf_59 j) := by
  unfold vX13_fieldsOf_59
  refine s_iconst dX13_fieldsOf_59 (by decide +kernel) ?_
  exact (wX13_fieldsOf_60 hZ j hj)
noncomputable def vX13_fieldsOf_55 (j : Nat → rx_K) : rx_K := o_const 8 ((vX13_fieldsOf_60 j))
set_option maxRecDepth 20000 in
theorem wX13_fieldsOf_55 (hZ : zO b e D A X) (j : Nat → rx_K) (hj : ∀ k pc, [4, 13][k]? = some pc → rx_OK (zV b e D A X) mX13_fieldsOf 3 pc (j k)) : rx_OK (zV b e D A X) mX13_fieldsOf 3 55 (vX13_fieldsOf_55 j) := by
  unfold vX13_fieldsOf_55
  refine s_iconst dX13_fieldsOf_55 (by decide +kernel) ?_
  exact s_goto dX13_fieldsOf_56 (by decide) (wX13_fieldsOf_60 hZ j hj)
noncomputable def vX13_fieldsOf_40 (j : Nat → rx_K) : rx_K := o_ld rx_isR 0 (o_getf 13 45 (o_ld rx_isI 3 (o_const 272 (o_bi (fun x y => x * y) (o_ld rx_isI 4 (o_bi (fun x y => x + y) (o_ald 3 (o_c1 rx_eq (vX13_fieldsOf_55 j) (vX13_fieldsOf_59 j)))))))))
set_option maxRecDepth 20000 in
theorem wX13_fieldsOf_40 (hZ : zO b e D A X) (j : Nat → rx_K) (hj : ∀ k pc, [4, 13][k]? = some pc → rx_OK (zV b e D A X) mX13_fieldsOf 3 pc (j k)) : rx_OK (zV b e D A X) mX13_fieldsOf 3 40 (vX13_fieldsOf_40 j) := by
  unfold vX13_fieldsOf_40
  refine s_aload_n hZ.1 dX13_fieldsOf_40 rfl ?_
  refine yg13_45 dX13_fieldsOf_41 zw4166 ?_
  refine s_iload_n hZ.1 dX13_fieldsOf_44 rfl ?_
  refine s_bipush dX13_fieldsOf_45 (by decide +kernel) ?_
  refine s_imul dX13_fieldsOf_47 ?_
  refine s_iload hZ.1 dX13_fieldsOf_48 ?_
  refine s_iadd dX13_fieldsOf_50 ?_
  refine s_zald (tt := 3) rfl dX13_fieldsOf_51 ?_
  exact s_if_ne dX13_fieldsOf_52 (by decide) (wX13_fieldsOf_59 hZ j hj) (wX13_fieldsOf_55 hZ j hj)
noncomputable def vX13_fieldsOf_24 (j : Nat → rx_K) : rx_K := o_ld rx_isI 2 (o_ld rx_isR 0 (o_getf 13 42 (o_ld rx_isI 3 (o_const 272 (o_bi (fun x y => x * y) (o_ld rx_isI 4 (o_bi (fun x y => x + y) (o_ald 0 (o_c1 rx_eq (vX13_fieldsOf_40 j) (vX13_fieldsOf_59 j))))))))))
set_option maxRecDepth 20000 in
theorem wX13_fieldsOf_24 (hZ : zO b e D A X) (j : Nat → rx_K) (hj : ∀ k pc, [4, 13][k]? = some pc → rx_OK (zV b e D A X) mX13_fieldsOf 3 pc (j k)) : rx_OK (zV b e D A X) mX13_fieldsOf 3 24 (vX13_fieldsOf_24 j) := by
  unfold vX13_fieldsOf_24
  refine s_iload_n hZ.1 dX13_fieldsOf_24 rfl ?_
  refine s_aload_n hZ.1 dX13_fieldsOf_25 rfl ?_
  refine yg13_42 dX13_fieldsOf_26 zw4163 ?_
  refine s_iload_n hZ.1 dX13_fieldsOf_29 rfl ?_
  refine s_bipush dX13_fieldsOf_30 (by decide +kernel) ?_
  refine s_imul dX13_fieldsOf_32 ?_
  refine s_iload hZ.1 dX13_fieldsOf_33 ?_
  refine s_iadd dX13_fieldsOf_35 ?_
  refine s_iald (tt := 0) rfl dX13_fieldsOf_36 ?_
  exact s_if_ne dX13_fieldsOf_37 (by decide) (wX13_fieldsOf_59 hZ j hj) (wX13_fieldsOf_40 hZ j hj)
noncomputable def vX13_fieldsOf_13 (j : Nat → rx_K) : rx_K := o_ld rx_isI 4 (o_ld rx_isR 0 (o_getf 13 41 (o_ld rx_isI 3 (o_ald 0 (o_c2 rx_lt (vX13_fieldsOf_24 j) (vX13_fieldsOf_68 j))))))
set_option maxRecDepth 20000 in
theorem wX13_fieldsOf_13 (hZ : zO b e D A X) (j : Nat → rx_K) (hj : ∀ k pc, [4, 13][k]? = some pc → rx_OK (zV b e D A X) mX13_fieldsOf 3 pc (j k)) : rx_OK (zV b e D A X) mX13_fieldsOf 3 13 (vX13_fieldsOf_13 j) := by
  unfold vX13_fieldsOf_13
  refine s_iload hZ.1 dX13_fieldsOf_13 ?_
  refine s_aload_n hZ.1 dX13_fieldsOf_15 rfl ?_
  refine yg13_41 dX13_fieldsOf_16 zw4162 ?_
  refine s_iload_n hZ.1 dX13_fieldsOf_19 rfl ?_
  refine s_iald (tt := 0) rfl dX13_fieldsOf_20 ?_
  exact s_icmp_ge dX13_fieldsOf_21 (by decide) (wX13_fieldsOf_68 hZ j hj) (wX13_fieldsOf_24 hZ j hj)
noncomputable def vX13_fieldsOf_10 (j : Nat → rx_K) : rx_K := o_const 0 (o_st rx_isI 4 ((vX13_fieldsOf_13 j)))
set_option maxRecDepth 20000 in
theorem wX13_fieldsOf_10 (hZ : zO b e D A X) (j : Nat → rx_K) (hj : ∀ k pc, [4, 13][k]? = some pc → rx_OK (zV b e D A X) mX13_fieldsOf 3 pc (j k)) : rx_OK (zV b e D A X) mX13_fieldsOf 3 10 (vX13_fieldsOf_10 j) := by
  unfold vX13_fieldsOf_10
  refine s_iconst dX13_fieldsOf_10 (by decide +kernel) ?_
  refine s_istore hZ.1 dX13_fieldsOf_11 (Nat.le_of_ble_eq_true rfl) ?_
  exact (wX13_fieldsOf_13 hZ j hj)
noncomputable def vX13_fieldsOf_4 (j : Nat → rx_K) : rx_K := o_ld rx_isI 3 (o_const 34359738352 (o_c2 rx_eq (vX13_fieldsOf_77 j) (vX13_fieldsOf_10 j)))
set_option maxRecDepth 20000 in
theorem wX13_fieldsOf_4 (hZ : zO b e D A X) (j : Nat → rx_K) (hj : ∀ k pc, [4, 13][k]? = some pc → rx_OK (zV b e D A X) mX13_fieldsOf 3 pc (j k)) : rx_OK (zV b e D A X) mX13_fieldsOf 3 4 (vX13_fieldsOf_4 j) := by
  unfold vX13_fieldsOf_4
  refine s_iload_n hZ.1 dX13_fieldsOf_4 rfl ?_
  refine s_bipush dX13_fieldsOf_5 (by decide +kernel) ?_
  exact s_icmp_eq dX13_fieldsOf_7 (by decide) (wX13_fieldsOf_77 hZ j hj) (wX13_fieldsOf_10 hZ j hj)
noncomputable def vX13_fieldsOf_0 (j : Nat → rx_K) : rx_K := o_const 0 (o_st rx_isI 2 (o_ld rx_isI 1 (o_st rx_isI 3 ((vX13_fieldsOf_4 j)))))
set_option maxRecDepth 20000 in
theorem wX13_fieldsOf_0 (hZ : zO b e D A X) (j : Nat → rx_K) (hj : ∀ k pc, [4, 13][k]? = some pc → rx_OK (zV b e D A X) mX13_fieldsOf 3 pc (j k)) : rx_OK (zV b e D A X) mX13_fieldsOf 3 0 (vX13_fieldsOf_0 j) := by
  unfold vX13_fieldsOf_0
  refine s_iconst dX13_fieldsOf_0 (by decide +kernel) ?_
  refine s_istore_n hZ.1 dX13_fieldsOf_1 rfl (Nat.le_of_ble_eq_true rfl) ?_
  refine s_iload_n hZ.1 dX13_fieldsOf_2 rfl ?_
  refine s_istore_n hZ.1 dX13_fieldsOf_3 rfl (Nat.le_of_ble_eq_true rfl) ?_
  exact (wX13_fieldsOf_4 hZ j hj)
noncomputable def vhX13_fieldsOf (j : Nat → rx_K) : List rx_K := [vX13_fieldsOf_4 j, vX13_fieldsOf_13 j]
theorem vlX13_fieldsOf (hZ : zO b e D A X) : ∀ n k pc, [4, 13][k]? = some pc → rx_OK (zV b e D A X) mX13_fieldsOf 3 pc (rx_J (vhX13_fieldsOf) n k) := rx_loop fun j hj k pc h => by
  match k, h with
  | 0, h =>
    have e9 := Option.some.inj (show some 4 = some pc from h)
    subst e9
    exact wX13_fieldsOf_4 hZ j hj
  | 1, h =>
    have e9 := Option.some.inj (show some 13 = some pc from h)
    subst e9
    exact wX13_fieldsOf_13 hZ j hj
  | _ + 2, h => exact absurd h (by simp)
noncomputable def FX13_fieldsOf : List Nat → rx_H → Option (Nat × rx_H) := rx_ent 5 (vX13_fieldsOf_0 (rx_J (vhX13_fieldsOf) 4000000000))
theorem Met_X13_fieldsOf (hZ : zO b e D A X) : rx_Met (zV b e D A X) 3 yX13_fieldsOf mX13_fieldsOf (FX13_fieldsOf) := rx_entry hZ.1 (wX13_fieldsOf_0 hZ _ (vlX13_fieldsOf hZ 4000000000)) (by decide +kernel) rfl (fun h => by cases h)
abbrev mX13_cellOf : rx_M := (RX13, cX13_cellOf, 6, (some .int), false)
theorem vy_X13_cellOf : rx_Y (zV b e D A X) yX13_cellOf mX13_cellOf 2 := ⟨zw3877, zw431, by decide, by decide +kernel, by decide +kernel, by decide +kernel⟩
noncomputable def vX13_cellOf_118 (j : Nat → rx_K) : rx_K := o_ld rx_isR 0 (o_getf 13 150 (o_ld rx_isI 1 (o_ald 0 (o_ld rx_isI 4 (o_bi (fun x y => x + y) (o_ret1 rx_isI))))))
set_option maxRecDepth 20000 in
theorem wX13_cellOf_118 (hZ : zO b e D A X) (j : Nat → rx_K) (hj : ∀ k pc, [61][k]? = some pc → rx_OK (zV b e D A X) mX13_cellOf 4 pc (j k)) : rx_OK (zV b e D A X) mX13_cellOf 4 118 (vX13_cellOf_118 j) := by
  unfold vX13_cellOf_118
  refine s_aload_n hZ.1 dX13_cellOf_118 rfl ?_
  refine yg13_150 dX13_cellOf_119 zw4270 ?_
  refine s_iload_n hZ.1 dX13_cellOf_122 rfl ?_
  refine s_iald (tt := 0) rfl dX13_cellOf_123 ?_
  refine s_iload hZ.1 dX13_cellOf_124 ?_
  refine s_iadd dX13_cellOf_126 ?_
  exact s_iret hZ.1 rfl dX13_cellOf_127
noncomputable def vX13_cellOf_109 (j : Nat → rx_K) : rx_K := o_bi (fun x y => x + y) (o_st rx_isI 4 (o_inc 5 (1) ((j 0))))
set_option maxRecDepth 20000 in
theorem wX13_cellOf_109 (hZ : zO b e D A X) (j : Nat → rx_K) (hj : ∀ k pc, [61][k]? = some pc → rx_OK (zV b e D A X) mX13_cellOf 4 pc (j k)) : rx_OK (zV b e D A X) mX13_cellOf 4 109 (vX13_cellOf_109 j) := by
  unfold vX13_cellOf_109
  refine s_iadd dX13_cellOf_109 ?_
  refine s_istore hZ.1 dX13_cellOf_110 (Nat.le_of_ble_eq_true rfl) ?_
  refine s_iinc hZ.1 dX13_cellOf_112 (Nat.le_of_ble_eq_true rfl) ?_
  exact s_goto dX13_cellOf_115 (by decide) (hj 0 61 rfl)
noncomputable def vX13_cellOf_108 (j : Nat → rx_K) : rx_K := o_const 0 ((vX13_cellOf_109 j))
set_option maxRecDepth 20000 in
theorem wX13_cellOf_108 (hZ : zO b e D A X) (j : Nat → rx_K) (hj : ∀ k pc, [61][k]? = some pc → rx_OK (zV b e D A X) mX13_cellOf 4 pc (j k)) : rx_OK (zV b e D A X) mX13_cellOf 4 108 (vX13_cellOf_108 j) := by
  unfold vX13_cellOf_108
  refine s_iconst dX13_cellOf_108 (by decide +kernel) ?_
  exact (wX13_cellOf_109 hZ j hj)
noncomputable def vX13_cellOf_104 (j : Nat → rx_K) : rx_K := o_const 8 ((vX13_cellOf_109 j))
set_option maxRecDepth 20000 in
theorem wX13_cellOf_104 (hZ : zO b e D A X) (j : Nat → rx_K) (hj : ∀ k pc, [61][k]? = some pc → rx_OK (zV b e D A X) mX13_cellOf 4 pc (j k)) : rx_OK (zV b e D A X) mX13_cellOf 4 104 (vX13_cellOf_104 j) := by
  unfold vX13_cellOf_104
  refine s_iconst dX13_cellOf_104 (by decide +kernel) ?_
  exact s_goto dX13_cellOf_105 (by decide) (wX13_cellOf_109 hZ j hj)
noncomputable def vX13_cellOf_89 (j : Nat → rx_K) : rx_K := o_ld rx_isR 0 (o_getf 13 45 (o_ld rx_isI 3 (o_const 272 (o_bi (fun x y => x * y) (o_ld rx_isI 5 (o_bi (fun x y => x + y) (o_ald 3 (o_c1 rx_eq (vX13_cellOf_104 j) (vX13_cellOf_108 j)))))))))
set_option maxRecDepth 20000 in
theorem wX13_cellOf_89 (hZ : zO b e D A X) (j : Nat → rx_K) (hj : ∀ k pc, [61][k]? = some pc → rx_OK (zV b e D A X) mX13_cellOf 4 pc (j k)) : rx_OK (zV b e D A X) mX13_cellOf 4 89 (vX13_cellOf_89 j) := by
  unfold vX13_cellOf_89
  refine s_aload_n hZ.1 dX13_cellOf_89 rfl ?_
  refine yg13_45 dX13_cellOf_90 zw4166 ?_
  refine s_iload_n hZ.1 dX13_cellOf_93 rfl ?_
  refine s_bipush dX13_cellOf_94 (by decide +kernel) ?_
  refine s_imul dX13_cellOf_96 ?_
  refine s_iload hZ.1 dX13_cellOf_97 ?_
  refine s_iadd dX13_cellOf_99 ?_
  refine s_zald (tt := 3) rfl dX13_cellOf_100 ?_
  exact s_if_ne dX13_cellOf_101 (by decide) (wX13_cellOf_108 hZ j hj) (wX13_cellOf_104 hZ j hj)
noncomputable def vX13_cellOf_72 (j : Nat → rx_K) : rx_K := o_ld rx_isI 4 (o_ld rx_isR 0 (o_getf 13 42 (o_ld rx_isI 3 (o_const 272 (o_bi (fun x y => x * y) (o_ld rx_isI 5 (o_bi (fun x y => x + y) (o_ald 0 (o_c1 rx_eq (vX13_cellOf_89 j) (vX13_cellOf_108 j))))))))))
set_option maxRecDepth 20000 in
theorem wX13_cellOf_72 (hZ : zO b e D A X) (j : Nat → rx_K) (hj : ∀ k pc, [61][k]? = some pc → rx_OK (zV b e D A X) mX13_cellOf 4 pc (j k)) : rx_OK (zV b e D A X) mX13_cellOf 4 72 (vX13_cellOf_72 j) := by
  unfold vX13_cellOf_72
  refine s_iload hZ.1 dX13_cellOf_72 ?_
  refine s_aload_n hZ.1 dX13_cellOf_74 rfl ?_
  refine yg13_42 dX13_cellOf_75 zw4163 ?_
  refine s_iload_n hZ.1 dX13_cellOf_78 rfl ?_
  refine s_bipush dX13_cellOf_79 (by decide +kernel) ?_
  refine s_imul dX13_cellOf_81 ?_
  refine s_iload hZ.1 dX13_cellOf_82 ?_
  refine s_iadd dX13_cellOf_84 ?_
  refine s_iald (tt := 0) rfl dX13_cellOf_85 ?_
  exact s_if_ne dX13_cellOf_86 (by decide) (wX13_cellOf_108 hZ j hj) (wX13_cellOf_89 hZ j hj)
noncomputable def vX13_cellOf_61 (j : Nat → rx_K) : rx_K := o_ld rx_isI 3 (o_const 272 (o_bi (fun x y => x * y) (o_ld rx_isI 5 (o_bi (fun x y => x + y) (o_ld rx_isI 2 (o_c2 rx_lt (vX13_cellOf_72 j) (vX13_cellOf_118 j)))))))
set_option maxRecDepth 20000 in
theorem wX13_cellOf_61 (hZ : zO b e D A X) (j : Nat → rx_K) (hj : ∀ k pc, [61][k]? = some pc → rx_OK (zV b e D A X) mX13_cellOf 4 pc (j k)) : rx_OK (zV b e D A X) mX13_cellOf 4 61 (vX13_cellOf_61 j) := by
  unfold vX13_cellOf_61
  refine s_iload_n hZ.1 dX13_cellOf_61 rfl ?_
  refine s_bipush dX13_cellOf_62 (by decide +kernel) ?_
  refine s_imul dX13_cellOf_64 ?_
  refine s_iload hZ.1 dX13_cellOf_65 ?_
  refine s_iadd dX13_cellOf_67 ?_
  refine s_iload_n hZ.1 dX13_cellOf_68 rfl ?_
  exact s_icmp_ge dX13_cellOf_69 (by decide) (wX13_cellOf_118 hZ j hj) (wX13_cellOf_72 hZ j hj)
noncomputable def vX13_cellOf_56 (j : Nat → rx_K) : rx_K := o_st rx_isI 4 (o_const 0 (o_st rx_isI 5 ((vX13_cellOf_61 j))))
set_option maxRecDepth 20000 in
theorem wX13_cellOf_56 (hZ : zO b e D A X) (j : Nat → rx_K) (hj : ∀ k pc, [61][k]? = some pc → rx_OK (zV b e D A X) mX13_cellOf 4 pc (j k)) : rx_OK (zV b e D A X) mX13_cellOf 4 56 (vX13_cellOf_56 j) := by
  unfold vX13_cellOf_56
  refine s_istore hZ.1 dX13_cellOf_56 (Nat.le_of_ble_eq_true rfl) ?_
  refine s_iconst dX13_cellOf_58 (by decide +kernel) ?_
  refine s_istore hZ.1 dX13_cellOf_59 (Nat.le_of_ble_eq_true rfl) ?_
  exact (wX13_cellOf_61 hZ j hj)
noncomputable def vX13_cellOf_47 (j : Nat → rx_K) : rx_K := o_ld rx_isR 0 (o_ld rx_isR 0 (o_ld rx_isI 3 (o_callV 1 13 FX13_parent (o_callV 1 13 FX13_fieldsOf ((vX13_cellOf_56 j))))))
set_option maxRecDepth 20000 in
theorem wX13_cellOf_47 (hZ : zO b e D A X) (j : Nat → rx_K) (hj : ∀ k pc, [61][k]? = some pc → rx_OK (zV b e D A X) mX13_cellOf 4 pc (j k)) : rx_OK (zV b e D A X) mX13_cellOf 4 47 (vX13_cellOf_47 j) := by
  unfold vX13_cellOf_47
  refine s_aload_n hZ.1 dX13_cellOf_47 rfl ?_
  refine s_aload_n hZ.1 dX13_cellOf_48 rfl ?_
  refine s_iload_n hZ.1 dX13_cellOf_49 rfl ?_
  refine s_callV hZ.1 (Met_X13_parent hZ) (Nat.le_of_ble_eq_true rfl) vy_X13_parent zcl13 zw3220 zw233 (Or.inl zw3218) dX13_cellOf_50 ?_
  refine s_callV hZ.1 (Met_X13_fieldsOf hZ) (Nat.le_of_ble_eq_true rfl) vy_X13_fieldsOf zcl13 zw3880 zw367 (Or.inl zw3878) dX13_cellOf_53 ?_
  exact (wX13_cellOf_56 hZ j hj)
noncomputable def vX13_cellOf_43 (j : Nat → rx_K) : rx_K := o_const 0 ((vX13_cellOf_56 j))
set_option maxRecDepth 20000 in
theorem wX13_cellOf_43 (hZ : zO b e D A X) (j : Nat → rx_K) (hj : ∀ k pc, [61][k]? = some pc → rx_OK (zV b e D A X) mX13_cellOf 4 pc (j k)) : rx_OK (zV b e D A X) mX13_cellOf 4 43 (vX13_cellOf_43 j) := by
  unfold vX13_cellOf_43
  refine s_iconst dX13_cellOf_43 (by decide +kernel) ?_
  exact s_goto dX13_cellOf_44 (by decide) (wX13_cellOf_56 hZ j hj)
noncomputable def vX13_cellOf_33 (j : Nat → rx_K) : rx_K := o_ld rx_isR 0 (o_ld rx_isI 3 (o_callV 1 13 FX13_parent (o_const 34359738352 (o_c2 rx_eq (vX13_cellOf_43 j) (vX13_cellOf_47 j)))))
set_option maxRecDepth 20000 in
theorem wX13_cellOf_33 (hZ : zO b e D A X) (j : Nat → rx_K) (hj : ∀ k pc, [61][k]? = some pc → rx_OK (zV b e D A X) mX13_cellOf 4 pc (j k)) : rx_OK (zV b e D A X) mX13_cellOf 4 33 (vX13_cellOf_33 j) := by
  unfold vX13_cellOf_33
  refine s_aload_n hZ.1 dX13_cellOf_33 rfl ?_
  refine s_iload_n hZ.1 dX13_cellOf_34 rfl ?_
  refine s_callV hZ.1 (Met_X13_parent hZ) (Nat.le_of_ble_eq_true rfl) vy_X13_parent zcl13 zw3220 zw233 (Or.inl zw3218) dX13_cellOf_35 ?_
  refine s_bipush dX13_cellOf_38 (by decide +kernel) ?_
  exact s_icmp_ne dX13_cellOf_40 (by decide) (wX13_cellOf_47 hZ j hj) (wX13_cellOf_43 hZ j hj)
noncomputable def vX13_cellOf_30 (j : Nat → rx_K) : rx_K := o_const 34359738352 (o_ret1 rx_isI)
set_option maxRecDepth 20000 in
theorem wX13_cellOf_30 (hZ : zO b e D A X) (j : Nat → rx_K) (hj : ∀ k pc, [61][k]? = some pc → rx_OK (zV b e D A X) mX13_cellOf 4 pc (j k)) : rx_OK (zV b e D A X) mX13_cellOf 4 30 (vX13_cellOf_30 j) := by
  unfold vX13_cellOf_30
  refine s_bipush dX13_cellOf_30 (by decide +kernel) ?_
  exact s_iret hZ.1 rfl dX13_cellOf_32
noncomputable def vX13_cellOf_16 (j : Nat → rx_K) : rx_K := o_ld rx_isR 0 (o_ld rx_isR 0 (o_getf 13 149 (o_ld rx_isI 1 (o_ald 0 (o_ld rx_isI 3 (o_callV 2 13 FX13_isHeir (o_c1 rx_eq (vX13_cellOf_30 j) (vX13_cellOf_33 j))))))))
set_option maxRecDepth 20000 in
theorem wX13_cellOf_16 (hZ : zO b e D A X) (j : Nat → rx_K) (hj : ∀ k pc, [61][k]? = some pc → rx_OK (zV b e D A X) mX13_cellOf 4 pc (j k)) : rx_OK (zV b e D A X) mX13_cellOf 4 16 (vX13_cellOf_16 j) := by
  unfold vX13_cellOf_16
  refine s_aload_n hZ.1 dX13_cellOf_16 rfl ?_
  refine s_aload_n hZ.1 dX13_cellOf_17 rfl ?_
  refine yg13_149 dX13_cellOf_18 zw4269 ?_
  refine s_iload_n hZ.1 dX13_cellOf_21 rfl ?_
  refine s_iald (tt := 0) rfl dX13_cellOf_22 ?_
  refine s_iload_n hZ.1 dX13_cellOf_23 rfl ?_
  refine s_callV hZ.1 (Met_X13_isHeir hZ) (Nat.le_of_ble_eq_true rfl) vy_X13_isHeir zcl13 zw3211 zw231 (Or.inl zw3209) dX13_cellOf_24 ?_
  exact s_if_ne dX13_cellOf_27 (by decide) (wX13_cellOf_33 hZ j hj) (wX13_cellOf_30 hZ j hj)
noncomputable def vX13_cellOf_0 (j : Nat → rx_K) : rx_K := o_ld rx_isR 0 (o_ld rx_isI 2 (o_callV 1 13 FX13_classOfMember (o_st rx_isI 3 (o_ld rx_isI 3 (o_ld rx_isR 0 (o_getf 13 149 (o_ld rx_isI 1 (o_ald 0 (o_c2 rx_eq (vX13_cellOf_33 j) (vX13_cellOf_16 j))))))))))
set_option maxRecDepth 20000 in
theorem wX13_cellOf_0 (hZ : zO b e D A X) (j : Nat → rx_K) (hj : ∀ k pc, [61][k]? = some pc → rx_OK (zV b e D A X) mX13_cellOf 4 pc (j k)) : rx_OK (zV b e D A X) mX13_cellOf 4 0 (vX13_cellOf_0 j) := by
  unfold vX13_cellOf_0
  refine s_aload_n hZ.1 dX13_cellOf_0 rfl ?_
  refine s_iload_n hZ.1 dX13_cellOf_1 rfl ?_
  refine s_callV hZ.1 (Met_X13_classOfMember hZ) (Nat.le_of_ble_eq_true rfl) vy_X13_classOfMember zcl13 zw3255 zw241 (Or.inl zw3253) dX13_cellOf_2 ?_
  refine s_istore_n hZ.1 dX13_cellOf_5 rfl (Nat.le_of_ble_eq_true rfl) ?_
  refine s_iload_n hZ.1 dX13_cellOf_6 rfl ?_
  refine s_aload_n hZ.1 dX13_cellOf_7 rfl ?_
  refine yg13_149 dX13_cellOf_8 zw4269 ?_
  refine s_iload_n hZ.1 dX13_cellOf_11 rfl ?_
  refine s_iald (tt := 0) rfl dX13_cellOf_12 ?_
  exact s_icmp_eq dX13_cellOf_13 (by decide) (wX13_cellOf_33 hZ j hj) (wX13_cellOf_16 hZ j hj)
noncomputable def vhX13_cellOf (j : Nat → rx_K) : List rx_K := [vX13_cellOf_61 j]
theorem vlX13_cellOf (hZ : zO b e D A X) : ∀ n k pc, [61][k]? = some pc → rx_OK (zV b e D A X) mX13_cellOf 4 pc (rx_J (vhX13_cellOf) n k) := rx_loop fun j hj k pc h => by
  match k, h with
  | 0, h =>
    have e9 := Option.some.inj (show some 61 = some pc from h)
    subst e9
    exact wX13_cellOf_61 hZ j hj
  | _ + 1, h => exact absurd h (by simp)
noncomputable def FX13_cellOf : List Nat → rx_H → Option (Nat × rx_H) := rx_ent 6 (vX13_cellOf_0 (rx_J (vhX13_cellOf) 4000000000))
theorem Met_X13_cellOf (hZ : zO b e D A X) : rx_Met (zV b e D A X) 4 yX13_cellOf mX13_cellOf (FX13_cellOf) := rx_entry hZ.1 (wX13_cellOf_0 hZ _ (vlX13_cellOf hZ 4000000000)) (by decide +kernel) rfl (fun h => by cases h)
abbrev mX13_steps : rx_M := (RX13, cX13_steps, 1, (some .boolean), false)
theorem vy_X13_steps : rx_Y (zV b e D A X) yX13_steps mX13_steps 0 := ⟨zw3909, zw431, by decide, by decide +kernel, by decide +kernel, by decide +kernel⟩
noncomputable def vX13_steps_19 : rx_K := o_ld rx_isR 0 (o_dup (o_getf 13 163 (o_const 8 (o_bi (fun x y => x + y) (o_putf rx_isI 13 163 (o_const 8 (o_ret1 rx_isZ)))))))
set_option maxRecDepth 20000 in
theorem wX13_steps_19 (hZ : zO b e D A X) : rx_OK (zV b e D A X) mX13_steps 1 19 vX13_steps_19 := by
  unfold vX13_steps_19
  refine s_aload_n hZ.1 dX13_steps_19 rfl ?_
  refine s_dup hZ.1 dX13_steps_20 ?_
  refine yg13_163 dX13_steps_21 zw4283 ?_
  refine s_iconst dX13_steps_24 (by decide +kernel) ?_
  refine s_iadd dX13_steps_25 ?_
  refine yp13_163 hZ.1 dX13_steps_26 zw4283 ?_
  refine s_iconst dX13_steps_29 (by decide +kernel) ?_
  exact s_zret rx_z_ok rfl dX13_steps_30
noncomputable def vX13_steps_10 : rx_K := o_ld rx_isR 0 (o_const 112 (o_callV 1 13 FX13_fail (o_pop (o_const 0 (o_ret1 rx_isZ)))))
set_option maxRecDepth 20000 in
theorem wX13_steps_10 (hZ : zO b e D A X) : rx_OK (zV b e D A X) mX13_steps 1 10 vX13_steps_10 := by
  unfold vX13_steps_10
  refine s_aload_n hZ.1 dX13_steps_10 rfl ?_
  refine s_bipush dX13_steps_11 (by decide +kernel) ?_
  refine s_callV hZ.1 (Met_X13_fail hZ) (Nat.le_of_ble_eq_true rfl) vy_X13_fail zcl13 zw3820 zw352 (Or.inl zw3818) dX13_steps_13 ?_
  refine s_pop hZ.1 dX13_steps_16 ?_
  refine s_iconst dX13_steps_17 (by decide +kernel) ?_
  exact s_zret rx_z_ok rfl dX13_steps_18
noncomputable def vX13_steps_0 : rx_K := o_ld rx_isR 0 (o_getf 13 163 (o_const 160000 (o_c2 rx_eq vX13_steps_10 vX13_steps_19)))
set_option maxRecDepth 20000 in
theorem wX13_steps_0 (hZ : zO b e D A X) : rx_OK (zV b e D A X) mX13_steps 1 0 vX13_steps_0 := by
  unfold vX13_steps_0
  refine s_aload_n hZ.1 dX13_steps_0 rfl ?_
  refine yg13_163 dX13_steps_1 zw4283 ?_
  refine s_sipush dX13_steps_4 (by decide +kernel) ?_
  exact s_icmp_ne dX13_steps_7 (by decide) (wX13_steps_19 hZ) (wX13_steps_10 hZ)
noncomputable def FX13_steps : List Nat → rx_H → Option (Nat × rx_H) := rx_ent 1 vX13_steps_0
theorem Met_X13_steps (hZ : zO b e D A X) : rx_Met (zV b e D A X) 1 yX13_steps mX13_steps (FX13_steps) := rx_entry hZ.1 (wX13_steps_0 hZ) (by decide +kernel) rfl (fun h => by cases h)
abbrev mX13_push : rx_M := (RX13, cX13_push, 2, none, false)
theorem vy_X13_push : rx_Y (zV b e D A X) yX13_push mX13_push 1 := ⟨zw3857, zw431, by decide, by decide +kernel, by decide +kernel, by decide +kernel⟩
noncomputable def vX13_push_41 : rx_K := o_ret0
set_option maxRecDepth 20000 in
theorem wX13_push_41 (hZ : zO b e D A X) : rx_OK (zV b e D A X) mX13_push 0 41 vX13_push_41 := by
  unfold vX13_push_41
  exact s_vret rfl dX13_push_41
noncomputable def vX13_push_0 : rx_K := o_ld rx_isR 0 (o_getf 13 156 (o_ld rx_isR 0 (o_getf 13 161 (o_ld rx_isI 1 (o_ast 0 (fun v => v) rx_isI (o_ld rx_isR 0 (o_getf 13 157 (o_ld rx_isR 0 (o_getf 13 161 (o_const 0 (o_ast 0 (fun v => v) rx_isI (o_ld rx_isR 0 (o_getf 13 159 (o_ld rx_isR 0 (o_getf 13 161 (o_const 34359738352 (o_ast 0 (fun v => v) rx_isI (o_ld rx_isR 0 (o_dup (o_getf 13 161 (o_const 8 (o_bi (fun x y => x + y) (o_putf rx_isI 13 161 (vX13_push_41))))))))))))))))))))))))
set_option maxRecDepth 20000 in
theorem wX13_push_0 (hZ : zO b e D A X) : rx_OK (zV b e D A X) mX13_push 0 0 vX13_push_0 := by
  unfold vX13_push_0
  refine s_aload_n hZ.1 dX13_push_0 rfl ?_
  refine yg13_156 dX13_push_1 zw4276 ?_
  refine s_aload_n hZ.1 dX13_push_4 rfl ?_
  refine yg13_161 dX13_push_5 zw4281 ?_
  refine s_iload_n hZ.1 dX13_push_8 rfl ?_
  refine s_iast hZ.1 (tt := 0) rfl dX13_push_9 ?_
  refine s_aload_n hZ.1 dX13_push_10 rfl ?_
  refine yg13_157 dX13_push_11 zw4277 ?_
  refine s_aload_n hZ.1 dX13_push_14 rfl ?_
  refine yg13_161 dX13_push_15 zw4281 ?_
  refine s_iconst dX13_push_18 (by decide +kernel) ?_
  refine s_iast hZ.1 (tt := 0) rfl dX13_push_19 ?_
  refine s_aload_n hZ.1 dX13_push_20 rfl ?_
  refine yg13_159 dX13_push_21 zw4279 ?_
  refine s_aload_n hZ.1 dX13_push_24 rfl ?_
  refine yg13_161 dX13_push_25 zw4281 ?_
  refine s_bipush dX13_push_28 (by decide +kernel) ?_
  refine s_iast hZ.1 (tt := 0) rfl dX13_push_30 ?_
  refine s_aload_n hZ.1 dX13_push_31 rfl ?_
  refine s_dup hZ.1 dX13_push_32 ?_
  refine yg13_161 dX13_push_33 zw4281 ?_
  refine s_iconst dX13_push_36 (by decide +kernel) ?_
  refine s_iadd dX13_push_37 ?_
  refine yp13_161 hZ.1 dX13_push_38 zw4281 ?_
  exact (wX13_push_41 hZ)
noncomputable def FX13_push : List Nat → rx_H → Option (Nat × rx_H) := rx_ent 2 vX13_push_0
theorem Met_X13_push (hZ : zO b e D A X) : rx_Met (zV b e D A X) 0 yX13_push mX13_push (FX13_push) := rx_entry hZ.1 (wX13_push_0 hZ) (by decide +kernel) rfl (fun h => by cases h)
abbrev mX13_newObject : rx_M := (RX13, cX13_newObject, 4, (some .int), false)
theorem vy_X13_newObject : rx_Y (zV b e D A X) yX13_newObject mX13_newObject 1 := ⟨zw3949, zw431, by decide, by decide +kernel, by decide +kernel, by decide +kernel⟩
noncomputable def vX13_newObject_93 (j : Nat → rx_K) : rx_K := o_ld rx_isR 0 (o_dup (o_getf 13 153 (o_ld rx_isI 2 (o_bi (fun x y => x + y) (o_putf rx_isI 13 153 (o_ld rx_isR 0 (o_getf 13 150 (o_ld rx_isR 0 (o_getf 13 151 (o_const 8 (o_bi (fun x y => x + y) (o_ld rx_isR 0 (o_getf 13 153 (o_ast 0 (fun v => v) rx_isI (o_ld rx_isR 0 (o_getf 13 151 (o_ret1 rx_isI)))))))))))))))))
set_option maxRecDepth 20000 in
theorem wX13_newObject_93 (hZ : zO b e D A X) (j : Nat → rx_K) (hj : ∀ k pc, [70][k]? = some pc → rx_OK (zV b e D A X) mX13_newObject 4 pc (j k)) : rx_OK (zV b e D A X) mX13_newObject 4 93 (vX13_newObject_93 j) := by
  unfold vX13_newObject_93
  refine s_aload_n hZ.1 dX13_newObject_93 rfl ?_
  refine s_dup hZ.1 dX13_newObject_94 ?_
  refine yg13_153 dX13_newObject_95 zw4273 ?_
  refine s_iload_n hZ.1 dX13_newObject_98 rfl ?_
  refine s_iadd dX13_newObject_99 ?_
  refine yp13_153 hZ.1 dX13_newObject_100 zw4273 ?_
  refine s_aload_n hZ.1 dX13_newObject_103 rfl ?_
  refine yg13_150 dX13_newObject_104 zw4270 ?_
  refine s_aload_n hZ.1 dX13_newObject_107 rfl ?_
  refine yg13_151 dX13_newObject_108 zw4271 ?_
  refine s_iconst dX13_newObject_111 (by decide +kernel) ?_
  refine s_iadd dX13_newObject_112 ?_
  refine s_aload_n hZ.1 dX13_newObject_113 rfl ?_
  refine yg13_153 dX13_newObject_114 zw4273 ?_
  refine s_iast hZ.1 (tt := 0) rfl dX13_newObject_117 ?_
  refine s_aload_n hZ.1 dX13_newObject_118 rfl ?_
  refine yg13_151 dX13_newObject_119 zw4271 ?_
  exact s_iret hZ.1 rfl dX13_newObject_122
noncomputable def vX13_newObject_75 (j : Nat → rx_K) : rx_K := o_ld rx_isR 0 (o_getf 13 152 (o_ld rx_isR 0 (o_getf 13 153 (o_ld rx_isI 3 (o_bi (fun x y => x + y) (o_const 0 (o_ast 0 (fun v => v) rx_isI (o_inc 3 (1) ((j 0))))))))))
set_option maxRecDepth 20000 in
theorem wX13_newObject_75 (hZ : zO b e D A X) (j : Nat → rx_K) (hj : ∀ k pc, [70][k]? = some pc → rx_OK (zV b e D A X) mX13_newObject 4 pc (j k)) : rx_OK (zV b e D A X) mX13_newObject 4 75 (vX13_newObject_75 j) := by
  unfold vX13_newObject_75
  refine s_aload_n hZ.1 dX13_newObject_75 rfl ?_
  refine yg13_152 dX13_newObject_76 zw4272 ?_
  refine s_aload_n hZ.1 dX13_newObject_79 rfl ?_
  refine yg13_153 dX13_newObject_80 zw4273 ?_
  refine s_iload_n hZ.1 dX13_newObject_83 rfl ?_
  refine s_iadd dX13_newObject_84 ?_
  refine s_iconst dX13_newObject_85 (by decide +kernel) ?_
  refine s_iast hZ.1 (tt := 0) rfl dX13_newObject_86 ?_
  refine s_iinc hZ.1 dX13_newObject_87 (Nat.le_of_ble_eq_true rfl) ?_
  exact s_goto dX13_newObject_90 (by decide) (hj 0 70 rfl)
noncomputable def vX13_newObject_70 (j : Nat → rx_K) : rx_K := o_ld rx_isI 3 (o_ld rx_isI 2 (o_c2 rx_lt (vX13_newObject_75 j) (vX13_newObject_93 j)))
set_option maxRecDepth 20000 in
theorem wX13_newObject_70 (hZ : zO b e D A X) (j : Nat → rx_K) (hj : ∀ k pc, [70][k]? = some pc → rx_OK (zV b e D A X) mX13_newObject 4 pc (j k)) : rx_OK (zV b e D A X) mX13_newObject 4 70 (vX13_newObject_70 j) := by
  unfold vX13_newObject_70
  refine s_iload_n hZ.1 dX13_newObject_70 rfl ?_
  refine s_iload_n hZ.1 dX13_newObject_71 rfl ?_
  exact s_icmp_ge dX13_newObject_72 (by decide) (wX13_newObject_93 hZ j hj) (wX13_newObject_75 hZ j hj)
noncomputable def vX13_newObject_35 (j : Nat → rx_K) : rx_K := o_ld rx_isR 0 (o_dup (o_getf 13 151 (o_const 8 (o_bi (fun x y => x + y) (o_putf rx_isI 13 151 (o_ld rx_isR 0 (o_getf 13 149 (o_ld rx_isR 0 (o_getf 13 151 (o_ld rx_isI 1 (o_ast 0 (fun v => v) rx_isI (o_ld rx_isR 0 (o_getf 13 150 (o_ld rx_isR 0 (o_getf 13 151 (o_ld rx_isR 0 (o_getf 13 153 (o_ast 0 (fun v => v) rx_isI (o_const 0 (o_st rx_isI 3 ((vX13_newObject_70 j))))))))))))))))))))))
set_option maxRecDepth 20000 in
theorem wX13_newObject_35 (hZ : zO b e D A X) (j : Nat → rx_K) (hj : ∀ k pc, [70][k]? = some pc → rx_OK (zV b e D A X) mX13_newObject 4 pc (j k)) : rx_OK (zV b e D A X) mX13_newObject 4 35 (vX13_newObject_35 j) := by
  unfold vX13_newObject_35
  refine s_aload_n hZ.1 dX13_newObject_35 rfl ?_
  refine s_dup hZ.1 dX13_newObject_36 ?_
  refine yg13_151 dX13_newObject_37 zw4271 ?_
  refine s_iconst dX13_newObject_40 (by decide +kernel) ?_
  refine s_iadd dX13_newObject_41 ?_
  refine yp13_151 hZ.1 dX13_newObject_42 zw4271 ?_
  refine s_aload_n hZ.1 dX13_newObject_45 rfl ?_
  refine yg13_149 dX13_newObject_46 zw4269 ?_
  refine s_aload_n hZ.1 dX13_newObject_49 rfl ?_
  refine yg13_151 dX13_newObject_50 zw4271 ?_
  refine s_iload_n hZ.1 dX13_newObject_53 rfl ?_
  refine s_iast hZ.1 (tt := 0) rfl dX13_newObject_54 ?_
  refine s_aload_n hZ.1 dX13_newObject_55 rfl ?_
  refine yg13_150 dX13_newObject_56 zw4270 ?_
  refine s_aload_n hZ.1 dX13_newObject_59 rfl ?_
  refine yg13_151 dX13_newObject_60 zw4271 ?_
  refine s_aload_n hZ.1 dX13_newObject_63 rfl ?_
  refine yg13_153 dX13_newObject_64 zw4273 ?_
  refine s_iast hZ.1 (tt := 0) rfl dX13_newObject_67 ?_
  refine s_iconst dX13_newObject_68 (by decide +kernel) ?_
  refine s_istore_n hZ.1 dX13_newObject_69 rfl (Nat.le_of_ble_eq_true rfl) ?_
  exact (wX13_newObject_70 hZ j hj)
noncomputable def vX13_newObject_28 (j : Nat → rx_K) : rx_K := o_ld rx_isR 0 (o_const 128 (o_callV 1 13 FX13_fail (o_ret1 rx_isI)))
set_option maxRecDepth 20000 in
theorem wX13_newObject_28 (hZ : zO b e D A X) (j : Nat → rx_K) (hj : ∀ k pc, [70][k]? = some pc → rx_OK (zV b e D A X) mX13_newObject 4 pc (j k)) : rx_OK (zV b e D A X) mX13_newObject 4 28 (vX13_newObject_28 j) := by
  unfold vX13_newObject_28
  refine s_aload_n hZ.1 dX13_newObject_28 rfl ?_
  refine s_bipush dX13_newObject_29 (by decide +kernel) ?_
  refine s_callV hZ.1 (Met_X13_fail hZ) (Nat.le_of_ble_eq_true rfl) vy_X13_fail zcl13 zw3820 zw352 (Or.inl zw3818) dX13_newObject_31 ?_
  exact s_iret hZ.1 rfl dX13_newObject_34
noncomputable def vX13_newObject_16 (j : Nat → rx_K) : rx_K := o_ld rx_isR 0 (o_getf 13 153 (o_ld rx_isI 2 (o_bi (fun x y => x + y) (o_const 16000 (o_c2 (fun h x y => rx_lt h y x) (vX13_newObject_28 j) (vX13_newObject_35 j))))))
set_option maxRecDepth 20000 in
theorem wX13_newObject_16 (hZ : zO b e D A X) (j : Nat → rx_K) (hj : ∀ k pc, [70][k]? = some pc → rx_OK (zV b e D A X) mX13_newObject 4 pc (j k)) : rx_OK (zV b e D A X) mX13_newObject 4 16 (vX13_newObject_16 j) := by
  unfold vX13_newObject_16
  refine s_aload_n hZ.1 dX13_newObject_16 rfl ?_
  refine yg13_153 dX13_newObject_17 zw4273 ?_
  refine s_iload_n hZ.1 dX13_newObject_20 rfl ?_
  refine s_iadd dX13_newObject_21 ?_
  refine s_sipush dX13_newObject_22 (by decide +kernel) ?_
  exact s_icmp_le dX13_newObject_25 (by decide) (wX13_newObject_35 hZ j hj) (wX13_newObject_28 hZ j hj)
noncomputable def vX13_newObject_0 (j : Nat → rx_K) : rx_K := o_ld rx_isR 0 (o_ld rx_isI 1 (o_callV 1 13 FX13_fieldsOf (o_st rx_isI 2 (o_ld rx_isR 0 (o_getf 13 151 (o_const 1600 (o_c2 rx_eq (vX13_newObject_28 j) (vX13_newObject_16 j))))))))
set_option maxRecDepth 20000 in
theorem wX13_newObject_0 (hZ : zO b e D A X) (j : Nat → rx_K) (hj : ∀ k pc, [70][k]? = some pc → rx_OK (zV b e D A X) mX13_newObject 4 pc (j k)) : rx_OK (zV b e D A X) mX13_newObject 4 0 (vX13_newObject_0 j) := by
  unfold vX13_newObject_0
  refine s_aload_n hZ.1 dX13_newObject_0 rfl ?_
  refine s_iload_n hZ.1 dX13_newObject_1 rfl ?_
  refine s_callV hZ.1 (Met_X13_fieldsOf hZ) (Nat.le_of_ble_eq_true rfl) vy_X13_fieldsOf zcl13 zw3880 zw367 (Or.inl zw3878) dX13_newObject_2 ?_
  refine s_istore_n hZ.1 dX13_newObject_5 rfl (Nat.le_of_ble_eq_true rfl) ?_
  refine s_aload_n hZ.1 dX13_newObject_6 rfl ?_
  refine yg13_151 dX13_newObject_7 zw4271 ?_
  refine s_sipush dX13_newObject_10 (by decide +kernel) ?_
  exact s_icmp_eq dX13_newObject_13 (by decide) (wX13_newObject_28 hZ j hj) (wX13_newObject_16 hZ j hj)
noncomputable def vhX13_newObject (j : Nat → rx_K) : List rx_K := [vX13_newObject_70 j]
theorem vlX13_newObject (hZ : zO b e D A X) : ∀ n k pc, [70][k]? = some pc → rx_OK (zV b e D A X) mX13_newObject 4 pc (rx_J (vhX13_newObject) n k) := rx_loop fun j hj k pc h => by
  match k, h with
  | 0, h =>
    have e9 := Option.some.inj (show some 70 = some pc from h)
    subst e9
    exact wX13_newObject_70 hZ j hj
  | _ + 1, h => exact absurd h (by simp)
noncomputable def FX13_newObject : List Nat → rx_H → Option (Nat × rx_H) := rx_ent 4 (vX13_newObject_0 (rx_J (vhX13_newObject) 4000000000))
theorem Met_X13_newObject (hZ : zO b e D A X) : rx_Met (zV b e D A X) 4 yX13_newObject mX13_newObject (FX13_newObject) := rx_entry hZ.1 (wX13_newObject_0 hZ _ (vlX13_newObject hZ 4000000000)) (by decide +kernel) rfl (fun h => by cases h)
abbrev mX13_evalTwo : rx_M := (RX13, cX13_evalTwo, 4, (some .int), false)
theorem vy_X13_evalTwo : rx_Y (zV b e D A X) yX13_evalTwo mX13_evalTwo 3 := ⟨zw3953, zw431, by decide, by decide +kernel, by decide +kernel, by decide +kernel⟩
noncomputable def vX13_evalTwo_64 : rx_K := o_ld rx_isR 0 (o_dup (o_getf 13 161 (o_const 8 (o_bi (fun x y => x - y) (o_putf rx_isI 13 161 (o_ld rx_isR 0 (o_getf 13 70 (o_ld rx_isI 2 (o_ald 0 (o_ld rx_isR 0 (o_getf 13 158 (o_ld rx_isI 1 (o_ald 0 (o_ld rx_isI 3 (o_callS 3 FX13_act (o_ret1 rx_isI))))))))))))))))
set_option maxRecDepth 20000 in
theorem wX13_evalTwo_64 (hZ : zO b e D A X) : rx_OK (zV b e D A X) mX13_evalTwo 1 64 vX13_evalTwo_64 := by
  unfold vX13_evalTwo_64
  refine s_aload_n hZ.1 dX13_evalTwo_64 rfl ?_
  refine s_dup hZ.1 dX13_evalTwo_65 ?_
  refine yg13_161 dX13_evalTwo_66 zw4281 ?_
  refine s_iconst dX13_evalTwo_69 (by decide +kernel) ?_
  refine s_isub dX13_evalTwo_70 ?_
  refine yp13_161 hZ.1 dX13_evalTwo_71 zw4281 ?_
  refine s_aload_n hZ.1 dX13_evalTwo_74 rfl ?_
  refine yg13_70 dX13_evalTwo_75 zw4191 ?_
  refine s_iload_n hZ.1 dX13_evalTwo_78 rfl ?_
  refine s_iald (tt := 0) rfl dX13_evalTwo_79 ?_
  refine s_aload_n hZ.1 dX13_evalTwo_80 rfl ?_
  refine yg13_158 dX13_evalTwo_81 zw4278 ?_
  refine s_iload_n hZ.1 dX13_evalTwo_84 rfl ?_
  refine s_iald (tt := 0) rfl dX13_evalTwo_85 ?_
  refine s_iload_n hZ.1 dX13_evalTwo_86 rfl ?_
  refine s_callS hZ.1 (Met_X13_act hZ) (Nat.le_of_ble_eq_true rfl) vy_X13_act zw3386 (Or.inl zw3385) dX13_evalTwo_87 ?_
  exact s_iret hZ.1 rfl dX13_evalTwo_90
noncomputable def vX13_evalTwo_38 : rx_K := o_ld rx_isR 0 (o_getf 13 157 (o_ld rx_isI 1 (o_const 16 (o_ast 0 (fun v => v) rx_isI (o_ld rx_isR 0 (o_getf 13 158 (o_ld rx_isI 1 (o_ld rx_isI 3 (o_ast 0 (fun v => v) rx_isI (o_ld rx_isR 0 (o_ld rx_isR 0 (o_getf 13 78 (o_ld rx_isI 2 (o_ald 0 (o_callV 1 13 FX13_push (o_ld rx_isI 3 (o_ret1 rx_isI)))))))))))))))))
set_option maxRecDepth 20000 in
theorem wX13_evalTwo_38 (hZ : zO b e D A X) : rx_OK (zV b e D A X) mX13_evalTwo 1 38 vX13_evalTwo_38 := by
  unfold vX13_evalTwo_38
  refine s_aload_n hZ.1 dX13_evalTwo_38 rfl ?_
  refine yg13_157 dX13_evalTwo_39 zw4277 ?_
  refine s_iload_n hZ.1 dX13_evalTwo_42 rfl ?_
  refine s_iconst dX13_evalTwo_43 (by decide +kernel) ?_
  refine s_iast hZ.1 (tt := 0) rfl dX13_evalTwo_44 ?_
  refine s_aload_n hZ.1 dX13_evalTwo_45 rfl ?_
  refine yg13_158 dX13_evalTwo_46 zw4278 ?_
  refine s_iload_n hZ.1 dX13_evalTwo_49 rfl ?_
  refine s_iload_n hZ.1 dX13_evalTwo_50 rfl ?_
  refine s_iast hZ.1 (tt := 0) rfl dX13_evalTwo_51 ?_
  refine s_aload_n hZ.1 dX13_evalTwo_52 rfl ?_
  refine s_aload_n hZ.1 dX13_evalTwo_53 rfl ?_
  refine yg13_78 dX13_evalTwo_54 zw4199 ?_
  refine s_iload_n hZ.1 dX13_evalTwo_57 rfl ?_
  refine s_iald (tt := 0) rfl dX13_evalTwo_58 ?_
  refine s_callV hZ.1 (Met_X13_push hZ) (Nat.le_of_ble_eq_true rfl) vy_X13_push zcl13 zw3856 zw361 (Or.inl zw3854) dX13_evalTwo_59 ?_
  refine s_iload_n hZ.1 dX13_evalTwo_62 rfl ?_
  exact s_iret hZ.1 rfl dX13_evalTwo_63
noncomputable def vX13_evalTwo_28 : rx_K := o_ld rx_isR 0 (o_getf 13 157 (o_ld rx_isI 1 (o_ald 0 (o_const 8 (o_c2 rx_eq vX13_evalTwo_38 vX13_evalTwo_64)))))
set_option maxRecDepth 20000 in
theorem wX13_evalTwo_28 (hZ : zO b e D A X) : rx_OK (zV b e D A X) mX13_evalTwo 1 28 vX13_evalTwo_28 := by
  unfold vX13_evalTwo_28
  refine s_aload_n hZ.1 dX13_evalTwo_28 rfl ?_
  refine yg13_157 dX13_evalTwo_29 zw4277 ?_
  refine s_iload_n hZ.1 dX13_evalTwo_32 rfl ?_
  refine s_iald (tt := 0) rfl dX13_evalTwo_33 ?_
  refine s_iconst dX13_evalTwo_34 (by decide +kernel) ?_
  exact s_icmp_ne dX13_evalTwo_35 (by decide) (wX13_evalTwo_64 hZ) (wX13_evalTwo_38 hZ)
noncomputable def vX13_evalTwo_9 : rx_K := o_ld rx_isR 0 (o_getf 13 157 (o_ld rx_isI 1 (o_const 8 (o_ast 0 (fun v => v) rx_isI (o_ld rx_isR 0 (o_ld rx_isR 0 (o_getf 13 77 (o_ld rx_isI 2 (o_ald 0 (o_callV 1 13 FX13_push (o_ld rx_isI 3 (o_ret1 rx_isI))))))))))))
set_option maxRecDepth 20000 in
theorem wX13_evalTwo_9 (hZ : zO b e D A X) : rx_OK (zV b e D A X) mX13_evalTwo 1 9 vX13_evalTwo_9 := by
  unfold vX13_evalTwo_9
  refine s_aload_n hZ.1 dX13_evalTwo_9 rfl ?_
  refine yg13_157 dX13_evalTwo_10 zw4277 ?_
  refine s_iload_n hZ.1 dX13_evalTwo_13 rfl ?_
  refine s_iconst dX13_evalTwo_14 (by decide +kernel) ?_
  refine s_iast hZ.1 (tt := 0) rfl dX13_evalTwo_15 ?_
  refine s_aload_n hZ.1 dX13_evalTwo_16 rfl ?_
  refine s_aload_n hZ.1 dX13_evalTwo_17 rfl ?_
  refine yg13_77 dX13_evalTwo_18 zw4198 ?_
  refine s_iload_n hZ.1 dX13_evalTwo_21 rfl ?_
  refine s_iald (tt := 0) rfl dX13_evalTwo_22 ?_
  refine s_callV hZ.1 (Met_X13_push hZ) (Nat.le_of_ble_eq_true rfl) vy_X13_push zcl13 zw3856 zw361 (Or.inl zw3854) dX13_evalTwo_23 ?_
  refine s_iload_n hZ.1 dX13_evalTwo_26 rfl ?_
  exact s_iret hZ.1 rfl dX13_evalTwo_27
noncomputable def vX13_evalTwo_0 : rx_K := o_ld rx_isR 0 (o_getf 13 157 (o_ld rx_isI 1 (o_ald 0 (o_c1 rx_eq vX13_evalTwo_9 vX13_evalTwo_28))))
set_option maxRecDepth 20000 in
theorem wX13_evalTwo_0 (hZ : zO b e D A X) : rx_OK (zV b e D A X) mX13_evalTwo 1 0 vX13_evalTwo_0 := by
  unfold vX13_evalTwo_0
  refine s_aload_n hZ.1 dX13_evalTwo_0 rfl ?_
  refine yg13_157 dX13_evalTwo_1 zw4277 ?_
  refine s_iload_n hZ.1 dX13_evalTwo_4 rfl ?_
  refine s_iald (tt := 0) rfl dX13_evalTwo_5 ?_
  exact s_if_ne dX13_evalTwo_6 (by decide) (wX13_evalTwo_28 hZ) (wX13_evalTwo_9 hZ)
noncomputable def FX13_evalTwo : List Nat → rx_H → Option (Nat × rx_H) := rx_ent 4 vX13_evalTwo_0
theorem Met_X13_evalTwo (hZ : zO b e D A X) : rx_Met (zV b e D A X) 1 yX13_evalTwo mX13_evalTwo (FX13_evalTwo) := rx_entry hZ.1 (wX13_evalTwo_0 hZ) (by decide +kernel) rfl (fun h => by cases h)
abbrev mX13_getOf : rx_M := (RX13, cX13_getOf, 4, (some .int), false)
theorem vy_X13_getOf : rx_Y (zV b e D A X) yX13_getOf mX13_getOf 2 := ⟨zw3873, zw431, by decide, by decide +kernel, by decide +kernel, by decide +kernel⟩
noncomputable def vX13_getOf_47 : rx_K := o_ret1 rx_isI
set_option maxRecDepth 20000 in
theorem wX13_getOf_47 (hZ : zO b e D A X) : rx_OK (zV b e D A X) mX13_getOf 173 47 vX13_getOf_47 := by
  unfold vX13_getOf_47
  exact s_iret hZ.1 rfl dX13_getOf_47
noncomputable def vX13_getOf_41 : rx_K := o_ld rx_isR 0 (o_getf 13 152 (o_ld rx_isI 3 (o_ald 0 (vX13_getOf_47))))
set_option maxRecDepth 20000 in
theorem wX13_getOf_41 (hZ : zO b e D A X) : rx_OK (zV b e D A X) mX13_getOf 173 41 vX13_getOf_41 := by
  unfold vX13_getOf_41
  refine s_aload_n hZ.1 dX13_getOf_41 rfl ?_
  refine yg13_152 dX13_getOf_42 zw4272 ?_
  refine s_iload_n hZ.1 dX13_getOf_45 rfl ?_
  refine s_iald (tt := 0) rfl dX13_getOf_46 ?_
  exact (wX13_getOf_47 hZ)
noncomputable def vX13_getOf_37 : rx_K := o_const 0 (vX13_getOf_47)
set_option maxRecDepth 20000 in
theorem wX13_getOf_37 (hZ : zO b e D A X) : rx_OK (zV b e D A X) mX13_getOf 173 37 vX13_getOf_37 := by
  unfold vX13_getOf_37
  refine s_iconst dX13_getOf_37 (by decide +kernel) ?_
  exact s_goto dX13_getOf_38 (by decide) (wX13_getOf_47 hZ)
noncomputable def vX13_getOf_21 : rx_K := o_ld rx_isR 0 (o_ld rx_isI 2 (o_ld rx_isR 0 (o_getf 13 140 (o_callV 2 13 FX13_cellOf (o_st rx_isI 3 (o_ld rx_isI 3 (o_const 34359738352 (o_c2 rx_eq vX13_getOf_37 vX13_getOf_41))))))))
set_option maxRecDepth 20000 in
theorem wX13_getOf_21 (hZ : zO b e D A X) : rx_OK (zV b e D A X) mX13_getOf 173 21 vX13_getOf_21 := by
  unfold vX13_getOf_21
  refine s_aload_n hZ.1 dX13_getOf_21 rfl ?_
  refine s_iload_n hZ.1 dX13_getOf_22 rfl ?_
  refine s_aload_n hZ.1 dX13_getOf_23 rfl ?_
  refine yg13_140 dX13_getOf_24 zw4260 ?_
  refine s_callV hZ.1 (Met_X13_cellOf hZ) (Nat.le_of_ble_eq_true rfl) vy_X13_cellOf zcl13 zw3876 zw366 (Or.inl zw3874) dX13_getOf_27 ?_
  refine s_istore_n hZ.1 dX13_getOf_30 rfl (Nat.le_of_ble_eq_true rfl) ?_
  refine s_iload_n hZ.1 dX13_getOf_31 rfl ?_
  refine s_bipush dX13_getOf_32 (by decide +kernel) ?_
  exact s_icmp_ne dX13_getOf_34 (by decide) (wX13_getOf_41 hZ) (wX13_getOf_37 hZ)
noncomputable def vX13_getOf_14 : rx_K := o_ld rx_isR 0 (o_const 104 (o_callV 1 13 FX13_fail (o_ret1 rx_isI)))
set_option maxRecDepth 20000 in
theorem wX13_getOf_14 (hZ : zO b e D A X) : rx_OK (zV b e D A X) mX13_getOf 173 14 vX13_getOf_14 := by
  unfold vX13_getOf_14
  refine s_aload_n hZ.1 dX13_getOf_14 rfl ?_
  refine s_bipush dX13_getOf_15 (by decide +kernel) ?_
  refine s_callV hZ.1 (Met_X13_fail hZ) (Nat.le_of_ble_eq_true rfl) vy_X13_fail zcl13 zw3820 zw352 (Or.inl zw3818) dX13_getOf_17 ?_
  exact s_iret hZ.1 rfl dX13_getOf_20
noncomputable def vX13_getOf_10 : rx_K := o_ld rx_isI 2 (o_c1 rx_eq vX13_getOf_14 vX13_getOf_21)
set_option maxRecDepth 20000 in
theorem wX13_getOf_10 (hZ : zO b e D A X) : rx_OK (zV b e D A X) mX13_getOf 173 10 vX13_getOf_10 := by
  unfold vX13_getOf_10
  refine s_iload_n hZ.1 dX13_getOf_10 rfl ?_
  exact s_if_ne dX13_getOf_11 (by decide) (wX13_getOf_21 hZ) (wX13_getOf_14 hZ)
noncomputable def vX13_getOf_8 : rx_K := o_const 0 (o_ret1 rx_isI)
set_option maxRecDepth 20000 in
theorem wX13_getOf_8 (hZ : zO b e D A X) : rx_OK (zV b e D A X) mX13_getOf 173 8 vX13_getOf_8 := by
  unfold vX13_getOf_8
  refine s_iconst dX13_getOf_8 (by decide +kernel) ?_
  exact s_iret hZ.1 rfl dX13_getOf_9
noncomputable def vX13_getOf_0 : rx_K := o_ld rx_isR 0 (o_ld rx_isI 1 (o_callV 1 13 FX13_asks (o_c1 rx_eq vX13_getOf_8 vX13_getOf_10)))
set_option maxRecDepth 20000 in
theorem wX13_getOf_0 (hZ : zO b e D A X) : rx_OK (zV b e D A X) mX13_getOf 173 0 vX13_getOf_0 := by
  unfold vX13_getOf_0
  refine s_aload_n hZ.1 dX13_getOf_0 rfl ?_
  refine s_iload_n hZ.1 dX13_getOf_1 rfl ?_
  refine s_callV hZ.1 (Met_X13_asks hZ) (Nat.le_of_ble_eq_true rfl) vy_X13_asks zcl13 zw3868 zw364 (Or.inl zw3866) dX13_getOf_2 ?_
  exact s_if_ne dX13_getOf_5 (by decide) (wX13_getOf_10 hZ) (wX13_getOf_8 hZ)
noncomputable def FX13_getOf : List Nat → rx_H → Option (Nat × rx_H) := rx_ent 4 vX13_getOf_0
theorem Met_X13_getOf (hZ : zO b e D A X) : rx_Met (zV b e D A X) 173 yX13_getOf mX13_getOf (FX13_getOf) := rx_entry hZ.1 (wX13_getOf_0 hZ) (by decide +kernel) rfl (fun h => by cases h)
abbrev mX13_alongBridge : rx_M := (RX13, cX13_alongBridge, 6, (some .int), false)
theorem vy_X13_alongBridge : rx_Y (zV b e D A X) yX13_alongBridge mX13_alongBridge 3 := ⟨zw3913, zw431, by decide, by decide +kernel, by decide +kernel, by decide +kernel⟩
abbrev mX13_callBy : rx_M := (RX13, cX13_callBy, 9, (some .int), false)
theorem vy_X13_callBy : rx_Y (zV b e D A X) yX13_callBy mX13_callBy 3 := ⟨zw3917, zw431, by decide, by decide +kernel, by decide +kernel, by decide +kernel⟩
abbrev mX13_caught : rx_M := (RX13, cX13_caught, 6, none, false)
theorem vy_X13_caught : rx_Y (zV b e D A X) yX13_caught mX13_caught 4 := ⟨zw3929, zw431, by decide, by decide +kernel, by decide +kernel, by decide +kernel⟩
abbrev mX13_eval : rx_M := (RX13, cX13_eval, 8, (some .int), false)
theorem vy_X13_eval : rx_Y (zV b e D A X) yX13_eval mX13_eval 4 := ⟨zw3853, zw431, by decide, by decide +kernel, by decide +kernel, by decide +kernel⟩
abbrev mX13_evalArgs : rx_M := (RX13, cX13_evalArgs, 8, (some .int), false)
theorem vy_X13_evalArgs : rx_Y (zV b e D A X) yX13_evalArgs mX13_evalArgs 4 := ⟨zw3937, zw431, by decide, by decide +kernel, by decide +kernel, by decide +kernel⟩
abbrev mX13_evalCall : rx_M := (RX13, cX13_evalCall, 7, (some .int), false)
theorem vy_X13_evalCall : rx_Y (zV b e D A X) yX13_evalCall mX13_evalCall 4 := ⟨zw3901, zw431, by decide, by decide +kernel, by decide +kernel, by decide +kernel⟩
abbrev mX13_evalNew : rx_M := (RX13, cX13_evalNew, 5, (some .int), false)
theorem vy_X13_evalNew : rx_Y (zV b e D A X) yX13_evalNew mX13_evalNew 2 := ⟨zw3945, zw431, by decide, by decide +kernel, by decide +kernel, by decide +kernel⟩
abbrev mX13_evalNode : rx_M := (RX13, cX13_evalNode, 8, (some .int), false)
theorem vy_X13_evalNode : rx_Y (zV b e D A X) yX13_evalNode mX13_evalNode 6 := ⟨zw3861, zw431, by decide, by decide +kernel, by decide +kernel, by decide +kernel⟩
abbrev mX13_exec : rx_M := (RX13, cX13_exec, 7, none, false)
theorem vy_X13_exec : rx_Y (zV b e D A X) yX13_exec mX13_exec 4 := ⟨zw3925, zw431, by decide, by decide +kernel, by decide +kernel, by decide +kernel⟩
abbrev mX13_execOther : rx_M := (RX13, cX13_execOther, 6, none, false)
theorem vy_X13_execOther : rx_Y (zV b e D A X) yX13_execOther mX13_execOther 4 := ⟨zw3933, zw431, by decide, by decide +kernel, by decide +kernel, by decide +kernel⟩
abbrev mX13_execPut : rx_M := (RX13, cX13_execPut, 10, none, false)
theorem vy_X13_execPut : rx_Y (zV b e D A X) yX13_execPut mX13_execPut 4 := ⟨zw3941, zw431, by decide, by decide +kernel, by decide +kernel, by decide +kernel⟩
abbrev mX13_getStatic : rx_M := (RX13, cX13_getStatic, 3, (some .int), false)
theorem vy_X13_getStatic : rx_Y (zV b e D A X) yX13_getStatic mX13_getStatic 1 := ⟨zw3865, zw431, by decide, by decide +kernel, by decide +kernel, by decide +kernel⟩
abbrev mX13_invoke : rx_M := (RX13, cX13_invoke, 7, (some .int), false)
theorem vy_X13_invoke : rx_Y (zV b e D A X) yX13_invoke mX13_invoke 3 := ⟨zw3905, zw431, by decide, by decide +kernel, by decide +kernel, by decide +kernel⟩
abbrev mX13_runMaker : rx_M := (RX13, cX13_runMaker, 9, none, false)
theorem vy_X13_runMaker : rx_Y (zV b e D A X) yX13_runMaker mX13_runMaker 3 := ⟨zw3921, zw431, by decide, by decide +kernel, by decide +kernel, by decide +kernel⟩
abbrev mX13_start : rx_M := (RX13, cX13_start, 4, none, false)
theorem vy_X13_start : rx_Y (zV b e D A X) yX13_start mX13_start 1 := ⟨zw3817, zw431, by decide, by decide +kernel, by decide +kernel, by decide +kernel⟩
abbrev mX13_startFaces : rx_M := (RX13, cX13_startFaces, 6, none, false)
theorem vy_X13_startFaces : rx_Y (zV b e D A X) yX13_startFaces mX13_startFaces 1 := ⟨zw3837, zw431, by decide, by decide +kernel, by decide +kernel, by decide +kernel⟩
abbrev mX13_startSelf : rx_M := (RX13, cX13_startSelf, 6, none, false)
theorem vy_X13_startSelf : rx_Y (zV b e D A X) yX13_startSelf mX13_startSelf 1 := ⟨zw3849, zw431, by decide, by decide +kernel, by decide +kernel, by decide +kernel⟩
abbrev vl19 : List (MethodName × rx_M) := [(yX13_alongBridge, mX13_alongBridge), (yX13_callBy, mX13_callBy), (yX13_caught, mX13_caught), (yX13_eval, mX13_eval), (yX13_evalArgs, mX13_evalArgs), (yX13_evalCall, mX13_evalCall), (yX13_evalNew, mX13_evalNew), (yX13_evalNode, mX13_evalNode), (yX13_exec, mX13_exec), (yX13_execOther, mX13_execOther), (yX13_execPut, mX13_execPut), (yX13_getStatic, mX13_getStatic), (yX13_invoke, mX13_invoke), (yX13_runMaker, mX13_runMaker), (yX13_start, mX13_start), (yX13_startFaces, mX13_startFaces), (yX13_startSelf, mX13_startSelf)]
noncomputable def vX13_alongBridge_45 (g : Nat → List Nat → rx_H → Option (Nat × rx_H)) (j : Nat → rx_K) : rx_K := o_ld rx_isR 0 (o_ld rx_isI 4 (o_ld rx_isR 0 (o_getf 13 55 (o_ld rx_isI 1 (o_ald 0 (o_bi (fun x y => x + y) (o_putf rx_isI 13 155 (o_ld rx_isR 0 (o_ld rx_isR 0 (o_getf 13 67 (o_ld rx_isI 1 (o_ald 0 (o_ld rx_isI 2 (o_ld rx_isI 4 (o_callV 3 13 (g 1) (o_ret1 rx_isI))))))))))))))))
set_option maxRecDepth 20000 in
theorem wX13_alongBridge_45 {dn : Nat} {g : Nat → List Nat → rx_H → Option (Nat × rx_H)} (hZ : zO b e D A X) (hg : ∀ i y M, vl19[i]? = some (y, M) → rx_Met (zV b e D A X) dn y M (g i)) (hd : 333 ≤ dn) (j : Nat → rx_K) (hj : ∀ k pc, [9][k]? = some pc → rx_OK (zV b e D A X) mX13_alongBridge (dn + 1) pc (j k)) : rx_OK (zV b e D A X) mX13_alongBridge (dn + 1) 45 (vX13_alongBridge_45 g j) := by
  unfold vX13_alongBridge_45
  refine s_aload_n hZ.1 dX13_alongBridge_45 rfl ?_
  refine s_iload hZ.1 dX13_alongBridge_46 ?_
  refine s_aload_n hZ.1 dX13_alongBridge_48 rfl ?_
  refine yg13_55 dX13_alongBridge_49 zw4176 ?_
  refine s_iload_n hZ.1 dX13_alongBridge_52 rfl ?_
  refine s_iald (tt := 0) rfl dX13_alongBridge_53 ?_
  refine s_iadd dX13_alongBridge_54 ?_
  refine yp13_155 hZ.1 dX13_alongBridge_55 zw4275 ?_
  refine s_aload_n hZ.1 dX13_alongBridge_58 rfl ?_
  refine s_aload_n hZ.1 dX13_alongBridge_59 rfl ?_
  refine yg13_67 dX13_alongBridge_60 zw4188 ?_
  refine s_iload_n hZ.1 dX13_alongBridge_63 rfl ?_
  refine s_iald (tt := 0) rfl dX13_alongBridge_64 ?_
  refine s_iload_n hZ.1 dX13_alongBridge_65 rfl ?_
  refine s_iload hZ.1 dX13_alongBridge_66 ?_
  refine s_callV hZ.1 (hg 1 _ _ rfl) (Nat.le_refl _) vy_X13_callBy zcl13 zw3916 zw376 (Or.inl zw3914) dX13_alongBridge_68 ?_
  exact s_iret hZ.1 rfl dX13_alongBridge_71
noncomputable def vX13_alongBridge_20 (g : Nat → List Nat → rx_H → Option (Nat × rx_H)) (j : Nat → rx_K) : rx_K := o_ld rx_isR 0 (o_getf 13 154 (o_ld rx_isI 4 (o_ld rx_isI 5 (o_bi (fun x y => x + y) (o_ld rx_isR 0 (o_getf 13 154 (o_ld rx_isI 3 (o_ld rx_isI 5 (o_bi (fun x y => x + y) (o_ald 0 (o_ast 0 (fun v => v) rx_isI (o_inc 5 (1) ((j 0))))))))))))))
set_option maxRecDepth 20000 in
theorem wX13_alongBridge_20 {dn : Nat} {g : Nat → List Nat → rx_H → Option (Nat × rx_H)} (hZ : zO b e D A X) (hg : ∀ i y M, vl19[i]? = some (y, M) → rx_Met (zV b e D A X) dn y M (g i)) (hd : 333 ≤ dn) (j : Nat → rx_K) (hj : ∀ k pc, [9][k]? = some pc → rx_OK (zV b e D A X) mX13_alongBridge (dn + 1) pc (j k)) : rx_OK (zV b e D A X) mX13_alongBridge (dn + 1) 20 (vX13_alongBridge_20 g j) := by
  unfold vX13_alongBridge_20
  refine s_aload_n hZ.1 dX13_alongBridge_20 rfl ?_
  refine yg13_154 dX13_alongBridge_21 zw4274 ?_
  refine s_iload hZ.1 dX13_alongBridge_24 ?_
  refine s_iload hZ.1 dX13_alongBridge_26 ?_
  refine s_iadd dX13_alongBridge_28 ?_
  refine s_aload_n hZ.1 dX13_alongBridge_29 rfl ?_
  refine yg13_154 dX13_alongBridge_30 zw4274 ?_
  refine s_iload_n hZ.1 dX13_alongBridge_33 rfl ?_
  refine s_iload hZ.1 dX13_alongBridge_34 ?_
  refine s_iadd dX13_alongBridge_36 ?_
  refine s_iald (tt := 0) rfl dX13_alongBridge_37 ?_
  refine s_iast hZ.1 (tt := 0) rfl dX13_alongBridge_38 ?_
  refine s_iinc hZ.1 dX13_alongBridge_39 (Nat.le_of_ble_eq_true rfl) ?_
  exact s_goto dX13_alongBridge_42 (by decide) (hj 0 9 rfl)
noncomputable def vX13_alongBridge_9 (g : Nat → List Nat → rx_H → Option (Nat × rx_H)) (j : Nat → rx_K) : rx_K := o_ld rx_isI 5 (o_ld rx_isR 0 (o_getf 13 55 (o_ld rx_isI 1 (o_ald 0 (o_c2 rx_lt (vX13_alongBridge_20 g j) (vX13_alongBridge_45 g j))))))
set_option maxRecDepth 20000 in
theorem wX13_alongBridge_9 {dn : Nat} {g : Nat → List Nat → rx_H → Option (Nat × rx_H)} (hZ : zO b e D A X) (hg : ∀ i y M, vl19[i]? = some (y, M) → rx_Met (zV b e D A X) dn y M (g i)) (hd : 333 ≤ dn) (j : Nat → rx_K) (hj : ∀ k pc, [9][k]? = some pc → rx_OK (zV b e D A X) mX13_alongBridge (dn + 1) pc (j k)) : rx_OK (zV b e D A X) mX13_alongBridge (dn + 1) 9 (vX13_alongBridge_9 g j) := by
  unfold vX13_alongBridge_9
  refine s_iload hZ.1 dX13_alongBridge_9 ?_
  refine s_aload_n hZ.1 dX13_alongBridge_11 rfl ?_
  refine yg13_55 dX13_alongBridge_12 zw4176 ?_
  refine s_iload_n hZ.1 dX13_alongBridge_15 rfl ?_
  refine s_iald (tt := 0) rfl dX13_alongBridge_16 ?_
  exact s_icmp_ge dX13_alongBridge_17 (by decide) (wX13_alongBridge_45 hZ hg hd j hj) (wX13_alongBridge_20 hZ hg hd j hj)
noncomputable def vX13_alongBridge_0 (g : Nat → List Nat → rx_H → Option (Nat × rx_H)) (j : Nat → rx_K) : rx_K := o_ld rx_isR 0 (o_getf 13 155 (o_st rx_isI 4 (o_const 0 (o_st rx_isI 5 ((vX13_alongBridge_9 g j))))))
set_option maxRecDepth 20000 in
theorem wX13_alongBridge_0 {dn : Nat} {g : Nat → List Nat → rx_H → Option (Nat × rx_H)} (hZ : zO b e D A X) (hg : ∀ i y M, vl19[i]? = some (y, M) → rx_Met (zV b e D A X) dn y M (g i)) (hd : 333 ≤ dn) (j : Nat → rx_K) (hj : ∀ k pc, [9][k]? = some pc → rx_OK (zV b e D A X) mX13_alongBridge (dn + 1) pc (j k)) : rx_OK (zV b e D A X) mX13_alongBridge (dn + 1) 0 (vX13_alongBridge_0 g j) := by
  unfold vX13_alongBridge_0
  refine s_aload_n hZ.1 dX13_alongBridge_0 rfl ?_
  refine yg13_155 dX13_alongBridge_1 zw4275 ?_
  refine s_istore hZ.1 dX13_alongBridge_4 (Nat.le_of_ble_eq_true rfl) ?_
  refine s_iconst dX13_alongBridge_6 (by decide +kernel) ?_
  refine s_istore hZ.1 dX13_alongBridge_7 (Nat.le_of_ble_eq_true rfl) ?_
  exact (wX13_alongBridge_9 hZ hg hd j hj)
noncomputable def vhX13_alongBridge (g : Nat → List Nat → rx_H → Option (Nat × rx_H)) (j : Nat → rx_K) : List rx_K := [vX13_alongBridge_9 g j]
theorem vlX13_alongBridge {dn : Nat} {g : Nat → List Nat → rx_H → Option (Nat × rx_H)} (hZ : zO b e D A X) (hg : ∀ i y M, vl19[i]? = some (y, M) → rx_Met (zV b e D A X) dn y M (g i)) (hd : 333 ≤ dn) : ∀ n k pc, [9][k]? = some pc → rx_OK (zV b e D A X) mX13_alongBridge (dn + 1) pc (rx_J (vhX13_alongBridge g) n k) := rx_loop fun j hj k pc h => by
  match k, h with
  | 0, h =>
    have e9 := Option.some.inj (show some 9 = some pc from h)
    subst e9
    exact wX13_alongBridge_9 hZ hg hd j hj
  | _ + 1, h => exact absurd h (by simp)
noncomputable def FX13_alongBridge (g : Nat → List Nat → rx_H → Option (Nat × rx_H)) : List Nat → rx_H → Option (Nat × rx_H) := rx_ent 6 (vX13_alongBridge_0 g (rx_J (vhX13_alongBridge g) 4000000000))
theorem Met_X13_alongBridge {dn : Nat} {g : Nat → List Nat → rx_H → Option (Nat × rx_H)} (hZ : zO b e D A X) (hg : ∀ i y M, vl19[i]? = some (y, M) → rx_Met (zV b e D A X) dn y M (g i)) (hd : 333 ≤ dn) : rx_Met (zV b e D A X) (dn + 1) yX13_alongBridge mX13_alongBridge (FX13_alongBridge g) := rx_entry hZ.1 (wX13_alongBridge_0 hZ hg hd _ (vlX13_alongBridge hZ hg hd 4000000000)) (by decide +kernel) rfl (fun h => by cases h)
noncomputable def vX13_callBy_180 (g : Nat → List Nat → rx_H → Option (Nat × rx_H)) : rx_K := o_ld rx_isR 0 (o_ld rx_isI 8 (o_ld rx_isI 2 (o_ld rx_isI 3 (o_callV 3 13 (g 12) (o_ret1 rx_isI)))))
set_option maxRecDepth 20000 in
theorem wX13_callBy_180 {dn : Nat} {g : Nat → List Nat → rx_H → Option (Nat × rx_H)} (hZ : zO b e D A X) (hg : ∀ i y M, vl19[i]? = some (y, M) → rx_Met (zV b e D A X) dn y M (g i)) (hd : 333 ≤ dn) : rx_OK (zV b e D A X) mX13_callBy (dn + 1) 180 (vX13_callBy_180 g) := by
  unfold vX13_callBy_180
  refine s_aload_n hZ.1 dX13_callBy_180 rfl ?_
  refine s_iload hZ.1 dX13_callBy_181 ?_
  refine s_iload_n hZ.1 dX13_callBy_183 rfl ?_
  refine s_iload_n hZ.1 dX13_callBy_184 rfl ?_
  refine s_callV hZ.1 (hg 12 _ _ rfl) (Nat.le_refl _) vy_X13_invoke zcl13 zw3904 zw373 (Or.inl zw3902) dX13_callBy_185 ?_
  exact s_iret hZ.1 rfl dX13_callBy_188
noncomputable def vX13_callBy_174 (g : Nat → List Nat → rx_H → Option (Nat × rx_H)) : rx_K := o_ld rx_isR 0 (o_const 16 (o_callV 1 13 FX13_fail (o_ret1 rx_isI)))
set_option maxRecDepth 20000 in
theorem wX13_callBy_174 {dn : Nat} {g : Nat → List Nat → rx_H → Option (Nat × rx_H)} (hZ : zO b e D A X) (hg : ∀ i y M, vl19[i]? = some (y, M) → rx_Met (zV b e D A X) dn y M (g i)) (hd : 333 ≤ dn) : rx_OK (zV b e D A X) mX13_callBy (dn + 1) 174 (vX13_callBy_174 g) := by
  unfold vX13_callBy_174
  refine s_aload_n hZ.1 dX13_callBy_174 rfl ?_
  refine s_iconst dX13_callBy_175 (by decide +kernel) ?_
  refine s_callV hZ.1 (Met_X13_fail hZ) (Nat.succ_le_succ (Nat.le_trans (Nat.le_of_ble_eq_true rfl) hd)) vy_X13_fail zcl13 zw3820 zw352 (Or.inl zw3818) dX13_callBy_176 ?_
  exact s_iret hZ.1 rfl dX13_callBy_179
noncomputable def vX13_callBy_164 (g : Nat → List Nat → rx_H → Option (Nat × rx_H)) : rx_K := o_ld rx_isR 0 (o_getf 13 44 (o_ld rx_isI 8 (o_ald 0 (o_c1 rx_eq (vX13_callBy_180 g) (vX13_callBy_174 g)))))
set_option maxRecDepth 20000 in
theorem wX13_callBy_164 {dn : Nat} {g : Nat → List Nat → rx_H → Option (Nat × rx_H)} (hZ : zO b e D A X) (hg : ∀ i y M, vl19[i]? = some (y, M) → rx_Met (zV b e D A X) dn y M (g i)) (hd : 333 ≤ dn) : rx_OK (zV b e D A X) mX13_callBy (dn + 1) 164 (vX13_callBy_164 g) := by
  unfold vX13_callBy_164
  refine s_aload_n hZ.1 dX13_callBy_164 rfl ?_
  refine yg13_44 dX13_callBy_165 zw4165 ?_
  refine s_iload hZ.1 dX13_callBy_168 ?_
  refine s_iald (tt := 0) rfl dX13_callBy_170 ?_
  exact s_if_eq dX13_callBy_171 (by decide) (wX13_callBy_180 hZ hg hd) (wX13_callBy_174 hZ hg hd)
noncomputable def vX13_callBy_153 (g : Nat → List Nat → rx_H → Option (Nat × rx_H)) : rx_K := o_ld rx_isR 0 (o_getf 13 44 (o_ld rx_isI 8 (o_ald 0 (o_const 24 (o_c2 rx_eq (vX13_callBy_180 g) (vX13_callBy_164 g))))))
set_option maxRecDepth 20000 in
theorem wX13_callBy_153 {dn : Nat} {g : Nat → List Nat → rx_H → Option (Nat × rx_H)} (hZ : zO b e D A X) (hg : ∀ i y M, vl19[i]? = some (y, M) → rx_Met (zV b e D A X) dn y M (g i)) (hd : 333 ≤ dn) : rx_OK (zV b e D A X) mX13_callBy (dn + 1) 153 (vX13_callBy_153 g) := by
  unfold vX13_callBy_153
  refine s_aload_n hZ.1 dX13_callBy_153 rfl ?_
  refine yg13_44 dX13_callBy_154 zw4165 ?_
  refine s_iload hZ.1 dX13_callBy_157 ?_
  refine s_iald (tt := 0) rfl dX13_callBy_159 ?_
  refine s_iconst dX13_callBy_160 (by decide +kernel) ?_
  exact s_icmp_eq dX13_callBy_161 (by decide) (wX13_callBy_180 hZ hg hd) (wX13_callBy_164 hZ hg hd)
noncomputable def vX13_callBy_146 (g : Nat → List Nat → rx_H → Option (Nat × rx_H)) : rx_K := o_ld rx_isI 5 (o_const 64 (o_c2 rx_eq (vX13_callBy_153 g) (vX13_callBy_180 g)))
set_option maxRecDepth 20000 in
theorem wX13_callBy_146 {dn : Nat} {g : Nat → List Nat → rx_H → Option (Nat × rx_H)} (hZ : zO b e D A X) (hg : ∀ i y M, vl19[i]? = some (y, M) → rx_Met (zV b e D A X) dn y M (g i)) (hd : 333 ≤ dn) : rx_OK (zV b e D A X) mX13_callBy (dn + 1) 146 (vX13_callBy_146 g) := by
  unfold vX13_callBy_146
  refine s_iload hZ.1 dX13_callBy_146 ?_
  refine s_bipush dX13_callBy_148 (by decide +kernel) ?_
  exact s_icmp_ne dX13_callBy_150 (by decide) (wX13_callBy_180 hZ hg hd) (wX13_callBy_153 hZ hg hd)
noncomputable def vX13_callBy_138 (g : Nat → List Nat → rx_H → Option (Nat × rx_H)) : rx_K := o_ld rx_isR 0 (o_ld rx_isI 8 (o_ui (fun x => -x) (o_callV 1 13 FX13_fail (o_ret1 rx_isI))))
set_option maxRecDepth 20000 in
theorem wX13_callBy_138 {dn : Nat} {g : Nat → List Nat → rx_H → Option (Nat × rx_H)} (hZ : zO b e D A X) (hg : ∀ i y M, vl19[i]? = some (y, M) → rx_Met (zV b e D A X) dn y M (g i)) (hd : 333 ≤ dn) : rx_OK (zV b e D A X) mX13_callBy (dn + 1) 138 (vX13_callBy_138 g) := by
  unfold vX13_callBy_138
  refine s_aload_n hZ.1 dX13_callBy_138 rfl ?_
  refine s_iload hZ.1 dX13_callBy_139 ?_
  refine s_ineg dX13_callBy_141 ?_
  refine s_callV hZ.1 (Met_X13_fail hZ) (Nat.succ_le_succ (Nat.le_trans (Nat.le_of_ble_eq_true rfl) hd)) vy_X13_fail zcl13 zw3820 zw352 (Or.inl zw3818) dX13_callBy_142 ?_
  exact s_iret hZ.1 rfl dX13_callBy_145
noncomputable def vX13_callBy_123 (g : Nat → List Nat → rx_H → Option (Nat × rx_H)) : rx_K := o_ld rx_isR 0 (o_ld rx_isI 4 (o_ld rx_isI 6 (o_callV 2 13 FX13_selected (o_st rx_isI 8 (o_ld rx_isI 8 (o_c1 rx_lt (vX13_callBy_138 g) (vX13_callBy_146 g)))))))
set_option maxRecDepth 20000 in
theorem wX13_callBy_123 {dn : Nat} {g : Nat → List Nat → rx_H → Option (Nat × rx_H)} (hZ : zO b e D A X) (hg : ∀ i y M, vl19[i]? = some (y, M) → rx_Met (zV b e D A X) dn y M (g i)) (hd : 333 ≤ dn) : rx_OK (zV b e D A X) mX13_callBy (dn + 1) 123 (vX13_callBy_123 g) := by
  unfold vX13_callBy_123
  refine s_aload_n hZ.1 dX13_callBy_123 rfl ?_
  refine s_iload hZ.1 dX13_callBy_124 ?_
  refine s_iload hZ.1 dX13_callBy_126 ?_
  refine s_callV hZ.1 (Met_X13_selected hZ) (Nat.succ_le_succ (Nat.le_trans (Nat.le_of_ble_eq_true rfl) hd)) vy_X13_selected zcl13 zw3315 zw255 (Or.inl zw3313) dX13_callBy_128 ?_
  refine s_istore hZ.1 dX13_callBy_131 (Nat.le_of_ble_eq_true rfl) ?_
  refine s_iload hZ.1 dX13_callBy_133 ?_
  exact s_if_ge dX13_callBy_135 (by decide) (wX13_callBy_146 hZ hg hd) (wX13_callBy_138 hZ hg hd)
noncomputable def vX13_callBy_117 (g : Nat → List Nat → rx_H → Option (Nat × rx_H)) : rx_K := o_ld rx_isR 0 (o_const 24 (o_callV 1 13 FX13_fail (o_ret1 rx_isI)))
set_option maxRecDepth 20000 in
theorem wX13_callBy_117 {dn : Nat} {g : Nat → List Nat → rx_H → Option (Nat × rx_H)} (hZ : zO b e D A X) (hg : ∀ i y M, vl19[i]? = some (y, M) → rx_Met (zV b e D A X) dn y M (g i)) (hd : 333 ≤ dn) : rx_OK (zV b e D A X) mX13_callBy (dn + 1) 117 (vX13_callBy_117 g) := by
  unfold vX13_callBy_117
  refine s_aload_n hZ.1 dX13_callBy_117 rfl ?_
  refine s_iconst dX13_callBy_118 (by decide +kernel) ?_
  refine s_callV hZ.1 (Met_X13_fail hZ) (Nat.succ_le_succ (Nat.le_trans (Nat.le_of_ble_eq_true rfl) hd)) vy_X13_fail zcl13 zw3820 zw352 (Or.inl zw3818) dX13_callBy_119 ?_
  exact s_iret hZ.1 rfl dX13_callBy_122
noncomputable def vX13_callBy_106 (g : Nat → List Nat → rx_H → Option (Nat × rx_H)) : rx_K := o_ld rx_isR 0 (o_ld rx_isI 6 (o_ld rx_isI 7 (o_callV 2 13 FX13_isHeir (o_c1 rx_eq (vX13_callBy_117 g) (vX13_callBy_123 g)))))
set_option maxRecDepth 20000 in
theorem wX13_callBy_106 {dn : Nat} {g : Nat → List Nat → rx_H → Option (Nat × rx_H)} (hZ : zO b e D A X) (hg : ∀ i y M, vl19[i]? = some (y, M) → rx_Met (zV b e D A X) dn y M (g i)) (hd : 333 ≤ dn) : rx_OK (zV b e D A X) mX13_callBy (dn + 1) 106 (vX13_callBy_106 g) := by
  unfold vX13_callBy_106
  refine s_aload_n hZ.1 dX13_callBy_106 rfl ?_
  refine s_iload hZ.1 dX13_callBy_107 ?_
  refine s_iload hZ.1 dX13_callBy_109 ?_
  refine s_callV hZ.1 (Met_X13_isHeir hZ) (Nat.succ_le_succ (Nat.le_trans (Nat.le_of_ble_eq_true rfl) hd)) vy_X13_isHeir zcl13 zw3211 zw231 (Or.inl zw3209) dX13_callBy_111 ?_
  exact s_if_ne dX13_callBy_114 (by decide) (wX13_callBy_123 hZ hg hd) (wX13_callBy_117 hZ hg hd)
noncomputable def vX13_callBy_99 (g : Nat → List Nat → rx_H → Option (Nat × rx_H)) : rx_K := o_ld rx_isI 6 (o_ld rx_isI 7 (o_c2 rx_eq (vX13_callBy_123 g) (vX13_callBy_106 g)))
set_option maxRecDepth 20000 in
theorem wX13_callBy_99 {dn : Nat} {g : Nat → List Nat → rx_H → Option (Nat × rx_H)} (hZ : zO b e D A X) (hg : ∀ i y M, vl19[i]? = some (y, M) → rx_Met (zV b e D A X) dn y M (g i)) (hd : 333 ≤ dn) : rx_OK (zV b e D A X) mX13_callBy (dn + 1) 99 (vX13_callBy_99 g) := by
  unfold vX13_callBy_99
  refine s_iload hZ.1 dX13_callBy_99 ?_
  refine s_iload hZ.1 dX13_callBy_101 ?_
  exact s_icmp_eq dX13_callBy_103 (by decide) (wX13_callBy_123 hZ hg hd) (wX13_callBy_106 hZ hg hd)
noncomputable def vX13_callBy_72 (g : Nat → List Nat → rx_H → Option (Nat × rx_H)) : rx_K := o_ld rx_isR 0 (o_getf 13 149 (o_ld rx_isI 2 (o_ald 0 (o_st rx_isI 6 (o_ld rx_isR 0 (o_ld rx_isR 0 (o_getf 13 121 (o_ld rx_isI 1 (o_ald 1 (o_callV 1 13 FX13_find (o_st rx_isI 7 (o_ld rx_isI 5 (o_const 64 (o_c2 rx_eq (vX13_callBy_99 g) (vX13_callBy_123 g)))))))))))))))
set_option maxRecDepth 20000 in
theorem wX13_callBy_72 {dn : Nat} {g : Nat → List Nat → rx_H → Option (Nat × rx_H)} (hZ : zO b e D A X) (hg : ∀ i y M, vl19[i]? = some (y, M) → rx_Met (zV b e D A X) dn y M (g i)) (hd : 333 ≤ dn) : rx_OK (zV b e D A X) mX13_callBy (dn + 1) 72 (vX13_callBy_72 g) := by
  unfold vX13_callBy_72
  refine s_aload_n hZ.1 dX13_callBy_72 rfl ?_
  refine yg13_149 dX13_callBy_73 zw4269 ?_
  refine s_iload_n hZ.1 dX13_callBy_76 rfl ?_
  refine s_iald (tt := 0) rfl dX13_callBy_77 ?_
  refine s_istore hZ.1 dX13_callBy_78 (Nat.le_of_ble_eq_true rfl) ?_
  refine s_aload_n hZ.1 dX13_callBy_80 rfl ?_
  refine s_aload_n hZ.1 dX13_callBy_81 rfl ?_
  refine yg13_121 dX13_callBy_82 zw4241 ?_
  refine s_iload_n hZ.1 dX13_callBy_85 rfl ?_
  refine s_lald (tt := 1) rfl dX13_callBy_86 ?_
  refine s_callV hZ.1 (Met_X13_find hZ) (Nat.succ_le_succ (Nat.le_trans (Nat.le_of_ble_eq_true rfl) hd)) vy_X13_find zcl13 zw3186 zw226 (Or.inl zw3184) dX13_callBy_87 ?_
  refine s_istore hZ.1 dX13_callBy_90 (Nat.le_of_ble_eq_true rfl) ?_
  refine s_iload hZ.1 dX13_callBy_92 ?_
  refine s_bipush dX13_callBy_94 (by decide +kernel) ?_
  exact s_icmp_ne dX13_callBy_96 (by decide) (wX13_callBy_123 hZ hg hd) (wX13_callBy_99 hZ hg hd)
noncomputable def vX13_callBy_65 (g : Nat → List Nat → rx_H → Option (Nat × rx_H)) : rx_K := o_ld rx_isR 0 (o_const 104 (o_callV 1 13 FX13_fail (o_ret1 rx_isI)))
set_option maxRecDepth 20000 in
theorem wX13_callBy_65 {dn : Nat} {g : Nat → List Nat → rx_H → Option (Nat × rx_H)} (hZ : zO b e D A X) (hg : ∀ i y M, vl19[i]? = some (y, M) → rx_Met (zV b e D A X) dn y M (g i)) (hd : 333 ≤ dn) : rx_OK (zV b e D A X) mX13_callBy (dn + 1) 65 (vX13_callBy_65 g) := by
  unfold vX13_callBy_65
  refine s_aload_n hZ.1 dX13_callBy_65 rfl ?_
  refine s_bipush dX13_callBy_66 (by decide +kernel) ?_
  refine s_callV hZ.1 (Met_X13_fail hZ) (Nat.succ_le_succ (Nat.le_trans (Nat.le_of_ble_eq_true rfl) hd)) vy_X13_fail zcl13 zw3820 zw352 (Or.inl zw3818) dX13_callBy_68 ?_
  exact s_iret hZ.1 rfl dX13_callBy_71
noncomputable def vX13_callBy_61 (g : Nat → List Nat → rx_H → Option (Nat × rx_H)) : rx_K := o_ld rx_isI 2 (o_c1 rx_eq (vX13_callBy_65 g) (vX13_callBy_72 g))
set_option maxRecDepth 20000 in
theorem wX13_callBy_61 {dn : Nat} {g : Nat → List Nat → rx_H → Option (Nat × rx_H)} (hZ : zO b e D A X) (hg : ∀ i y M, vl19[i]? = some (y, M) → rx_Met (zV b e D A X) dn y M (g i)) (hd : 333 ≤ dn) : rx_OK (zV b e D A X) mX13_callBy (dn + 1) 61 (vX13_callBy_61 g) := by
  unfold vX13_callBy_61
  refine s_iload_n hZ.1 dX13_callBy_61 rfl ?_
  exact s_if_ne dX13_callBy_62 (by decide) (wX13_callBy_72 hZ hg hd) (wX13_callBy_65 hZ hg hd)
noncomputable def vX13_callBy_60 (g : Nat → List Nat → rx_H → Option (Nat × rx_H)) : rx_K := o_ret1 rx_isI
set_option maxRecDepth 20000 in
theorem wX13_callBy_60 {dn : Nat} {g : Nat → List Nat → rx_H → Option (Nat × rx_H)} (hZ : zO b e D A X) (hg : ∀ i y M, vl19[i]? = some (y, M) → rx_Met (zV b e D A X) dn y M (g i)) (hd : 333 ≤ dn) : rx_OK (zV b e D A X) mX13_callBy (dn + 1) 60 (vX13_callBy_60 g) := by
  unfold vX13_callBy_60
  exact s_iret hZ.1 rfl dX13_callBy_60
noncomputable def vX13_callBy_59 (g : Nat → List Nat → rx_H → Option (Nat × rx_H)) : rx_K := o_const 0 ((vX13_callBy_60 g))
set_option maxRecDepth 20000 in
theorem wX13_callBy_59 {dn : Nat} {g : Nat → List Nat → rx_H → Option (Nat × rx_H)} (hZ : zO b e D A X) (hg : ∀ i y M, vl19[i]? = some (y, M) → rx_Met (zV b e D A X) dn y M (g i)) (hd : 333 ≤ dn) : rx_OK (zV b e D A X) mX13_callBy (dn + 1) 59 (vX13_callBy_59 g) := by
  unfold vX13_callBy_59
  refine s_iconst dX13_callBy_59 (by decide +kernel) ?_
  exact (wX13_callBy_60 hZ hg hd)
noncomputable def vX13_callBy_48 (g : Nat → List Nat → rx_H → Option (Nat × rx_H)) : rx_K := o_ld rx_isR 0 (o_ld rx_isI 4 (o_const 0 (o_ld rx_isI 3 (o_callV 3 13 (g 12) ((vX13_callBy_60 g))))))
set_option maxRecDepth 20000 in
theorem wX13_callBy_48 {dn : Nat} {g : Nat → List Nat → rx_H → Option (Nat × rx_H)} (hZ : zO b e D A X) (hg : ∀ i y M, vl19[i]? = some (y, M) → rx_Met (zV b e D A X) dn y M (g i)) (hd : 333 ≤ dn) : rx_OK (zV b e D A X) mX13_callBy (dn + 1) 48 (vX13_callBy_48 g) := by
  unfold vX13_callBy_48
  refine s_aload_n hZ.1 dX13_callBy_48 rfl ?_
  refine s_iload hZ.1 dX13_callBy_49 ?_
  refine s_iconst dX13_callBy_51 (by decide +kernel) ?_
  refine s_iload_n hZ.1 dX13_callBy_52 rfl ?_
  refine s_callV hZ.1 (hg 12 _ _ rfl) (Nat.le_refl _) vy_X13_invoke zcl13 zw3904 zw373 (Or.inl zw3902) dX13_callBy_53 ?_
  exact s_goto dX13_callBy_56 (by decide) (wX13_callBy_60 hZ hg hd)
noncomputable def vX13_callBy_31 (g : Nat → List Nat → rx_H → Option (Nat × rx_H)) : rx_K := o_ld rx_isR 0 (o_ld rx_isR 0 (o_ld rx_isI 4 (o_callV 1 13 FX13_classOfMember (o_callV 1 13 (g 14) (o_ld rx_isR 0 (o_getf 13 164 (o_c1 rx_eq (vX13_callBy_48 g) (vX13_callBy_59 g))))))))
set_option maxRecDepth 20000 in
theorem wX13_callBy_31 {dn : Nat} {g : Nat → List Nat → rx_H → Option (Nat × rx_H)} (hZ : zO b e D A X) (hg : ∀ i y M, vl19[i]? = some (y, M) → rx_Met (zV b e D A X) dn y M (g i)) (hd : 333 ≤ dn) : rx_OK (zV b e D A X) mX13_callBy (dn + 1) 31 (vX13_callBy_31 g) := by
  unfold vX13_callBy_31
  refine s_aload_n hZ.1 dX13_callBy_31 rfl ?_
  refine s_aload_n hZ.1 dX13_callBy_32 rfl ?_
  refine s_iload hZ.1 dX13_callBy_33 ?_
  refine s_callV hZ.1 (Met_X13_classOfMember hZ) (Nat.succ_le_succ (Nat.le_trans (Nat.le_of_ble_eq_true rfl) hd)) vy_X13_classOfMember zcl13 zw3255 zw241 (Or.inl zw3253) dX13_callBy_35 ?_
  refine s_callV hZ.1 (hg 14 _ _ rfl) (Nat.le_refl _) vy_X13_start zcl13 zw3816 zw351 (Or.inl zw3814) dX13_callBy_38 ?_
  refine s_aload_n hZ.1 dX13_callBy_41 rfl ?_
  refine yg13_164 dX13_callBy_42 zw4284 ?_
  exact s_if_ne dX13_callBy_45 (by decide) (wX13_callBy_59 hZ hg hd) (wX13_callBy_48 hZ hg hd)
noncomputable def vX13_callBy_10 (g : Nat → List Nat → rx_H → Option (Nat × rx_H)) : rx_K := o_ld rx_isR 0 (o_getf 13 140 (o_st rx_isI 4 (o_ld rx_isR 0 (o_getf 13 119 (o_ld rx_isI 1 (o_ald 0 (o_st rx_isI 5 (o_ld rx_isI 5 (o_const 72 (o_c2 rx_lt (vX13_callBy_61 g) (vX13_callBy_31 g)))))))))))
set_option maxRecDepth 20000 in
theorem wX13_callBy_10 {dn : Nat} {g : Nat → List Nat → rx_H → Option (Nat × rx_H)} (hZ : zO b e D A X) (hg : ∀ i y M, vl19[i]? = some (y, M) → rx_Met (zV b e D A X) dn y M (g i)) (hd : 333 ≤ dn) : rx_OK (zV b e D A X) mX13_callBy (dn + 1) 10 (vX13_callBy_10 g) := by
  unfold vX13_callBy_10
  refine s_aload_n hZ.1 dX13_callBy_10 rfl ?_
  refine yg13_140 dX13_callBy_11 zw4260 ?_
  refine s_istore hZ.1 dX13_callBy_14 (Nat.le_of_ble_eq_true rfl) ?_
  refine s_aload_n hZ.1 dX13_callBy_16 rfl ?_
  refine yg13_119 dX13_callBy_17 zw4239 ?_
  refine s_iload_n hZ.1 dX13_callBy_20 rfl ?_
  refine s_iald (tt := 0) rfl dX13_callBy_21 ?_
  refine s_istore hZ.1 dX13_callBy_22 (Nat.le_of_ble_eq_true rfl) ?_
  refine s_iload hZ.1 dX13_callBy_24 ?_
  refine s_bipush dX13_callBy_26 (by decide +kernel) ?_
  exact s_icmp_lt dX13_callBy_28 (by decide) (wX13_callBy_61 hZ hg hd) (wX13_callBy_31 hZ hg hd)
noncomputable def vX13_callBy_8 (g : Nat → List Nat → rx_H → Option (Nat × rx_H)) : rx_K := o_const 0 (o_ret1 rx_isI)
set_option maxRecDepth 20000 in
theorem wX13_callBy_8 {dn : Nat} {g : Nat → List Nat → rx_H → Option (Nat × rx_H)} (hZ : zO b e D A X) (hg : ∀ i y M, vl19[i]? = some (y, M) → rx_Met (zV b e D A X) dn y M (g i)) (hd : 333 ≤ dn) : rx_OK (zV b e D A X) mX13_callBy (dn + 1) 8 (vX13_callBy_8 g) := by
  unfold vX13_callBy_8
  refine s_iconst dX13_callBy_8 (by decide +kernel) ?_
  exact s_iret hZ.1 rfl dX13_callBy_9
noncomputable def vX13_callBy_0 (g : Nat → List Nat → rx_H → Option (Nat × rx_H)) : rx_K := o_ld rx_isR 0 (o_ld rx_isI 1 (o_callV 1 13 FX13_asks (o_c1 rx_eq (vX13_callBy_8 g) (vX13_callBy_10 g))))
set_option maxRecDepth 20000 in
theorem wX13_callBy_0 {dn : Nat} {g : Nat → List Nat → rx_H → Option (Nat × rx_H)} (hZ : zO b e D A X) (hg : ∀ i y M, vl19[i]? = some (y, M) → rx_Met (zV b e D A X) dn y M (g i)) (hd : 333 ≤ dn) : rx_OK (zV b e D A X) mX13_callBy (dn + 1) 0 (vX13_callBy_0 g) := by
  unfold vX13_callBy_0
  refine s_aload_n hZ.1 dX13_callBy_0 rfl ?_
  refine s_iload_n hZ.1 dX13_callBy_1 rfl ?_
  refine s_callV hZ.1 (Met_X13_asks hZ) (Nat.succ_le_succ (Nat.le_trans (Nat.le_of_ble_eq_true rfl) hd)) vy_X13_asks zcl13 zw3868 zw364 (Or.inl zw3866) dX13_callBy_2 ?_
  exact s_if_ne dX13_callBy_5 (by decide) (wX13_callBy_10 hZ hg hd) (wX13_callBy_8 hZ hg hd)
noncomputable def FX13_callBy (g : Nat → List Nat → rx_H → Option (Nat × rx_H)) : List Nat → rx_H → Option (Nat × rx_H) := rx_ent 9 (vX13_callBy_0 g)
theorem Met_X13_callBy {dn : Nat} {g : Nat → List Nat → rx_H → Option (Nat × rx_H)} (hZ : zO b e D A X) (hg : ∀ i y M, vl19[i]? = some (y, M) → rx_Met (zV b e D A X) dn y M (g i)) (hd : 333 ≤ dn) : rx_Met (zV b e D A X) (dn + 1) yX13_callBy mX13_callBy (FX13_callBy g) := rx_entry hZ.1 (wX13_callBy_0 hZ hg hd) (by decide +kernel) rfl (fun h => by cases h)
noncomputable def vX13_caught_88 (g : Nat → List Nat → rx_H → Option (Nat × rx_H)) : rx_K := o_ret0
set_option maxRecDepth 20000 in
theorem wX13_caught_88 {dn : Nat} {g : Nat → List Nat → rx_H → Option (Nat × rx_H)} (hZ : zO b e D A X) (hg : ∀ i y M, vl19[i]? = some (y, M) → rx_Met (zV b e D A X) dn y M (g i)) (hd : 333 ≤ dn) : rx_OK (zV b e D A X) mX13_caught (dn + 1) 88 (vX13_caught_88 g) := by
  unfold vX13_caught_88
  exact s_vret rfl dX13_caught_88
noncomputable def vX13_caught_77 (g : Nat → List Nat → rx_H → Option (Nat × rx_H)) : rx_K := o_ld rx_isR 0 (o_ld rx_isI 5 (o_putf rx_isI 13 166 (o_ld rx_isR 0 (o_const 16 (o_putf rx_isI 13 164 ((vX13_caught_88 g)))))))
set_option maxRecDepth 20000 in
theorem wX13_caught_77 {dn : Nat} {g : Nat → List Nat → rx_H → Option (Nat × rx_H)} (hZ : zO b e D A X) (hg : ∀ i y M, vl19[i]? = some (y, M) → rx_Met (zV b e D A X) dn y M (g i)) (hd : 333 ≤ dn) : rx_OK (zV b e D A X) mX13_caught (dn + 1) 77 (vX13_caught_77 g) := by
  unfold vX13_caught_77
  refine s_aload_n hZ.1 dX13_caught_77 rfl ?_
  refine s_iload hZ.1 dX13_caught_78 ?_
  refine yp13_166 hZ.1 dX13_caught_80 zw4286 ?_
  refine s_aload_n hZ.1 dX13_caught_83 rfl ?_
  refine s_iconst dX13_caught_84 (by decide +kernel) ?_
  refine yp13_164 hZ.1 dX13_caught_85 zw4284 ?_
  exact (wX13_caught_88 hZ hg hd)
noncomputable def vX13_caught_44 (g : Nat → List Nat → rx_H → Option (Nat × rx_H)) : rx_K := o_ld rx_isR 0 (o_getf 13 154 (o_ld rx_isI 4 (o_ld rx_isR 0 (o_getf 13 82 (o_ld rx_isI 1 (o_ald 0 (o_bi (fun x y => x + y) (o_ld rx_isI 5 (o_ast 0 (fun v => v) rx_isI (o_ld rx_isR 0 (o_ld rx_isR 0 (o_getf 13 78 (o_ld rx_isI 1 (o_ald 0 (o_ld rx_isI 2 (o_ld rx_isI 3 (o_ld rx_isI 4 (o_callV 4 13 (g 8) ((vX13_caught_88 g))))))))))))))))))))
set_option maxRecDepth 20000 in
theorem wX13_caught_44 {dn : Nat} {g : Nat → List Nat → rx_H → Option (Nat × rx_H)} (hZ : zO b e D A X) (hg : ∀ i y M, vl19[i]? = some (y, M) → rx_Met (zV b e D A X) dn y M (g i)) (hd : 333 ≤ dn) : rx_OK (zV b e D A X) mX13_caught (dn + 1) 44 (vX13_caught_44 g) := by
  unfold vX13_caught_44
  refine s_aload_n hZ.1 dX13_caught_44 rfl ?_
  refine yg13_154 dX13_caught_45 zw4274 ?_
  refine s_iload hZ.1 dX13_caught_48 ?_
  refine s_aload_n hZ.1 dX13_caught_50 rfl ?_
  refine yg13_82 dX13_caught_51 zw4203 ?_
  refine s_iload_n hZ.1 dX13_caught_54 rfl ?_
  refine s_iald (tt := 0) rfl dX13_caught_55 ?_
  refine s_iadd dX13_caught_56 ?_
  refine s_iload hZ.1 dX13_caught_57 ?_
  refine s_iast hZ.1 (tt := 0) rfl dX13_caught_59 ?_
  refine s_aload_n hZ.1 dX13_caught_60 rfl ?_
  refine s_aload_n hZ.1 dX13_caught_61 rfl ?_
  refine yg13_78 dX13_caught_62 zw4199 ?_
  refine s_iload_n hZ.1 dX13_caught_65 rfl ?_
  refine s_iald (tt := 0) rfl dX13_caught_66 ?_
  refine s_iload_n hZ.1 dX13_caught_67 rfl ?_
  refine s_iload_n hZ.1 dX13_caught_68 rfl ?_
  refine s_iload hZ.1 dX13_caught_69 ?_
  refine s_callV hZ.1 (hg 8 _ _ rfl) (Nat.le_refl _) vy_X13_exec zcl13 zw3924 zw378 (Or.inl zw3922) dX13_caught_71 ?_
  exact s_goto dX13_caught_74 (by decide) (wX13_caught_88 hZ hg hd)
noncomputable def vX13_caught_25 (g : Nat → List Nat → rx_H → Option (Nat × rx_H)) : rx_K := o_ld rx_isR 0 (o_ld rx_isI 5 (o_ld rx_isR 0 (o_ld rx_isR 0 (o_getf 13 75 (o_ld rx_isI 1 (o_ald 1 (o_callV 1 13 FX13_find (o_callV 2 13 FX13_isMade (o_c1 rx_eq (vX13_caught_77 g) (vX13_caught_44 g))))))))))
set_option maxRecDepth 20000 in
theorem wX13_caught_25 {dn : Nat} {g : Nat → List Nat → rx_H → Option (Nat × rx_H)} (hZ : zO b e D A X) (hg : ∀ i y M, vl19[i]? = some (y, M) → rx_Met (zV b e D A X) dn y M (g i)) (hd : 333 ≤ dn) : rx_OK (zV b e D A X) mX13_caught (dn + 1) 25 (vX13_caught_25 g) := by
  unfold vX13_caught_25
  refine s_aload_n hZ.1 dX13_caught_25 rfl ?_
  refine s_iload hZ.1 dX13_caught_26 ?_
  refine s_aload_n hZ.1 dX13_caught_28 rfl ?_
  refine s_aload_n hZ.1 dX13_caught_29 rfl ?_
  refine yg13_75 dX13_caught_30 zw4196 ?_
  refine s_iload_n hZ.1 dX13_caught_33 rfl ?_
  refine s_lald (tt := 1) rfl dX13_caught_34 ?_
  refine s_callV hZ.1 (Met_X13_find hZ) (Nat.succ_le_succ (Nat.le_trans (Nat.le_of_ble_eq_true rfl) hd)) vy_X13_find zcl13 zw3186 zw226 (Or.inl zw3184) dX13_caught_35 ?_
  refine s_callV hZ.1 (Met_X13_isMade hZ) (Nat.succ_le_succ (Nat.le_trans (Nat.le_of_ble_eq_true rfl) hd)) vy_X13_isMade zcl13 zw3888 zw369 (Or.inl zw3886) dX13_caught_38 ?_
  exact s_if_eq dX13_caught_41 (by decide) (wX13_caught_77 hZ hg hd) (wX13_caught_44 hZ hg hd)
noncomputable def vX13_caught_24 (g : Nat → List Nat → rx_H → Option (Nat × rx_H)) : rx_K := o_ret0
set_option maxRecDepth 20000 in
theorem wX13_caught_24 {dn : Nat} {g : Nat → List Nat → rx_H → Option (Nat × rx_H)} (hZ : zO b e D A X) (hg : ∀ i y M, vl19[i]? = some (y, M) → rx_Met (zV b e D A X) dn y M (g i)) (hd : 333 ≤ dn) : rx_OK (zV b e D A X) mX13_caught (dn + 1) 24 (vX13_caught_24 g) := by
  unfold vX13_caught_24
  exact s_vret rfl dX13_caught_24
noncomputable def vX13_caught_0 (g : Nat → List Nat → rx_H → Option (Nat × rx_H)) : rx_K := o_ld rx_isR 0 (o_getf 13 166 (o_st rx_isI 5 (o_ld rx_isR 0 (o_const 0 (o_putf rx_isI 13 164 (o_ld rx_isR 0 (o_ld rx_isR 0 (o_getf 13 87 (o_ld rx_isI 1 (o_ald 0 (o_callV 1 13 FX13_asks (o_c1 rx_eq (vX13_caught_24 g) (vX13_caught_25 g)))))))))))))
set_option maxRecDepth 20000 in
theorem wX13_caught_0 {dn : Nat} {g : Nat → List Nat → rx_H → Option (Nat × rx_H)} (hZ : zO b e D A X) (hg : ∀ i y M, vl19[i]? = some (y, M) → rx_Met (zV b e D A X) dn y M (g i)) (hd : 333 ≤ dn) : rx_OK (zV b e D A X) mX13_caught (dn + 1) 0 (vX13_caught_0 g) := by
  unfold vX13_caught_0
  refine s_aload_n hZ.1 dX13_caught_0 rfl ?_
  refine yg13_166 dX13_caught_1 zw4286 ?_
  refine s_istore hZ.1 dX13_caught_4 (Nat.le_of_ble_eq_true rfl) ?_
  refine s_aload_n hZ.1 dX13_caught_6 rfl ?_
  refine s_iconst dX13_caught_7 (by decide +kernel) ?_
  refine yp13_164 hZ.1 dX13_caught_8 zw4284 ?_
  refine s_aload_n hZ.1 dX13_caught_11 rfl ?_
  refine s_aload_n hZ.1 dX13_caught_12 rfl ?_
  refine yg13_87 dX13_caught_13 zw4208 ?_
  refine s_iload_n hZ.1 dX13_caught_16 rfl ?_
  refine s_iald (tt := 0) rfl dX13_caught_17 ?_
  refine s_callV hZ.1 (Met_X13_asks hZ) (Nat.succ_le_succ (Nat.le_trans (Nat.le_of_ble_eq_true rfl) hd)) vy_X13_asks zcl13 zw3868 zw364 (Or.inl zw3866) dX13_caught_18 ?_
  exact s_if_ne dX13_caught_21 (by decide) (wX13_caught_25 hZ hg hd) (wX13_caught_24 hZ hg hd)
noncomputable def FX13_caught (g : Nat → List Nat → rx_H → Option (Nat × rx_H)) : List Nat → rx_H → Option (Nat × rx_H) := rx_ent 6 (vX13_caught_0 g)
theorem Met_X13_caught {dn : Nat} {g : Nat → List Nat → rx_H → Option (Nat × rx_H)} (hZ : zO b e D A X) (hg : ∀ i y M, vl19[i]? = some (y, M) → rx_Met (zV b e D A X) dn y M (g i)) (hd : 333 ≤ dn) : rx_Met (zV b e D A X) (dn + 1) yX13_caught mX13_caught (FX13_caught g) := rx_entry hZ.1 (wX13_caught_0 hZ hg hd) (by decide +kernel) rfl (fun h => by cases h)
end ZM63

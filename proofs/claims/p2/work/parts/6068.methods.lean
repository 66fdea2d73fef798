section ZM68
variable {b : Nat} {e : Nat → Value} {D : va_G} {A : Nat → ClassId} {X : State → Prop}
abbrev mX13_fieldOf : rx_M := (RX13, cX13_fieldOf, 4, (some .int), false)
theorem vy_X13_fieldOf : rx_Y (zV b e D A X) yX13_fieldOf mX13_fieldOf 2 := ⟨zw3985, zw431, by decide, by decide +kernel, by decide +kernel, by decide +kernel⟩
noncomputable def vX13_fieldOf_63 : rx_K := o_ret1 rx_isI
set_option maxRecDepth 20000 in
theorem wX13_fieldOf_63 (hZ : zO b e D A X) : rx_OK (zV b e D A X) mX13_fieldOf 0 63 vX13_fieldOf_63 := by
  unfold vX13_fieldOf_63
  exact s_iret hZ.1 rfl dX13_fieldOf_63
noncomputable def vX13_fieldOf_62 : rx_K := o_const 0 (vX13_fieldOf_63)
set_option maxRecDepth 20000 in
theorem wX13_fieldOf_62 (hZ : zO b e D A X) : rx_OK (zV b e D A X) mX13_fieldOf 0 62 vX13_fieldOf_62 := by
  unfold vX13_fieldOf_62
  refine s_iconst dX13_fieldOf_62 (by decide +kernel) ?_
  exact (wX13_fieldOf_63 hZ)
noncomputable def vX13_fieldOf_46 : rx_K := o_ld rx_isR 0 (o_getf 13 152 (o_ld rx_isR 0 (o_getf 13 150 (o_ld rx_isI 1 (o_ald 0 (o_ld rx_isI 2 (o_bi (fun x y => x + y) (o_ald 0 (vX13_fieldOf_63)))))))))
set_option maxRecDepth 20000 in
theorem wX13_fieldOf_46 (hZ : zO b e D A X) : rx_OK (zV b e D A X) mX13_fieldOf 0 46 vX13_fieldOf_46 := by
  unfold vX13_fieldOf_46
  refine s_aload_n hZ.1 dX13_fieldOf_46 rfl ?_
  refine yg13_152 dX13_fieldOf_47 zw4272 ?_
  refine s_aload_n hZ.1 dX13_fieldOf_50 rfl ?_
  refine yg13_150 dX13_fieldOf_51 zw4270 ?_
  refine s_iload_n hZ.1 dX13_fieldOf_54 rfl ?_
  refine s_iald (tt := 0) rfl dX13_fieldOf_55 ?_
  refine s_iload_n hZ.1 dX13_fieldOf_56 rfl ?_
  refine s_iadd dX13_fieldOf_57 ?_
  refine s_iald (tt := 0) rfl dX13_fieldOf_58 ?_
  exact s_goto dX13_fieldOf_59 (by decide) (wX13_fieldOf_63 hZ)
noncomputable def vX13_fieldOf_41 : rx_K := o_st rx_isI 3 (o_ld rx_isI 3 (o_c1 rx_eq vX13_fieldOf_62 vX13_fieldOf_46))
set_option maxRecDepth 20000 in
theorem wX13_fieldOf_41 (hZ : zO b e D A X) : rx_OK (zV b e D A X) mX13_fieldOf 0 41 vX13_fieldOf_41 := by
  unfold vX13_fieldOf_41
  refine s_istore_n hZ.1 dX13_fieldOf_41 rfl (Nat.le_of_ble_eq_true rfl) ?_
  refine s_iload_n hZ.1 dX13_fieldOf_42 rfl ?_
  exact s_if_eq dX13_fieldOf_43 (by decide) (wX13_fieldOf_62 hZ) (wX13_fieldOf_46 hZ)
noncomputable def vX13_fieldOf_40 : rx_K := o_const 0 (vX13_fieldOf_41)
set_option maxRecDepth 20000 in
theorem wX13_fieldOf_40 (hZ : zO b e D A X) : rx_OK (zV b e D A X) mX13_fieldOf 0 40 vX13_fieldOf_40 := by
  unfold vX13_fieldOf_40
  refine s_iconst dX13_fieldOf_40 (by decide +kernel) ?_
  exact (wX13_fieldOf_41 hZ)
noncomputable def vX13_fieldOf_36 : rx_K := o_const 8 (vX13_fieldOf_41)
set_option maxRecDepth 20000 in
theorem wX13_fieldOf_36 (hZ : zO b e D A X) : rx_OK (zV b e D A X) mX13_fieldOf 0 36 vX13_fieldOf_36 := by
  unfold vX13_fieldOf_36
  refine s_iconst dX13_fieldOf_36 (by decide +kernel) ?_
  exact s_goto dX13_fieldOf_37 (by decide) (wX13_fieldOf_41 hZ)
noncomputable def vX13_fieldOf_17 : rx_K := o_ld rx_isI 2 (o_ld rx_isR 0 (o_getf 13 150 (o_ld rx_isI 1 (o_const 8 (o_bi (fun x y => x + y) (o_ald 0 (o_ld rx_isR 0 (o_getf 13 150 (o_ld rx_isI 1 (o_ald 0 (o_bi (fun x y => x - y) (o_c2 rx_lt vX13_fieldOf_36 vX13_fieldOf_40))))))))))))
set_option maxRecDepth 20000 in
theorem wX13_fieldOf_17 (hZ : zO b e D A X) : rx_OK (zV b e D A X) mX13_fieldOf 0 17 vX13_fieldOf_17 := by
  unfold vX13_fieldOf_17
  refine s_iload_n hZ.1 dX13_fieldOf_17 rfl ?_
  refine s_aload_n hZ.1 dX13_fieldOf_18 rfl ?_
  refine yg13_150 dX13_fieldOf_19 zw4270 ?_
  refine s_iload_n hZ.1 dX13_fieldOf_22 rfl ?_
  refine s_iconst dX13_fieldOf_23 (by decide +kernel) ?_
  refine s_iadd dX13_fieldOf_24 ?_
  refine s_iald (tt := 0) rfl dX13_fieldOf_25 ?_
  refine s_aload_n hZ.1 dX13_fieldOf_26 rfl ?_
  refine yg13_150 dX13_fieldOf_27 zw4270 ?_
  refine s_iload_n hZ.1 dX13_fieldOf_30 rfl ?_
  refine s_iald (tt := 0) rfl dX13_fieldOf_31 ?_
  refine s_isub dX13_fieldOf_32 ?_
  exact s_icmp_ge dX13_fieldOf_33 (by decide) (wX13_fieldOf_40 hZ) (wX13_fieldOf_36 hZ)
noncomputable def vX13_fieldOf_13 : rx_K := o_ld rx_isI 2 (o_c1 rx_lt vX13_fieldOf_40 vX13_fieldOf_17)
set_option maxRecDepth 20000 in
theorem wX13_fieldOf_13 (hZ : zO b e D A X) : rx_OK (zV b e D A X) mX13_fieldOf 0 13 vX13_fieldOf_13 := by
  unfold vX13_fieldOf_13
  refine s_iload_n hZ.1 dX13_fieldOf_13 rfl ?_
  exact s_if_lt dX13_fieldOf_14 (by decide) (wX13_fieldOf_40 hZ) (wX13_fieldOf_17 hZ)
noncomputable def vX13_fieldOf_5 : rx_K := o_ld rx_isI 1 (o_ld rx_isR 0 (o_getf 13 151 (o_c2 (fun h x y => rx_lt h y x) vX13_fieldOf_40 vX13_fieldOf_13)))
set_option maxRecDepth 20000 in
theorem wX13_fieldOf_5 (hZ : zO b e D A X) : rx_OK (zV b e D A X) mX13_fieldOf 0 5 vX13_fieldOf_5 := by
  unfold vX13_fieldOf_5
  refine s_iload_n hZ.1 dX13_fieldOf_5 rfl ?_
  refine s_aload_n hZ.1 dX13_fieldOf_6 rfl ?_
  refine yg13_151 dX13_fieldOf_7 zw4271 ?_
  exact s_icmp_gt dX13_fieldOf_10 (by decide) (wX13_fieldOf_40 hZ) (wX13_fieldOf_13 hZ)
noncomputable def vX13_fieldOf_0 : rx_K := o_ld rx_isI 1 (o_const 8 (o_c2 rx_lt vX13_fieldOf_40 vX13_fieldOf_5))
set_option maxRecDepth 20000 in
theorem wX13_fieldOf_0 (hZ : zO b e D A X) : rx_OK (zV b e D A X) mX13_fieldOf 0 0 vX13_fieldOf_0 := by
  unfold vX13_fieldOf_0
  refine s_iload_n hZ.1 dX13_fieldOf_0 rfl ?_
  refine s_iconst dX13_fieldOf_1 (by decide +kernel) ?_
  exact s_icmp_lt dX13_fieldOf_2 (by decide) (wX13_fieldOf_40 hZ) (wX13_fieldOf_5 hZ)
noncomputable def FX13_fieldOf : List Nat → rx_H → Option (Nat × rx_H) := rx_ent 4 vX13_fieldOf_0
theorem Met_X13_fieldOf (hZ : zO b e D A X) : rx_Met (zV b e D A X) 0 yX13_fieldOf mX13_fieldOf (FX13_fieldOf) := rx_entry hZ.1 (wX13_fieldOf_0 hZ) (by decide +kernel) rfl (fun h => by cases h)
abbrev mX13_toldPlace : rx_M := (RX13, cX13_toldPlace, 5, (some .int), false)
theorem vy_X13_toldPlace : rx_Y (zV b e D A X) yX13_toldPlace mX13_toldPlace 1 := ⟨zw4001, zw431, by decide, by decide +kernel, by decide +kernel, by decide +kernel⟩
noncomputable def vX13_toldPlace_54 (j : Nat → rx_K) : rx_K := o_ld rx_isI 3 (o_ret1 rx_isI)
set_option maxRecDepth 20000 in
theorem wX13_toldPlace_54 (hZ : zO b e D A X) (j : Nat → rx_K) (hj : ∀ k pc, [23][k]? = some pc → rx_OK (zV b e D A X) mX13_toldPlace 1 pc (j k)) : rx_OK (zV b e D A X) mX13_toldPlace 1 54 (vX13_toldPlace_54 j) := by
  unfold vX13_toldPlace_54
  refine s_iload_n hZ.1 dX13_toldPlace_54 rfl ?_
  exact s_iret hZ.1 rfl dX13_toldPlace_55
noncomputable def vX13_toldPlace_46 (j : Nat → rx_K) : rx_K := o_bi (fun x y => x + y) (o_st rx_isI 3 (o_inc 4 (1) ((j 0))))
set_option maxRecDepth 20000 in
theorem wX13_toldPlace_46 (hZ : zO b e D A X) (j : Nat → rx_K) (hj : ∀ k pc, [23][k]? = some pc → rx_OK (zV b e D A X) mX13_toldPlace 1 pc (j k)) : rx_OK (zV b e D A X) mX13_toldPlace 1 46 (vX13_toldPlace_46 j) := by
  unfold vX13_toldPlace_46
  refine s_iadd dX13_toldPlace_46 ?_
  refine s_istore_n hZ.1 dX13_toldPlace_47 rfl (Nat.le_of_ble_eq_true rfl) ?_
  refine s_iinc hZ.1 dX13_toldPlace_48 (Nat.le_of_ble_eq_true rfl) ?_
  exact s_goto dX13_toldPlace_51 (by decide) (hj 0 23 rfl)
noncomputable def vX13_toldPlace_45 (j : Nat → rx_K) : rx_K := o_const 8 ((vX13_toldPlace_46 j))
set_option maxRecDepth 20000 in
theorem wX13_toldPlace_45 (hZ : zO b e D A X) (j : Nat → rx_K) (hj : ∀ k pc, [23][k]? = some pc → rx_OK (zV b e D A X) mX13_toldPlace 1 pc (j k)) : rx_OK (zV b e D A X) mX13_toldPlace 1 45 (vX13_toldPlace_45 j) := by
  unfold vX13_toldPlace_45
  refine s_iconst dX13_toldPlace_45 (by decide +kernel) ?_
  exact (wX13_toldPlace_46 hZ j hj)
noncomputable def vX13_toldPlace_41 (j : Nat → rx_K) : rx_K := o_const 0 ((vX13_toldPlace_46 j))
set_option maxRecDepth 20000 in
theorem wX13_toldPlace_41 (hZ : zO b e D A X) (j : Nat → rx_K) (hj : ∀ k pc, [23][k]? = some pc → rx_OK (zV b e D A X) mX13_toldPlace 1 pc (j k)) : rx_OK (zV b e D A X) mX13_toldPlace 1 41 (vX13_toldPlace_41 j) := by
  unfold vX13_toldPlace_41
  refine s_iconst dX13_toldPlace_41 (by decide +kernel) ?_
  exact s_goto dX13_toldPlace_42 (by decide) (wX13_toldPlace_46 hZ j hj)
noncomputable def vX13_toldPlace_29 (j : Nat → rx_K) : rx_K := o_ld rx_isI 3 (o_ld rx_isR 0 (o_getf 13 42 (o_ld rx_isI 4 (o_ald 0 (o_const 24 (o_c2 rx_eq (vX13_toldPlace_41 j) (vX13_toldPlace_45 j)))))))
set_option maxRecDepth 20000 in
theorem wX13_toldPlace_29 (hZ : zO b e D A X) (j : Nat → rx_K) (hj : ∀ k pc, [23][k]? = some pc → rx_OK (zV b e D A X) mX13_toldPlace 1 pc (j k)) : rx_OK (zV b e D A X) mX13_toldPlace 1 29 (vX13_toldPlace_29 j) := by
  unfold vX13_toldPlace_29
  refine s_iload_n hZ.1 dX13_toldPlace_29 rfl ?_
  refine s_aload_n hZ.1 dX13_toldPlace_30 rfl ?_
  refine yg13_42 dX13_toldPlace_31 zw4163 ?_
  refine s_iload hZ.1 dX13_toldPlace_34 ?_
  refine s_iald (tt := 0) rfl dX13_toldPlace_36 ?_
  refine s_iconst dX13_toldPlace_37 (by decide +kernel) ?_
  exact s_icmp_ne dX13_toldPlace_38 (by decide) (wX13_toldPlace_45 hZ j hj) (wX13_toldPlace_41 hZ j hj)
noncomputable def vX13_toldPlace_23 (j : Nat → rx_K) : rx_K := o_ld rx_isI 4 (o_ld rx_isI 1 (o_c2 rx_lt (vX13_toldPlace_29 j) (vX13_toldPlace_54 j)))
set_option maxRecDepth 20000 in
theorem wX13_toldPlace_23 (hZ : zO b e D A X) (j : Nat → rx_K) (hj : ∀ k pc, [23][k]? = some pc → rx_OK (zV b e D A X) mX13_toldPlace 1 pc (j k)) : rx_OK (zV b e D A X) mX13_toldPlace 1 23 (vX13_toldPlace_23 j) := by
  unfold vX13_toldPlace_23
  refine s_iload hZ.1 dX13_toldPlace_23 ?_
  refine s_iload_n hZ.1 dX13_toldPlace_25 rfl ?_
  exact s_icmp_ge dX13_toldPlace_26 (by decide) (wX13_toldPlace_54 hZ j hj) (wX13_toldPlace_29 hZ j hj)
noncomputable def vX13_toldPlace_9 (j : Nat → rx_K) : rx_K := o_ld rx_isR 0 (o_ld rx_isI 1 (o_callV 1 13 FX13_classOfMember (o_st rx_isI 2 (o_const 0 (o_st rx_isI 3 (o_ld rx_isI 2 (o_const 272 (o_bi (fun x y => x * y) (o_st rx_isI 4 ((vX13_toldPlace_23 j)))))))))))
set_option maxRecDepth 20000 in
theorem wX13_toldPlace_9 (hZ : zO b e D A X) (j : Nat → rx_K) (hj : ∀ k pc, [23][k]? = some pc → rx_OK (zV b e D A X) mX13_toldPlace 1 pc (j k)) : rx_OK (zV b e D A X) mX13_toldPlace 1 9 (vX13_toldPlace_9 j) := by
  unfold vX13_toldPlace_9
  refine s_aload_n hZ.1 dX13_toldPlace_9 rfl ?_
  refine s_iload_n hZ.1 dX13_toldPlace_10 rfl ?_
  refine s_callV hZ.1 (Met_X13_classOfMember hZ) (Nat.le_of_ble_eq_true rfl) vy_X13_classOfMember zcl13 zw3255 zw241 (Or.inl zw3253) dX13_toldPlace_11 ?_
  refine s_istore_n hZ.1 dX13_toldPlace_14 rfl (Nat.le_of_ble_eq_true rfl) ?_
  refine s_iconst dX13_toldPlace_15 (by decide +kernel) ?_
  refine s_istore_n hZ.1 dX13_toldPlace_16 rfl (Nat.le_of_ble_eq_true rfl) ?_
  refine s_iload_n hZ.1 dX13_toldPlace_17 rfl ?_
  refine s_bipush dX13_toldPlace_18 (by decide +kernel) ?_
  refine s_imul dX13_toldPlace_20 ?_
  refine s_istore hZ.1 dX13_toldPlace_21 (Nat.le_of_ble_eq_true rfl) ?_
  exact (wX13_toldPlace_23 hZ j hj)
noncomputable def vX13_toldPlace_6 (j : Nat → rx_K) : rx_K := o_const 34359738352 (o_ret1 rx_isI)
set_option maxRecDepth 20000 in
theorem wX13_toldPlace_6 (hZ : zO b e D A X) (j : Nat → rx_K) (hj : ∀ k pc, [23][k]? = some pc → rx_OK (zV b e D A X) mX13_toldPlace 1 pc (j k)) : rx_OK (zV b e D A X) mX13_toldPlace 1 6 (vX13_toldPlace_6 j) := by
  unfold vX13_toldPlace_6
  refine s_bipush dX13_toldPlace_6 (by decide +kernel) ?_
  exact s_iret hZ.1 rfl dX13_toldPlace_8
noncomputable def vX13_toldPlace_0 (j : Nat → rx_K) : rx_K := o_ld rx_isI 1 (o_const 34359738352 (o_c2 rx_eq (vX13_toldPlace_6 j) (vX13_toldPlace_9 j)))
set_option maxRecDepth 20000 in
theorem wX13_toldPlace_0 (hZ : zO b e D A X) (j : Nat → rx_K) (hj : ∀ k pc, [23][k]? = some pc → rx_OK (zV b e D A X) mX13_toldPlace 1 pc (j k)) : rx_OK (zV b e D A X) mX13_toldPlace 1 0 (vX13_toldPlace_0 j) := by
  unfold vX13_toldPlace_0
  refine s_iload_n hZ.1 dX13_toldPlace_0 rfl ?_
  refine s_bipush dX13_toldPlace_1 (by decide +kernel) ?_
  exact s_icmp_ne dX13_toldPlace_3 (by decide) (wX13_toldPlace_9 hZ j hj) (wX13_toldPlace_6 hZ j hj)
noncomputable def vhX13_toldPlace (j : Nat → rx_K) : List rx_K := [vX13_toldPlace_23 j]
theorem vlX13_toldPlace (hZ : zO b e D A X) : ∀ n k pc, [23][k]? = some pc → rx_OK (zV b e D A X) mX13_toldPlace 1 pc (rx_J (vhX13_toldPlace) n k) := rx_loop fun j hj k pc h => by
  match k, h with
  | 0, h =>
    have e9 := Option.some.inj (show some 23 = some pc from h)
    subst e9
    exact wX13_toldPlace_23 hZ j hj
  | _ + 1, h => exact absurd h (by simp)
noncomputable def FX13_toldPlace : List Nat → rx_H → Option (Nat × rx_H) := rx_ent 5 (vX13_toldPlace_0 (rx_J (vhX13_toldPlace) 4000000000))
theorem Met_X13_toldPlace (hZ : zO b e D A X) : rx_Met (zV b e D A X) 1 yX13_toldPlace mX13_toldPlace (FX13_toldPlace) := rx_entry hZ.1 (wX13_toldPlace_0 hZ _ (vlX13_toldPlace hZ 4000000000)) (by decide +kernel) rfl (fun h => by cases h)
abbrev mX13_differs : rx_M := (RX13, cX13_differs, 7, none, false)
theorem vy_X13_differs : rx_Y (zV b e D A X) yX13_differs mX13_differs 5 := ⟨zw3997, zw431, by decide, by decide +kernel, by decide +kernel, by decide +kernel⟩
noncomputable def vX13_differs_101 : rx_K := o_putf rx_isI 13 175 (o_ret0)
set_option maxRecDepth 20000 in
theorem wX13_differs_101 (hZ : zO b e D A X) : rx_OK (zV b e D A X) mX13_differs 2 101 vX13_differs_101 := by
  unfold vX13_differs_101
  refine yp13_175 hZ.1 dX13_differs_101 zw4295 ?_
  exact s_vret rfl dX13_differs_104
noncomputable def vX13_differs_63 : rx_K := o_ast 0 (fun v => v) rx_isI (o_ld rx_isR 0 (o_getf 13 174 (o_ld rx_isI 6 (o_const 24 (o_bi (fun x y => x + y) (o_ld rx_isR 0 (o_ld rx_isI 4 (o_callV 1 13 FX13_toldPlace (o_ast 0 (fun v => v) rx_isI (o_ld rx_isR 0 (o_getf 13 174 (o_ld rx_isI 6 (o_const 32 (o_bi (fun x y => x + y) (o_ld rx_isR 0 (o_ld rx_isI 5 (o_callV 1 13 FX13_toldPlace (o_ast 0 (fun v => v) rx_isI (o_ld rx_isR 0 (o_dup (o_getf 13 175 (o_const 8 (o_bi (fun x y => x + y) (vX13_differs_101))))))))))))))))))))))))
set_option maxRecDepth 20000 in
theorem wX13_differs_63 (hZ : zO b e D A X) : rx_OK (zV b e D A X) mX13_differs 2 63 vX13_differs_63 := by
  unfold vX13_differs_63
  refine s_iast hZ.1 (tt := 0) rfl dX13_differs_63 ?_
  refine s_aload_n hZ.1 dX13_differs_64 rfl ?_
  refine yg13_174 dX13_differs_65 zw4294 ?_
  refine s_iload hZ.1 dX13_differs_68 ?_
  refine s_iconst dX13_differs_70 (by decide +kernel) ?_
  refine s_iadd dX13_differs_71 ?_
  refine s_aload_n hZ.1 dX13_differs_72 rfl ?_
  refine s_iload hZ.1 dX13_differs_73 ?_
  refine s_callV hZ.1 (Met_X13_toldPlace hZ) (Nat.le_of_ble_eq_true rfl) vy_X13_toldPlace zcl13 zw4000 zw388 (Or.inl zw3998) dX13_differs_75 ?_
  refine s_iast hZ.1 (tt := 0) rfl dX13_differs_78 ?_
  refine s_aload_n hZ.1 dX13_differs_79 rfl ?_
  refine yg13_174 dX13_differs_80 zw4294 ?_
  refine s_iload hZ.1 dX13_differs_83 ?_
  refine s_iconst dX13_differs_85 (by decide +kernel) ?_
  refine s_iadd dX13_differs_86 ?_
  refine s_aload_n hZ.1 dX13_differs_87 rfl ?_
  refine s_iload hZ.1 dX13_differs_88 ?_
  refine s_callV hZ.1 (Met_X13_toldPlace hZ) (Nat.le_of_ble_eq_true rfl) vy_X13_toldPlace zcl13 zw4000 zw388 (Or.inl zw3998) dX13_differs_90 ?_
  refine s_iast hZ.1 (tt := 0) rfl dX13_differs_93 ?_
  refine s_aload_n hZ.1 dX13_differs_94 rfl ?_
  refine s_dup hZ.1 dX13_differs_95 ?_
  refine yg13_175 dX13_differs_96 zw4295 ?_
  refine s_iconst dX13_differs_99 (by decide +kernel) ?_
  refine s_iadd dX13_differs_100 ?_
  exact (wX13_differs_101 hZ)
noncomputable def vX13_differs_59 : rx_K := o_ld rx_isI 3 (o_const 96 (o_bin (fun x y => x - x / y * y) (vX13_differs_63)))
set_option maxRecDepth 20000 in
theorem wX13_differs_59 (hZ : zO b e D A X) : rx_OK (zV b e D A X) mX13_differs 2 59 vX13_differs_59 := by
  unfold vX13_differs_59
  refine s_iload_n hZ.1 dX13_differs_59 rfl ?_
  refine s_bipush dX13_differs_60 (by decide +kernel) ?_
  refine s_irem dX13_differs_62 ?_
  exact (wX13_differs_63 hZ)
noncomputable def vX13_differs_54 : rx_K := o_const 34359738352 (vX13_differs_63)
set_option maxRecDepth 20000 in
theorem wX13_differs_54 (hZ : zO b e D A X) : rx_OK (zV b e D A X) mX13_differs 2 54 vX13_differs_54 := by
  unfold vX13_differs_54
  refine s_bipush dX13_differs_54 (by decide +kernel) ?_
  exact s_goto dX13_differs_56 (by decide) (wX13_differs_63 hZ)
noncomputable def vX13_differs_39 : rx_K := o_ast 0 (fun v => v) rx_isI (o_ld rx_isR 0 (o_getf 13 174 (o_ld rx_isI 6 (o_const 16 (o_bi (fun x y => x + y) (o_ld rx_isI 3 (o_const 34359738352 (o_c2 rx_eq vX13_differs_54 vX13_differs_59))))))))
set_option maxRecDepth 20000 in
theorem wX13_differs_39 (hZ : zO b e D A X) : rx_OK (zV b e D A X) mX13_differs 2 39 vX13_differs_39 := by
  unfold vX13_differs_39
  refine s_iast hZ.1 (tt := 0) rfl dX13_differs_39 ?_
  refine s_aload_n hZ.1 dX13_differs_40 rfl ?_
  refine yg13_174 dX13_differs_41 zw4294 ?_
  refine s_iload hZ.1 dX13_differs_44 ?_
  refine s_iconst dX13_differs_46 (by decide +kernel) ?_
  refine s_iadd dX13_differs_47 ?_
  refine s_iload_n hZ.1 dX13_differs_48 rfl ?_
  refine s_bipush dX13_differs_49 (by decide +kernel) ?_
  exact s_icmp_ne dX13_differs_51 (by decide) (wX13_differs_59 hZ) (wX13_differs_54 hZ)
noncomputable def vX13_differs_35 : rx_K := o_ld rx_isI 2 (o_const 96 (o_bin (fun x y => x - x / y * y) (vX13_differs_39)))
set_option maxRecDepth 20000 in
theorem wX13_differs_35 (hZ : zO b e D A X) : rx_OK (zV b e D A X) mX13_differs 2 35 vX13_differs_35 := by
  unfold vX13_differs_35
  refine s_iload_n hZ.1 dX13_differs_35 rfl ?_
  refine s_bipush dX13_differs_36 (by decide +kernel) ?_
  refine s_irem dX13_differs_38 ?_
  exact (wX13_differs_39 hZ)
noncomputable def vX13_differs_30 : rx_K := o_const 34359738352 (vX13_differs_39)
set_option maxRecDepth 20000 in
theorem wX13_differs_30 (hZ : zO b e D A X) : rx_OK (zV b e D A X) mX13_differs 2 30 vX13_differs_30 := by
  unfold vX13_differs_30
  refine s_bipush dX13_differs_30 (by decide +kernel) ?_
  exact s_goto dX13_differs_32 (by decide) (wX13_differs_39 hZ)
noncomputable def vX13_differs_0 : rx_K := o_const 40 (o_ld rx_isR 0 (o_getf 13 175 (o_bi (fun x y => x * y) (o_st rx_isI 6 (o_ld rx_isR 0 (o_getf 13 174 (o_ld rx_isI 6 (o_ld rx_isI 1 (o_ast 0 (fun v => v) rx_isI (o_ld rx_isR 0 (o_getf 13 174 (o_ld rx_isI 6 (o_const 8 (o_bi (fun x y => x + y) (o_ld rx_isI 2 (o_const 34359738352 (o_c2 rx_eq vX13_differs_30 vX13_differs_35)))))))))))))))))
set_option maxRecDepth 20000 in
theorem wX13_differs_0 (hZ : zO b e D A X) : rx_OK (zV b e D A X) mX13_differs 2 0 vX13_differs_0 := by
  unfold vX13_differs_0
  refine s_iconst dX13_differs_0 (by decide +kernel) ?_
  refine s_aload_n hZ.1 dX13_differs_1 rfl ?_
  refine yg13_175 dX13_differs_2 zw4295 ?_
  refine s_imul dX13_differs_5 ?_
  refine s_istore hZ.1 dX13_differs_6 (Nat.le_of_ble_eq_true rfl) ?_
  refine s_aload_n hZ.1 dX13_differs_8 rfl ?_
  refine yg13_174 dX13_differs_9 zw4294 ?_
  refine s_iload hZ.1 dX13_differs_12 ?_
  refine s_iload_n hZ.1 dX13_differs_14 rfl ?_
  refine s_iast hZ.1 (tt := 0) rfl dX13_differs_15 ?_
  refine s_aload_n hZ.1 dX13_differs_16 rfl ?_
  refine yg13_174 dX13_differs_17 zw4294 ?_
  refine s_iload hZ.1 dX13_differs_20 ?_
  refine s_iconst dX13_differs_22 (by decide +kernel) ?_
  refine s_iadd dX13_differs_23 ?_
  refine s_iload_n hZ.1 dX13_differs_24 rfl ?_
  refine s_bipush dX13_differs_25 (by decide +kernel) ?_
  exact s_icmp_ne dX13_differs_27 (by decide) (wX13_differs_35 hZ) (wX13_differs_30 hZ)
noncomputable def FX13_differs : List Nat → rx_H → Option (Nat × rx_H) := rx_ent 7 vX13_differs_0
theorem Met_X13_differs (hZ : zO b e D A X) : rx_Met (zV b e D A X) 2 yX13_differs mX13_differs (FX13_differs) := rx_entry hZ.1 (wX13_differs_0 hZ) (by decide +kernel) rfl (fun h => by cases h)
abbrev mX13_accessOf : rx_M := (RX13, cX13_accessOf, 4, none, false)
theorem vy_X13_accessOf : rx_Y (zV b e D A X) yX13_accessOf mX13_accessOf 3 := ⟨zw4021, zw431, by decide, by decide +kernel, by decide +kernel, by decide +kernel⟩
noncomputable def vX13_accessOf_53 : rx_K := o_ret0
set_option maxRecDepth 20000 in
theorem wX13_accessOf_53 (hZ : zO b e D A X) : rx_OK (zV b e D A X) mX13_accessOf 3 53 vX13_accessOf_53 := by
  unfold vX13_accessOf_53
  exact s_vret rfl dX13_accessOf_53
noncomputable def vX13_accessOf_38 : rx_K := o_ld rx_isR 0 (o_ld rx_isI 2 (o_callV 1 13 FX13_classOfMember (o_ld rx_isR 0 (o_ld rx_isI 3 (o_callV 1 13 FX13_classOfMember (o_ld rx_isI 2 (o_ld rx_isI 3 (o_callV 5 13 FX13_differs (vX13_accessOf_53)))))))))
set_option maxRecDepth 20000 in
theorem wX13_accessOf_38 (hZ : zO b e D A X) : rx_OK (zV b e D A X) mX13_accessOf 3 38 vX13_accessOf_38 := by
  unfold vX13_accessOf_38
  refine s_aload_n hZ.1 dX13_accessOf_38 rfl ?_
  refine s_iload_n hZ.1 dX13_accessOf_39 rfl ?_
  refine s_callV hZ.1 (Met_X13_classOfMember hZ) (Nat.le_of_ble_eq_true rfl) vy_X13_classOfMember zcl13 zw3255 zw241 (Or.inl zw3253) dX13_accessOf_40 ?_
  refine s_aload_n hZ.1 dX13_accessOf_43 rfl ?_
  refine s_iload_n hZ.1 dX13_accessOf_44 rfl ?_
  refine s_callV hZ.1 (Met_X13_classOfMember hZ) (Nat.le_of_ble_eq_true rfl) vy_X13_classOfMember zcl13 zw3255 zw241 (Or.inl zw3253) dX13_accessOf_45 ?_
  refine s_iload_n hZ.1 dX13_accessOf_48 rfl ?_
  refine s_iload_n hZ.1 dX13_accessOf_49 rfl ?_
  refine s_callV hZ.1 (Met_X13_differs hZ) (Nat.le_of_ble_eq_true rfl) vy_X13_differs zcl13 zw3996 zw387 (Or.inl zw3994) dX13_accessOf_50 ?_
  exact (wX13_accessOf_53 hZ)
noncomputable def vX13_accessOf_35 : rx_K := o_ld rx_isI 1 (o_const 8 (o_bi (fun x y => x + y) (vX13_accessOf_38)))
set_option maxRecDepth 20000 in
theorem wX13_accessOf_35 (hZ : zO b e D A X) : rx_OK (zV b e D A X) mX13_accessOf 3 35 vX13_accessOf_35 := by
  unfold vX13_accessOf_35
  refine s_iload_n hZ.1 dX13_accessOf_35 rfl ?_
  refine s_iconst dX13_accessOf_36 (by decide +kernel) ?_
  refine s_iadd dX13_accessOf_37 ?_
  exact (wX13_accessOf_38 hZ)
noncomputable def vX13_accessOf_31 : rx_K := o_ld rx_isI 1 (vX13_accessOf_38)
set_option maxRecDepth 20000 in
theorem wX13_accessOf_31 (hZ : zO b e D A X) : rx_OK (zV b e D A X) mX13_accessOf 3 31 vX13_accessOf_31 := by
  unfold vX13_accessOf_31
  refine s_iload_n hZ.1 dX13_accessOf_31 rfl ?_
  exact s_goto dX13_accessOf_32 (by decide) (wX13_accessOf_38 hZ)
noncomputable def vX13_accessOf_15 : rx_K := o_ld rx_isR 0 (o_ld rx_isR 0 (o_getf 13 44 (o_ld rx_isI 3 (o_ald 0 (o_ld rx_isR 0 (o_getf 13 44 (o_ld rx_isI 2 (o_ald 0 (o_c2 rx_lt vX13_accessOf_31 vX13_accessOf_35)))))))))
set_option maxRecDepth 20000 in
theorem wX13_accessOf_15 (hZ : zO b e D A X) : rx_OK (zV b e D A X) mX13_accessOf 3 15 vX13_accessOf_15 := by
  unfold vX13_accessOf_15
  refine s_aload_n hZ.1 dX13_accessOf_15 rfl ?_
  refine s_aload_n hZ.1 dX13_accessOf_16 rfl ?_
  refine yg13_44 dX13_accessOf_17 zw4165 ?_
  refine s_iload_n hZ.1 dX13_accessOf_20 rfl ?_
  refine s_iald (tt := 0) rfl dX13_accessOf_21 ?_
  refine s_aload_n hZ.1 dX13_accessOf_22 rfl ?_
  refine yg13_44 dX13_accessOf_23 zw4165 ?_
  refine s_iload_n hZ.1 dX13_accessOf_26 rfl ?_
  refine s_iald (tt := 0) rfl dX13_accessOf_27 ?_
  exact s_icmp_ge dX13_accessOf_28 (by decide) (wX13_accessOf_35 hZ) (wX13_accessOf_31 hZ)
noncomputable def vX13_accessOf_0 : rx_K := o_ld rx_isR 0 (o_getf 13 44 (o_ld rx_isI 2 (o_ald 0 (o_ld rx_isR 0 (o_getf 13 44 (o_ld rx_isI 3 (o_ald 0 (o_c2 rx_eq vX13_accessOf_53 vX13_accessOf_15))))))))
set_option maxRecDepth 20000 in
theorem wX13_accessOf_0 (hZ : zO b e D A X) : rx_OK (zV b e D A X) mX13_accessOf 3 0 vX13_accessOf_0 := by
  unfold vX13_accessOf_0
  refine s_aload_n hZ.1 dX13_accessOf_0 rfl ?_
  refine yg13_44 dX13_accessOf_1 zw4165 ?_
  refine s_iload_n hZ.1 dX13_accessOf_4 rfl ?_
  refine s_iald (tt := 0) rfl dX13_accessOf_5 ?_
  refine s_aload_n hZ.1 dX13_accessOf_6 rfl ?_
  refine yg13_44 dX13_accessOf_7 zw4165 ?_
  refine s_iload_n hZ.1 dX13_accessOf_10 rfl ?_
  refine s_iald (tt := 0) rfl dX13_accessOf_11 ?_
  exact s_icmp_eq dX13_accessOf_12 (by decide) (wX13_accessOf_53 hZ) (wX13_accessOf_15 hZ)
noncomputable def FX13_accessOf : List Nat → rx_H → Option (Nat × rx_H) := rx_ent 4 vX13_accessOf_0
theorem Met_X13_accessOf (hZ : zO b e D A X) : rx_Met (zV b e D A X) 3 yX13_accessOf mX13_accessOf (FX13_accessOf) := rx_entry hZ.1 (wX13_accessOf_0 hZ) (by decide +kernel) rfl (fun h => by cases h)
abbrev mX13_eitherOf : rx_M := (RX13, cX13_eitherOf, 6, none, false)
theorem vy_X13_eitherOf : rx_Y (zV b e D A X) yX13_eitherOf mX13_eitherOf 5 := ⟨zw4017, zw431, by decide, by decide +kernel, by decide +kernel, by decide +kernel⟩
noncomputable def vX13_eitherOf_36 : rx_K := o_ret0
set_option maxRecDepth 20000 in
theorem wX13_eitherOf_36 (hZ : zO b e D A X) : rx_OK (zV b e D A X) mX13_eitherOf 3 36 vX13_eitherOf_36 := by
  unfold vX13_eitherOf_36
  exact s_vret rfl dX13_eitherOf_36
noncomputable def vX13_eitherOf_17 : rx_K := o_ld rx_isR 0 (o_ld rx_isI 4 (o_callV 1 13 FX13_classOfMember (o_ld rx_isR 0 (o_ld rx_isI 5 (o_callV 1 13 FX13_classOfMember (o_ld rx_isI 4 (o_ld rx_isI 5 (o_callV 5 13 FX13_differs (vX13_eitherOf_36)))))))))
set_option maxRecDepth 20000 in
theorem wX13_eitherOf_17 (hZ : zO b e D A X) : rx_OK (zV b e D A X) mX13_eitherOf 3 17 vX13_eitherOf_17 := by
  unfold vX13_eitherOf_17
  refine s_aload_n hZ.1 dX13_eitherOf_17 rfl ?_
  refine s_iload hZ.1 dX13_eitherOf_18 ?_
  refine s_callV hZ.1 (Met_X13_classOfMember hZ) (Nat.le_of_ble_eq_true rfl) vy_X13_classOfMember zcl13 zw3255 zw241 (Or.inl zw3253) dX13_eitherOf_20 ?_
  refine s_aload_n hZ.1 dX13_eitherOf_23 rfl ?_
  refine s_iload hZ.1 dX13_eitherOf_24 ?_
  refine s_callV hZ.1 (Met_X13_classOfMember hZ) (Nat.le_of_ble_eq_true rfl) vy_X13_classOfMember zcl13 zw3255 zw241 (Or.inl zw3253) dX13_eitherOf_26 ?_
  refine s_iload hZ.1 dX13_eitherOf_29 ?_
  refine s_iload hZ.1 dX13_eitherOf_31 ?_
  refine s_callV hZ.1 (Met_X13_differs hZ) (Nat.le_of_ble_eq_true rfl) vy_X13_differs zcl13 zw3996 zw387 (Or.inl zw3994) dX13_eitherOf_33 ?_
  exact (wX13_eitherOf_36 hZ)
noncomputable def vX13_eitherOf_14 : rx_K := o_ld rx_isI 1 (o_const 8 (o_bi (fun x y => x + y) (vX13_eitherOf_17)))
set_option maxRecDepth 20000 in
theorem wX13_eitherOf_14 (hZ : zO b e D A X) : rx_OK (zV b e D A X) mX13_eitherOf 3 14 vX13_eitherOf_14 := by
  unfold vX13_eitherOf_14
  refine s_iload_n hZ.1 dX13_eitherOf_14 rfl ?_
  refine s_iconst dX13_eitherOf_15 (by decide +kernel) ?_
  refine s_iadd dX13_eitherOf_16 ?_
  exact (wX13_eitherOf_17 hZ)
noncomputable def vX13_eitherOf_10 : rx_K := o_ld rx_isI 1 (vX13_eitherOf_17)
set_option maxRecDepth 20000 in
theorem wX13_eitherOf_10 (hZ : zO b e D A X) : rx_OK (zV b e D A X) mX13_eitherOf 3 10 vX13_eitherOf_10 := by
  unfold vX13_eitherOf_10
  refine s_iload_n hZ.1 dX13_eitherOf_10 rfl ?_
  exact s_goto dX13_eitherOf_11 (by decide) (wX13_eitherOf_17 hZ)
noncomputable def vX13_eitherOf_5 : rx_K := o_ld rx_isR 0 (o_ld rx_isI 3 (o_c1 rx_eq vX13_eitherOf_14 vX13_eitherOf_10))
set_option maxRecDepth 20000 in
theorem wX13_eitherOf_5 (hZ : zO b e D A X) : rx_OK (zV b e D A X) mX13_eitherOf 3 5 vX13_eitherOf_5 := by
  unfold vX13_eitherOf_5
  refine s_aload_n hZ.1 dX13_eitherOf_5 rfl ?_
  refine s_iload_n hZ.1 dX13_eitherOf_6 rfl ?_
  exact s_if_eq dX13_eitherOf_7 (by decide) (wX13_eitherOf_14 hZ) (wX13_eitherOf_10 hZ)
noncomputable def vX13_eitherOf_0 : rx_K := o_ld rx_isI 2 (o_ld rx_isI 3 (o_c2 rx_eq vX13_eitherOf_36 vX13_eitherOf_5))
set_option maxRecDepth 20000 in
theorem wX13_eitherOf_0 (hZ : zO b e D A X) : rx_OK (zV b e D A X) mX13_eitherOf 3 0 vX13_eitherOf_0 := by
  unfold vX13_eitherOf_0
  refine s_iload_n hZ.1 dX13_eitherOf_0 rfl ?_
  refine s_iload_n hZ.1 dX13_eitherOf_1 rfl ?_
  exact s_icmp_eq dX13_eitherOf_2 (by decide) (wX13_eitherOf_36 hZ) (wX13_eitherOf_5 hZ)
noncomputable def FX13_eitherOf : List Nat → rx_H → Option (Nat × rx_H) := rx_ent 6 vX13_eitherOf_0
theorem Met_X13_eitherOf (hZ : zO b e D A X) : rx_Met (zV b e D A X) 3 yX13_eitherOf mX13_eitherOf (FX13_eitherOf) := rx_entry hZ.1 (wX13_eitherOf_0 hZ) (by decide +kernel) rfl (fun h => by cases h)
abbrev mX13_compareFields : rx_M := (RX13, cX13_compareFields, 6, none, false)
theorem vy_X13_compareFields : rx_Y (zV b e D A X) yX13_compareFields mX13_compareFields 2 := ⟨zw4013, zw431, by decide, by decide +kernel, by decide +kernel, by decide +kernel⟩
noncomputable def vX13_compareFields_326 (j : Nat → rx_K) : rx_K := o_ret0
set_option maxRecDepth 20000 in
theorem wX13_compareFields_326 (hZ : zO b e D A X) (j : Nat → rx_K) (hj : ∀ k pc, [2, 262][k]? = some pc → rx_OK (zV b e D A X) mX13_compareFields 4 pc (j k)) : rx_OK (zV b e D A X) mX13_compareFields 4 326 (vX13_compareFields_326 j) := by
  unfold vX13_compareFields_326
  exact s_vret rfl dX13_compareFields_326
noncomputable def vX13_compareFields_320 (j : Nat → rx_K) : rx_K := o_inc 3 (1) ((j 1))
set_option maxRecDepth 20000 in
theorem wX13_compareFields_320 (hZ : zO b e D A X) (j : Nat → rx_K) (hj : ∀ k pc, [2, 262][k]? = some pc → rx_OK (zV b e D A X) mX13_compareFields 4 pc (j k)) : rx_OK (zV b e D A X) mX13_compareFields 4 320 (vX13_compareFields_320 j) := by
  unfold vX13_compareFields_320
  refine s_iinc hZ.1 dX13_compareFields_320 (Nat.le_of_ble_eq_true rfl) ?_
  exact s_goto dX13_compareFields_323 (by decide) (hj 1 262 rfl)
noncomputable def vX13_compareFields_308 (j : Nat → rx_K) : rx_K := o_ld rx_isR 0 (o_const 224 (o_ld rx_isI 1 (o_ld rx_isI 2 (o_const 34359738352 (o_ld rx_isI 4 (o_callV 5 13 FX13_differs ((vX13_compareFields_320 j))))))))
set_option maxRecDepth 20000 in
theorem wX13_compareFields_308 (hZ : zO b e D A X) (j : Nat → rx_K) (hj : ∀ k pc, [2, 262][k]? = some pc → rx_OK (zV b e D A X) mX13_compareFields 4 pc (j k)) : rx_OK (zV b e D A X) mX13_compareFields 4 308 (vX13_compareFields_308 j) := by
  unfold vX13_compareFields_308
  refine s_aload_n hZ.1 dX13_compareFields_308 rfl ?_
  refine s_bipush dX13_compareFields_309 (by decide +kernel) ?_
  refine s_iload_n hZ.1 dX13_compareFields_311 rfl ?_
  refine s_iload_n hZ.1 dX13_compareFields_312 rfl ?_
  refine s_bipush dX13_compareFields_313 (by decide +kernel) ?_
  refine s_iload hZ.1 dX13_compareFields_315 ?_
  refine s_callV hZ.1 (Met_X13_differs hZ) (Nat.le_of_ble_eq_true rfl) vy_X13_differs zcl13 zw3996 zw387 (Or.inl zw3994) dX13_compareFields_317 ?_
  exact (wX13_compareFields_320 hZ j hj)
noncomputable def vX13_compareFields_290 (j : Nat → rx_K) : rx_K := o_ld rx_isR 0 (o_ld rx_isI 1 (o_ld rx_isR 0 (o_getf 13 51 (o_ld rx_isI 4 (o_ald 1 (o_const 1 (o_callV 3 13 FX13_ownField (o_const 34359738352 (o_c2 rx_eq (vX13_compareFields_308 j) (vX13_compareFields_320 j))))))))))
set_option maxRecDepth 20000 in
theorem wX13_compareFields_290 (hZ : zO b e D A X) (j : Nat → rx_K) (hj : ∀ k pc, [2, 262][k]? = some pc → rx_OK (zV b e D A X) mX13_compareFields 4 pc (j k)) : rx_OK (zV b e D A X) mX13_compareFields 4 290 (vX13_compareFields_290 j) := by
  unfold vX13_compareFields_290
  refine s_aload_n hZ.1 dX13_compareFields_290 rfl ?_
  refine s_iload_n hZ.1 dX13_compareFields_291 rfl ?_
  refine s_aload_n hZ.1 dX13_compareFields_292 rfl ?_
  refine yg13_51 dX13_compareFields_293 zw4172 ?_
  refine s_iload hZ.1 dX13_compareFields_296 ?_
  refine s_lald (tt := 1) rfl dX13_compareFields_298 ?_
  refine s_lconst dX13_compareFields_299 (by decide +kernel) ?_
  refine s_callV hZ.1 (Met_X13_ownField hZ) (Nat.le_of_ble_eq_true rfl) vy_X13_ownField zcl13 zw3351 zw263 (Or.inl zw3349) dX13_compareFields_300 ?_
  refine s_bipush dX13_compareFields_303 (by decide +kernel) ?_
  exact s_icmp_ne dX13_compareFields_305 (by decide) (wX13_compareFields_320 hZ j hj) (wX13_compareFields_308 hZ j hj)
noncomputable def vX13_compareFields_272 (j : Nat → rx_K) : rx_K := o_ld rx_isI 2 (o_const 272 (o_bi (fun x y => x * y) (o_ld rx_isI 3 (o_bi (fun x y => x + y) (o_st rx_isI 4 (o_ld rx_isR 0 (o_getf 13 42 (o_ld rx_isI 4 (o_ald 0 (o_c1 rx_eq (vX13_compareFields_290 j) (vX13_compareFields_320 j)))))))))))
set_option maxRecDepth 20000 in
theorem wX13_compareFields_272 (hZ : zO b e D A X) (j : Nat → rx_K) (hj : ∀ k pc, [2, 262][k]? = some pc → rx_OK (zV b e D A X) mX13_compareFields 4 pc (j k)) : rx_OK (zV b e D A X) mX13_compareFields 4 272 (vX13_compareFields_272 j) := by
  unfold vX13_compareFields_272
  refine s_iload_n hZ.1 dX13_compareFields_272 rfl ?_
  refine s_bipush dX13_compareFields_273 (by decide +kernel) ?_
  refine s_imul dX13_compareFields_275 ?_
  refine s_iload_n hZ.1 dX13_compareFields_276 rfl ?_
  refine s_iadd dX13_compareFields_277 ?_
  refine s_istore hZ.1 dX13_compareFields_278 (Nat.le_of_ble_eq_true rfl) ?_
  refine s_aload_n hZ.1 dX13_compareFields_280 rfl ?_
  refine yg13_42 dX13_compareFields_281 zw4163 ?_
  refine s_iload hZ.1 dX13_compareFields_284 ?_
  refine s_iald (tt := 0) rfl dX13_compareFields_286 ?_
  exact s_if_ne dX13_compareFields_287 (by decide) (wX13_compareFields_320 hZ j hj) (wX13_compareFields_290 hZ j hj)
noncomputable def vX13_compareFields_262 (j : Nat → rx_K) : rx_K := o_ld rx_isI 3 (o_ld rx_isR 0 (o_getf 13 41 (o_ld rx_isI 2 (o_ald 0 (o_c2 rx_lt (vX13_compareFields_272 j) (vX13_compareFields_326 j))))))
set_option maxRecDepth 20000 in
theorem wX13_compareFields_262 (hZ : zO b e D A X) (j : Nat → rx_K) (hj : ∀ k pc, [2, 262][k]? = some pc → rx_OK (zV b e D A X) mX13_compareFields 4 pc (j k)) : rx_OK (zV b e D A X) mX13_compareFields 4 262 (vX13_compareFields_262 j) := by
  unfold vX13_compareFields_262
  refine s_iload_n hZ.1 dX13_compareFields_262 rfl ?_
  refine s_aload_n hZ.1 dX13_compareFields_263 rfl ?_
  refine yg13_41 dX13_compareFields_264 zw4162 ?_
  refine s_iload_n hZ.1 dX13_compareFields_267 rfl ?_
  refine s_iald (tt := 0) rfl dX13_compareFields_268 ?_
  exact s_icmp_ge dX13_compareFields_269 (by decide) (wX13_compareFields_326 hZ j hj) (wX13_compareFields_272 hZ j hj)
noncomputable def vX13_compareFields_260 (j : Nat → rx_K) : rx_K := o_const 0 (o_st rx_isI 3 ((vX13_compareFields_262 j)))
set_option maxRecDepth 20000 in
theorem wX13_compareFields_260 (hZ : zO b e D A X) (j : Nat → rx_K) (hj : ∀ k pc, [2, 262][k]? = some pc → rx_OK (zV b e D A X) mX13_compareFields 4 pc (j k)) : rx_OK (zV b e D A X) mX13_compareFields 4 260 (vX13_compareFields_260 j) := by
  unfold vX13_compareFields_260
  refine s_iconst dX13_compareFields_260 (by decide +kernel) ?_
  refine s_istore_n hZ.1 dX13_compareFields_261 rfl (Nat.le_of_ble_eq_true rfl) ?_
  exact (wX13_compareFields_262 hZ j hj)
noncomputable def vX13_compareFields_254 (j : Nat → rx_K) : rx_K := o_inc 3 (1) ((j 0))
set_option maxRecDepth 20000 in
theorem wX13_compareFields_254 (hZ : zO b e D A X) (j : Nat → rx_K) (hj : ∀ k pc, [2, 262][k]? = some pc → rx_OK (zV b e D A X) mX13_compareFields 4 pc (j k)) : rx_OK (zV b e D A X) mX13_compareFields 4 254 (vX13_compareFields_254 j) := by
  unfold vX13_compareFields_254
  refine s_iinc hZ.1 dX13_compareFields_254 (Nat.le_of_ble_eq_true rfl) ?_
  exact s_goto dX13_compareFields_257 (by decide) (hj 0 2 rfl)
noncomputable def vX13_compareFields_242 (j : Nat → rx_K) : rx_K := o_ld rx_isR 0 (o_const 216 (o_ld rx_isI 1 (o_ld rx_isI 2 (o_ld rx_isI 4 (o_ld rx_isI 5 (o_callV 5 13 FX13_differs ((vX13_compareFields_254 j))))))))
set_option maxRecDepth 20000 in
theorem wX13_compareFields_242 (hZ : zO b e D A X) (j : Nat → rx_K) (hj : ∀ k pc, [2, 262][k]? = some pc → rx_OK (zV b e D A X) mX13_compareFields 4 pc (j k)) : rx_OK (zV b e D A X) mX13_compareFields 4 242 (vX13_compareFields_242 j) := by
  unfold vX13_compareFields_242
  refine s_aload_n hZ.1 dX13_compareFields_242 rfl ?_
  refine s_bipush dX13_compareFields_243 (by decide +kernel) ?_
  refine s_iload_n hZ.1 dX13_compareFields_245 rfl ?_
  refine s_iload_n hZ.1 dX13_compareFields_246 rfl ?_
  refine s_iload hZ.1 dX13_compareFields_247 ?_
  refine s_iload hZ.1 dX13_compareFields_249 ?_
  refine s_callV hZ.1 (Met_X13_differs hZ) (Nat.le_of_ble_eq_true rfl) vy_X13_differs zcl13 zw3996 zw387 (Or.inl zw3994) dX13_compareFields_251 ?_
  exact (wX13_compareFields_254 hZ j hj)
noncomputable def vX13_compareFields_225 (j : Nat → rx_K) : rx_K := o_ld rx_isR 0 (o_getf 13 65 (o_ld rx_isI 4 (o_ald 0 (o_ld rx_isR 0 (o_getf 13 65 (o_ld rx_isI 5 (o_ald 0 (o_c2 rx_eq (vX13_compareFields_254 j) (vX13_compareFields_242 j)))))))))
set_option maxRecDepth 20000 in
theorem wX13_compareFields_225 (hZ : zO b e D A X) (j : Nat → rx_K) (hj : ∀ k pc, [2, 262][k]? = some pc → rx_OK (zV b e D A X) mX13_compareFields 4 pc (j k)) : rx_OK (zV b e D A X) mX13_compareFields 4 225 (vX13_compareFields_225 j) := by
  unfold vX13_compareFields_225
  refine s_aload_n hZ.1 dX13_compareFields_225 rfl ?_
  refine yg13_65 dX13_compareFields_226 zw4186 ?_
  refine s_iload hZ.1 dX13_compareFields_229 ?_
  refine s_iald (tt := 0) rfl dX13_compareFields_231 ?_
  refine s_aload_n hZ.1 dX13_compareFields_232 rfl ?_
  refine yg13_65 dX13_compareFields_233 zw4186 ?_
  refine s_iload hZ.1 dX13_compareFields_236 ?_
  refine s_iald (tt := 0) rfl dX13_compareFields_238 ?_
  exact s_icmp_eq dX13_compareFields_239 (by decide) (wX13_compareFields_254 hZ j hj) (wX13_compareFields_242 hZ j hj)
noncomputable def vX13_compareFields_215 (j : Nat → rx_K) : rx_K := o_ld rx_isR 0 (o_getf 13 64 (o_ld rx_isI 4 (o_ald 3 (o_c1 rx_eq (vX13_compareFields_254 j) (vX13_compareFields_225 j)))))
set_option maxRecDepth 20000 in
theorem wX13_compareFields_215 (hZ : zO b e D A X) (j : Nat → rx_K) (hj : ∀ k pc, [2, 262][k]? = some pc → rx_OK (zV b e D A X) mX13_compareFields 4 pc (j k)) : rx_OK (zV b e D A X) mX13_compareFields 4 215 (vX13_compareFields_215 j) := by
  unfold vX13_compareFields_215
  refine s_aload_n hZ.1 dX13_compareFields_215 rfl ?_
  refine yg13_64 dX13_compareFields_216 zw4185 ?_
  refine s_iload hZ.1 dX13_compareFields_219 ?_
  refine s_zald (tt := 3) rfl dX13_compareFields_221 ?_
  exact s_if_eq dX13_compareFields_222 (by decide) (wX13_compareFields_254 hZ j hj) (wX13_compareFields_225 hZ j hj)
noncomputable def vX13_compareFields_209 (j : Nat → rx_K) : rx_K := o_ld rx_isI 5 (o_ald 3 (o_c2 rx_eq (vX13_compareFields_215 j) (vX13_compareFields_242 j)))
set_option maxRecDepth 20000 in
theorem wX13_compareFields_209 (hZ : zO b e D A X) (j : Nat → rx_K) (hj : ∀ k pc, [2, 262][k]? = some pc → rx_OK (zV b e D A X) mX13_compareFields 4 pc (j k)) : rx_OK (zV b e D A X) mX13_compareFields 4 209 (vX13_compareFields_209 j) := by
  unfold vX13_compareFields_209
  refine s_iload hZ.1 dX13_compareFields_209 ?_
  refine s_zald (tt := 3) rfl dX13_compareFields_211 ?_
  exact s_icmp_ne dX13_compareFields_212 (by decide) (wX13_compareFields_242 hZ j hj) (wX13_compareFields_215 hZ j hj)
noncomputable def vX13_compareFields_164 (j : Nat → rx_K) : rx_K := o_ld rx_isR 0 (o_const 184 (o_ld rx_isR 0 (o_getf 13 46 (o_ld rx_isI 4 (o_ald 3 (o_ld rx_isR 0 (o_getf 13 46 (o_ld rx_isI 5 (o_ald 3 (o_ld rx_isI 4 (o_ld rx_isI 5 (o_callV 5 13 FX13_eitherOf (o_ld rx_isR 0 (o_const 200 (o_ld rx_isI 4 (o_ld rx_isI 5 (o_callV 3 13 FX13_accessOf (o_ld rx_isR 0 (o_getf 13 64 (o_ld rx_isI 4 (o_ald 3 (o_ld rx_isR 0 (o_getf 13 64 ((vX13_compareFields_209 j)))))))))))))))))))))))))
set_option maxRecDepth 20000 in
theorem wX13_compareFields_164 (hZ : zO b e D A X) (j : Nat → rx_K) (hj : ∀ k pc, [2, 262][k]? = some pc → rx_OK (zV b e D A X) mX13_compareFields 4 pc (j k)) : rx_OK (zV b e D A X) mX13_compareFields 4 164 (vX13_compareFields_164 j) := by
  unfold vX13_compareFields_164
  refine s_aload_n hZ.1 dX13_compareFields_164 rfl ?_
  refine s_bipush dX13_compareFields_165 (by decide +kernel) ?_
  refine s_aload_n hZ.1 dX13_compareFields_167 rfl ?_
  refine yg13_46 dX13_compareFields_168 zw4167 ?_
  refine s_iload hZ.1 dX13_compareFields_171 ?_
  refine s_zald (tt := 3) rfl dX13_compareFields_173 ?_
  refine s_aload_n hZ.1 dX13_compareFields_174 rfl ?_
  refine yg13_46 dX13_compareFields_175 zw4167 ?_
  refine s_iload hZ.1 dX13_compareFields_178 ?_
  refine s_zald (tt := 3) rfl dX13_compareFields_180 ?_
  refine s_iload hZ.1 dX13_compareFields_181 ?_
  refine s_iload hZ.1 dX13_compareFields_183 ?_
  refine s_callV hZ.1 (Met_X13_eitherOf hZ) (Nat.le_of_ble_eq_true rfl) vy_X13_eitherOf zcl13 zw4016 zw392 (Or.inl zw4014) dX13_compareFields_185 ?_
  refine s_aload_n hZ.1 dX13_compareFields_188 rfl ?_
  refine s_bipush dX13_compareFields_189 (by decide +kernel) ?_
  refine s_iload hZ.1 dX13_compareFields_191 ?_
  refine s_iload hZ.1 dX13_compareFields_193 ?_
  refine s_callV hZ.1 (Met_X13_accessOf hZ) (Nat.le_of_ble_eq_true rfl) vy_X13_accessOf zcl13 zw4020 zw393 (Or.inl zw4018) dX13_compareFields_195 ?_
  refine s_aload_n hZ.1 dX13_compareFields_198 rfl ?_
  refine yg13_64 dX13_compareFields_199 zw4185 ?_
  refine s_iload hZ.1 dX13_compareFields_202 ?_
  refine s_zald (tt := 3) rfl dX13_compareFields_204 ?_
  refine s_aload_n hZ.1 dX13_compareFields_205 rfl ?_
  refine yg13_64 dX13_compareFields_206 zw4185 ?_
  exact (wX13_compareFields_209 hZ j hj)
noncomputable def vX13_compareFields_147 (j : Nat → rx_K) : rx_K := o_ld rx_isR 0 (o_getf 13 45 (o_ld rx_isI 4 (o_ald 3 (o_ld rx_isR 0 (o_getf 13 45 (o_ld rx_isI 5 (o_ald 3 (o_c2 rx_eq (vX13_compareFields_164 j) (vX13_compareFields_254 j)))))))))
set_option maxRecDepth 20000 in
theorem wX13_compareFields_147 (hZ : zO b e D A X) (j : Nat → rx_K) (hj : ∀ k pc, [2, 262][k]? = some pc → rx_OK (zV b e D A X) mX13_compareFields 4 pc (j k)) : rx_OK (zV b e D A X) mX13_compareFields 4 147 (vX13_compareFields_147 j) := by
  unfold vX13_compareFields_147
  refine s_aload_n hZ.1 dX13_compareFields_147 rfl ?_
  refine yg13_45 dX13_compareFields_148 zw4166 ?_
  refine s_iload hZ.1 dX13_compareFields_151 ?_
  refine s_zald (tt := 3) rfl dX13_compareFields_153 ?_
  refine s_aload_n hZ.1 dX13_compareFields_154 rfl ?_
  refine yg13_45 dX13_compareFields_155 zw4166 ?_
  refine s_iload hZ.1 dX13_compareFields_158 ?_
  refine s_zald (tt := 3) rfl dX13_compareFields_160 ?_
  exact s_icmp_ne dX13_compareFields_161 (by decide) (wX13_compareFields_254 hZ j hj) (wX13_compareFields_164 hZ j hj)
noncomputable def vX13_compareFields_129 (j : Nat → rx_K) : rx_K := o_ld rx_isR 0 (o_getf 13 53 (o_ld rx_isI 4 (o_ald 1 (o_ld rx_isR 0 (o_getf 13 53 (o_ld rx_isI 5 (o_ald 1 (o_bc (fun x y => lg_cmp x y) (o_c1 rx_eq (vX13_compareFields_147 j) (vX13_compareFields_254 j))))))))))
set_option maxRecDepth 20000 in
theorem wX13_compareFields_129 (hZ : zO b e D A X) (j : Nat → rx_K) (hj : ∀ k pc, [2, 262][k]? = some pc → rx_OK (zV b e D A X) mX13_compareFields 4 pc (j k)) : rx_OK (zV b e D A X) mX13_compareFields 4 129 (vX13_compareFields_129 j) := by
  unfold vX13_compareFields_129
  refine s_aload_n hZ.1 dX13_compareFields_129 rfl ?_
  refine yg13_53 dX13_compareFields_130 zw4174 ?_
  refine s_iload hZ.1 dX13_compareFields_133 ?_
  refine s_lald (tt := 1) rfl dX13_compareFields_135 ?_
  refine s_aload_n hZ.1 dX13_compareFields_136 rfl ?_
  refine yg13_53 dX13_compareFields_137 zw4174 ?_
  refine s_iload hZ.1 dX13_compareFields_140 ?_
  refine s_lald (tt := 1) rfl dX13_compareFields_142 ?_
  refine s_lcmp dX13_compareFields_143 ?_
  exact s_if_ne dX13_compareFields_144 (by decide) (wX13_compareFields_254 hZ j hj) (wX13_compareFields_147 hZ j hj)
noncomputable def vX13_compareFields_117 (j : Nat → rx_K) : rx_K := o_ld rx_isR 0 (o_const 176 (o_ld rx_isI 1 (o_ld rx_isI 2 (o_ld rx_isI 4 (o_ld rx_isI 5 (o_callV 5 13 FX13_differs ((vX13_compareFields_129 j))))))))
set_option maxRecDepth 20000 in
theorem wX13_compareFields_117 (hZ : zO b e D A X) (j : Nat → rx_K) (hj : ∀ k pc, [2, 262][k]? = some pc → rx_OK (zV b e D A X) mX13_compareFields 4 pc (j k)) : rx_OK (zV b e D A X) mX13_compareFields 4 117 (vX13_compareFields_117 j) := by
  unfold vX13_compareFields_117
  refine s_aload_n hZ.1 dX13_compareFields_117 rfl ?_
  refine s_bipush dX13_compareFields_118 (by decide +kernel) ?_
  refine s_iload_n hZ.1 dX13_compareFields_120 rfl ?_
  refine s_iload_n hZ.1 dX13_compareFields_121 rfl ?_
  refine s_iload hZ.1 dX13_compareFields_122 ?_
  refine s_iload hZ.1 dX13_compareFields_124 ?_
  refine s_callV hZ.1 (Met_X13_differs hZ) (Nat.le_of_ble_eq_true rfl) vy_X13_differs zcl13 zw3996 zw387 (Or.inl zw3994) dX13_compareFields_126 ?_
  exact (wX13_compareFields_129 hZ j hj)
noncomputable def vX13_compareFields_100 (j : Nat → rx_K) : rx_K := o_ld rx_isR 0 (o_getf 13 45 (o_ld rx_isI 4 (o_ald 3 (o_ld rx_isR 0 (o_getf 13 45 (o_ld rx_isI 5 (o_ald 3 (o_c2 rx_eq (vX13_compareFields_129 j) (vX13_compareFields_117 j)))))))))
set_option maxRecDepth 20000 in
theorem wX13_compareFields_100 (hZ : zO b e D A X) (j : Nat → rx_K) (hj : ∀ k pc, [2, 262][k]? = some pc → rx_OK (zV b e D A X) mX13_compareFields 4 pc (j k)) : rx_OK (zV b e D A X) mX13_compareFields 4 100 (vX13_compareFields_100 j) := by
  unfold vX13_compareFields_100
  refine s_aload_n hZ.1 dX13_compareFields_100 rfl ?_
  refine yg13_45 dX13_compareFields_101 zw4166 ?_
  refine s_iload hZ.1 dX13_compareFields_104 ?_
  refine s_zald (tt := 3) rfl dX13_compareFields_106 ?_
  refine s_aload_n hZ.1 dX13_compareFields_107 rfl ?_
  refine yg13_45 dX13_compareFields_108 zw4166 ?_
  refine s_iload hZ.1 dX13_compareFields_111 ?_
  refine s_zald (tt := 3) rfl dX13_compareFields_113 ?_
  exact s_icmp_eq dX13_compareFields_114 (by decide) (wX13_compareFields_129 hZ j hj) (wX13_compareFields_117 hZ j hj)
noncomputable def vX13_compareFields_88 (j : Nat → rx_K) : rx_K := o_ld rx_isR 0 (o_const 168 (o_ld rx_isI 1 (o_ld rx_isI 2 (o_ld rx_isI 4 (o_ld rx_isI 5 (o_callV 5 13 FX13_differs ((vX13_compareFields_100 j))))))))
set_option maxRecDepth 20000 in
theorem wX13_compareFields_88 (hZ : zO b e D A X) (j : Nat → rx_K) (hj : ∀ k pc, [2, 262][k]? = some pc → rx_OK (zV b e D A X) mX13_compareFields 4 pc (j k)) : rx_OK (zV b e D A X) mX13_compareFields 4 88 (vX13_compareFields_88 j) := by
  unfold vX13_compareFields_88
  refine s_aload_n hZ.1 dX13_compareFields_88 rfl ?_
  refine s_bipush dX13_compareFields_89 (by decide +kernel) ?_
  refine s_iload_n hZ.1 dX13_compareFields_91 rfl ?_
  refine s_iload_n hZ.1 dX13_compareFields_92 rfl ?_
  refine s_iload hZ.1 dX13_compareFields_93 ?_
  refine s_iload hZ.1 dX13_compareFields_95 ?_
  refine s_callV hZ.1 (Met_X13_differs hZ) (Nat.le_of_ble_eq_true rfl) vy_X13_differs zcl13 zw3996 zw387 (Or.inl zw3994) dX13_compareFields_97 ?_
  exact (wX13_compareFields_100 hZ j hj)
noncomputable def vX13_compareFields_70 (j : Nat → rx_K) : rx_K := o_ld rx_isR 0 (o_getf 13 53 (o_ld rx_isI 4 (o_ald 1 (o_ld rx_isR 0 (o_getf 13 53 (o_ld rx_isI 5 (o_ald 1 (o_bc (fun x y => lg_cmp x y) (o_c1 rx_eq (vX13_compareFields_100 j) (vX13_compareFields_88 j))))))))))
set_option maxRecDepth 20000 in
theorem wX13_compareFields_70 (hZ : zO b e D A X) (j : Nat → rx_K) (hj : ∀ k pc, [2, 262][k]? = some pc → rx_OK (zV b e D A X) mX13_compareFields 4 pc (j k)) : rx_OK (zV b e D A X) mX13_compareFields 4 70 (vX13_compareFields_70 j) := by
  unfold vX13_compareFields_70
  refine s_aload_n hZ.1 dX13_compareFields_70 rfl ?_
  refine yg13_53 dX13_compareFields_71 zw4174 ?_
  refine s_iload hZ.1 dX13_compareFields_74 ?_
  refine s_lald (tt := 1) rfl dX13_compareFields_76 ?_
  refine s_aload_n hZ.1 dX13_compareFields_77 rfl ?_
  refine yg13_53 dX13_compareFields_78 zw4174 ?_
  refine s_iload hZ.1 dX13_compareFields_81 ?_
  refine s_lald (tt := 1) rfl dX13_compareFields_83 ?_
  refine s_lcmp dX13_compareFields_84 ?_
  exact s_if_eq dX13_compareFields_85 (by decide) (wX13_compareFields_100 hZ j hj) (wX13_compareFields_88 hZ j hj)
noncomputable def vX13_compareFields_55 (j : Nat → rx_K) : rx_K := o_ld rx_isR 0 (o_const 160 (o_ld rx_isI 1 (o_ld rx_isI 2 (o_ld rx_isI 4 (o_const 34359738352 (o_callV 5 13 FX13_differs ((vX13_compareFields_254 j))))))))
set_option maxRecDepth 20000 in
theorem wX13_compareFields_55 (hZ : zO b e D A X) (j : Nat → rx_K) (hj : ∀ k pc, [2, 262][k]? = some pc → rx_OK (zV b e D A X) mX13_compareFields 4 pc (j k)) : rx_OK (zV b e D A X) mX13_compareFields 4 55 (vX13_compareFields_55 j) := by
  unfold vX13_compareFields_55
  refine s_aload_n hZ.1 dX13_compareFields_55 rfl ?_
  refine s_bipush dX13_compareFields_56 (by decide +kernel) ?_
  refine s_iload_n hZ.1 dX13_compareFields_58 rfl ?_
  refine s_iload_n hZ.1 dX13_compareFields_59 rfl ?_
  refine s_iload hZ.1 dX13_compareFields_60 ?_
  refine s_bipush dX13_compareFields_62 (by decide +kernel) ?_
  refine s_callV hZ.1 (Met_X13_differs hZ) (Nat.le_of_ble_eq_true rfl) vy_X13_differs zcl13 zw3996 zw387 (Or.inl zw3994) dX13_compareFields_64 ?_
  exact s_goto dX13_compareFields_67 (by decide) (wX13_compareFields_254 hZ j hj)
noncomputable def vX13_compareFields_33 (j : Nat → rx_K) : rx_K := o_ld rx_isR 0 (o_ld rx_isI 2 (o_ld rx_isR 0 (o_getf 13 51 (o_ld rx_isI 4 (o_ald 1 (o_const 1 (o_callV 3 13 FX13_ownField (o_st rx_isI 5 (o_ld rx_isI 5 (o_const 34359738352 (o_c2 rx_eq (vX13_compareFields_55 j) (vX13_compareFields_70 j))))))))))))
set_option maxRecDepth 20000 in
theorem wX13_compareFields_33 (hZ : zO b e D A X) (j : Nat → rx_K) (hj : ∀ k pc, [2, 262][k]? = some pc → rx_OK (zV b e D A X) mX13_compareFields 4 pc (j k)) : rx_OK (zV b e D A X) mX13_compareFields 4 33 (vX13_compareFields_33 j) := by
  unfold vX13_compareFields_33
  refine s_aload_n hZ.1 dX13_compareFields_33 rfl ?_
  refine s_iload_n hZ.1 dX13_compareFields_34 rfl ?_
  refine s_aload_n hZ.1 dX13_compareFields_35 rfl ?_
  refine yg13_51 dX13_compareFields_36 zw4172 ?_
  refine s_iload hZ.1 dX13_compareFields_39 ?_
  refine s_lald (tt := 1) rfl dX13_compareFields_41 ?_
  refine s_lconst dX13_compareFields_42 (by decide +kernel) ?_
  refine s_callV hZ.1 (Met_X13_ownField hZ) (Nat.le_of_ble_eq_true rfl) vy_X13_ownField zcl13 zw3351 zw263 (Or.inl zw3349) dX13_compareFields_43 ?_
  refine s_istore hZ.1 dX13_compareFields_46 (Nat.le_of_ble_eq_true rfl) ?_
  refine s_iload hZ.1 dX13_compareFields_48 ?_
  refine s_bipush dX13_compareFields_50 (by decide +kernel) ?_
  exact s_icmp_ne dX13_compareFields_52 (by decide) (wX13_compareFields_70 hZ j hj) (wX13_compareFields_55 hZ j hj)
noncomputable def vX13_compareFields_30 (j : Nat → rx_K) : rx_K := (vX13_compareFields_254 j)
set_option maxRecDepth 20000 in
theorem wX13_compareFields_30 (hZ : zO b e D A X) (j : Nat → rx_K) (hj : ∀ k pc, [2, 262][k]? = some pc → rx_OK (zV b e D A X) mX13_compareFields 4 pc (j k)) : rx_OK (zV b e D A X) mX13_compareFields 4 30 (vX13_compareFields_30 j) := by
  unfold vX13_compareFields_30
  exact s_goto dX13_compareFields_30 (by decide) (wX13_compareFields_254 hZ j hj)
noncomputable def vX13_compareFields_12 (j : Nat → rx_K) : rx_K := o_ld rx_isI 1 (o_const 272 (o_bi (fun x y => x * y) (o_ld rx_isI 3 (o_bi (fun x y => x + y) (o_st rx_isI 4 (o_ld rx_isR 0 (o_getf 13 42 (o_ld rx_isI 4 (o_ald 0 (o_c1 rx_eq (vX13_compareFields_33 j) (vX13_compareFields_30 j)))))))))))
set_option maxRecDepth 20000 in
theorem wX13_compareFields_12 (hZ : zO b e D A X) (j : Nat → rx_K) (hj : ∀ k pc, [2, 262][k]? = some pc → rx_OK (zV b e D A X) mX13_compareFields 4 pc (j k)) : rx_OK (zV b e D A X) mX13_compareFields 4 12 (vX13_compareFields_12 j) := by
  unfold vX13_compareFields_12
  refine s_iload_n hZ.1 dX13_compareFields_12 rfl ?_
  refine s_bipush dX13_compareFields_13 (by decide +kernel) ?_
  refine s_imul dX13_compareFields_15 ?_
  refine s_iload_n hZ.1 dX13_compareFields_16 rfl ?_
  refine s_iadd dX13_compareFields_17 ?_
  refine s_istore hZ.1 dX13_compareFields_18 (Nat.le_of_ble_eq_true rfl) ?_
  refine s_aload_n hZ.1 dX13_compareFields_20 rfl ?_
  refine yg13_42 dX13_compareFields_21 zw4163 ?_
  refine s_iload hZ.1 dX13_compareFields_24 ?_
  refine s_iald (tt := 0) rfl dX13_compareFields_26 ?_
  exact s_if_eq dX13_compareFields_27 (by decide) (wX13_compareFields_33 hZ j hj) (wX13_compareFields_30 hZ j hj)
noncomputable def vX13_compareFields_2 (j : Nat → rx_K) : rx_K := o_ld rx_isI 3 (o_ld rx_isR 0 (o_getf 13 41 (o_ld rx_isI 1 (o_ald 0 (o_c2 rx_lt (vX13_compareFields_12 j) (vX13_compareFields_260 j))))))
set_option maxRecDepth 20000 in
theorem wX13_compareFields_2 (hZ : zO b e D A X) (j : Nat → rx_K) (hj : ∀ k pc, [2, 262][k]? = some pc → rx_OK (zV b e D A X) mX13_compareFields 4 pc (j k)) : rx_OK (zV b e D A X) mX13_compareFields 4 2 (vX13_compareFields_2 j) := by
  unfold vX13_compareFields_2
  refine s_iload_n hZ.1 dX13_compareFields_2 rfl ?_
  refine s_aload_n hZ.1 dX13_compareFields_3 rfl ?_
  refine yg13_41 dX13_compareFields_4 zw4162 ?_
  refine s_iload_n hZ.1 dX13_compareFields_7 rfl ?_
  refine s_iald (tt := 0) rfl dX13_compareFields_8 ?_
  exact s_icmp_ge dX13_compareFields_9 (by decide) (wX13_compareFields_260 hZ j hj) (wX13_compareFields_12 hZ j hj)
noncomputable def vX13_compareFields_0 (j : Nat → rx_K) : rx_K := o_const 0 (o_st rx_isI 3 ((vX13_compareFields_2 j)))
set_option maxRecDepth 20000 in
theorem wX13_compareFields_0 (hZ : zO b e D A X) (j : Nat → rx_K) (hj : ∀ k pc, [2, 262][k]? = some pc → rx_OK (zV b e D A X) mX13_compareFields 4 pc (j k)) : rx_OK (zV b e D A X) mX13_compareFields 4 0 (vX13_compareFields_0 j) := by
  unfold vX13_compareFields_0
  refine s_iconst dX13_compareFields_0 (by decide +kernel) ?_
  refine s_istore_n hZ.1 dX13_compareFields_1 rfl (Nat.le_of_ble_eq_true rfl) ?_
  exact (wX13_compareFields_2 hZ j hj)
noncomputable def vhX13_compareFields (j : Nat → rx_K) : List rx_K := [vX13_compareFields_2 j, vX13_compareFields_262 j]
theorem vlX13_compareFields (hZ : zO b e D A X) : ∀ n k pc, [2, 262][k]? = some pc → rx_OK (zV b e D A X) mX13_compareFields 4 pc (rx_J (vhX13_compareFields) n k) := rx_loop fun j hj k pc h => by
  match k, h with
  | 0, h =>
    have e9 := Option.some.inj (show some 2 = some pc from h)
    subst e9
    exact wX13_compareFields_2 hZ j hj
  | 1, h =>
    have e9 := Option.some.inj (show some 262 = some pc from h)
    subst e9
    exact wX13_compareFields_262 hZ j hj
  | _ + 2, h => exact absurd h (by simp)
noncomputable def FX13_compareFields : List Nat → rx_H → Option (Nat × rx_H) := rx_ent 6 (vX13_compareFields_0 (rx_J (vhX13_compareFields) 4000000000))
theorem Met_X13_compareFields (hZ : zO b e D A X) : rx_Met (zV b e D A X) 4 yX13_compareFields mX13_compareFields (FX13_compareFields) := rx_entry hZ.1 (wX13_compareFields_0 hZ _ (vlX13_compareFields hZ 4000000000)) (by decide +kernel) rfl (fun h => by cases h)
abbrev mX13_either : rx_M := (RX13, cX13_either, 6, none, false)
theorem vy_X13_either : rx_Y (zV b e D A X) yX13_either mX13_either 5 := ⟨zw4009, zw431, by decide, by decide +kernel, by decide +kernel, by decide +kernel⟩
noncomputable def vX13_either_28 : rx_K := o_ret0
set_option maxRecDepth 20000 in
theorem wX13_either_28 (hZ : zO b e D A X) : rx_OK (zV b e D A X) mX13_either 3 28 vX13_either_28 := by
  unfold vX13_either_28
  exact s_vret rfl dX13_either_28
noncomputable def vX13_either_17 : rx_K := o_ld rx_isI 4 (o_ld rx_isI 5 (o_const 34359738352 (o_const 34359738352 (o_callV 5 13 FX13_differs (vX13_either_28)))))
set_option maxRecDepth 20000 in
theorem wX13_either_17 (hZ : zO b e D A X) : rx_OK (zV b e D A X) mX13_either 3 17 vX13_either_17 := by
  unfold vX13_either_17
  refine s_iload hZ.1 dX13_either_17 ?_
  refine s_iload hZ.1 dX13_either_19 ?_
  refine s_bipush dX13_either_21 (by decide +kernel) ?_
  refine s_bipush dX13_either_23 (by decide +kernel) ?_
  refine s_callV hZ.1 (Met_X13_differs hZ) (Nat.le_of_ble_eq_true rfl) vy_X13_differs zcl13 zw3996 zw387 (Or.inl zw3994) dX13_either_25 ?_
  exact (wX13_either_28 hZ)
noncomputable def vX13_either_14 : rx_K := o_ld rx_isI 1 (o_const 8 (o_bi (fun x y => x + y) (vX13_either_17)))
set_option maxRecDepth 20000 in
theorem wX13_either_14 (hZ : zO b e D A X) : rx_OK (zV b e D A X) mX13_either 3 14 vX13_either_14 := by
  unfold vX13_either_14
  refine s_iload_n hZ.1 dX13_either_14 rfl ?_
  refine s_iconst dX13_either_15 (by decide +kernel) ?_
  refine s_iadd dX13_either_16 ?_
  exact (wX13_either_17 hZ)
noncomputable def vX13_either_10 : rx_K := o_ld rx_isI 1 (vX13_either_17)
set_option maxRecDepth 20000 in
theorem wX13_either_10 (hZ : zO b e D A X) : rx_OK (zV b e D A X) mX13_either 3 10 vX13_either_10 := by
  unfold vX13_either_10
  refine s_iload_n hZ.1 dX13_either_10 rfl ?_
  exact s_goto dX13_either_11 (by decide) (wX13_either_17 hZ)
noncomputable def vX13_either_5 : rx_K := o_ld rx_isR 0 (o_ld rx_isI 3 (o_c1 rx_eq vX13_either_14 vX13_either_10))
set_option maxRecDepth 20000 in
theorem wX13_either_5 (hZ : zO b e D A X) : rx_OK (zV b e D A X) mX13_either 3 5 vX13_either_5 := by
  unfold vX13_either_5
  refine s_aload_n hZ.1 dX13_either_5 rfl ?_
  refine s_iload_n hZ.1 dX13_either_6 rfl ?_
  exact s_if_eq dX13_either_7 (by decide) (wX13_either_14 hZ) (wX13_either_10 hZ)
noncomputable def vX13_either_0 : rx_K := o_ld rx_isI 2 (o_ld rx_isI 3 (o_c2 rx_eq vX13_either_28 vX13_either_5))
set_option maxRecDepth 20000 in
theorem wX13_either_0 (hZ : zO b e D A X) : rx_OK (zV b e D A X) mX13_either 3 0 vX13_either_0 := by
  unfold vX13_either_0
  refine s_iload_n hZ.1 dX13_either_0 rfl ?_
  refine s_iload_n hZ.1 dX13_either_1 rfl ?_
  exact s_icmp_eq dX13_either_2 (by decide) (wX13_either_28 hZ) (wX13_either_5 hZ)
noncomputable def FX13_either : List Nat → rx_H → Option (Nat × rx_H) := rx_ent 6 vX13_either_0
theorem Met_X13_either (hZ : zO b e D A X) : rx_Met (zV b e D A X) 3 yX13_either mX13_either (FX13_either) := rx_entry hZ.1 (wX13_either_0 hZ) (by decide +kernel) rfl (fun h => by cases h)
end ZM68

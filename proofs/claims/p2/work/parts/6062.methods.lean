section ZM62
variable {b : Nat} {e : Nat → Value} {D : va_G} {A : Nat → ClassId} {X : State → Prop}
abbrev mX13_broken : rx_M := (RX13, cX13_broken, 6, (some .int), false)
theorem vy_X13_broken : rx_Y (zV b e D A X) yX13_broken mX13_broken 0 := ⟨zw3781, zw431, by decide, by decide +kernel, by decide +kernel, by decide +kernel⟩
noncomputable def vX13_broken_147 (j : Nat → rx_K) : rx_K := o_ld rx_isR 0 (o_getf 13 145 (o_ret1 rx_isI))
set_option maxRecDepth 20000 in
theorem wX13_broken_147 (hZ : zO b e D A X) (j : Nat → rx_K) (hj : ∀ k pc, [7, 21][k]? = some pc → rx_OK (zV b e D A X) mX13_broken 173 pc (j k)) : rx_OK (zV b e D A X) mX13_broken 173 147 (vX13_broken_147 j) := by
  unfold vX13_broken_147
  refine s_aload_n hZ.1 dX13_broken_147 rfl ?_
  refine yg13_145 dX13_broken_148 zw4265 ?_
  exact s_iret hZ.1 rfl dX13_broken_151
noncomputable def vX13_broken_141 (j : Nat → rx_K) : rx_K := o_inc 1 (1) ((j 0))
set_option maxRecDepth 20000 in
theorem wX13_broken_141 (hZ : zO b e D A X) (j : Nat → rx_K) (hj : ∀ k pc, [7, 21][k]? = some pc → rx_OK (zV b e D A X) mX13_broken 173 pc (j k)) : rx_OK (zV b e D A X) mX13_broken 173 141 (vX13_broken_141 j) := by
  unfold vX13_broken_141
  refine s_iinc hZ.1 dX13_broken_141 (Nat.le_of_ble_eq_true rfl) ?_
  exact s_goto dX13_broken_144 (by decide) (hj 0 7 rfl)
noncomputable def vX13_broken_135 (j : Nat → rx_K) : rx_K := o_inc 3 (1) ((j 1))
set_option maxRecDepth 20000 in
theorem wX13_broken_135 (hZ : zO b e D A X) (j : Nat → rx_K) (hj : ∀ k pc, [7, 21][k]? = some pc → rx_OK (zV b e D A X) mX13_broken 173 pc (j k)) : rx_OK (zV b e D A X) mX13_broken 173 135 (vX13_broken_135 j) := by
  unfold vX13_broken_135
  refine s_iinc hZ.1 dX13_broken_135 (Nat.le_of_ble_eq_true rfl) ?_
  exact s_goto dX13_broken_138 (by decide) (hj 1 21 rfl)
noncomputable def vX13_broken_120 (j : Nat → rx_K) : rx_K := o_const 16 (o_bi (fun x y => x + y) (o_ld rx_isI 5 (o_ast 0 (fun v => v) rx_isI (o_ld rx_isR 0 (o_dup (o_getf 13 145 (o_const 8 (o_bi (fun x y => x + y) (o_putf rx_isI 13 145 ((vX13_broken_135 j)))))))))))
set_option maxRecDepth 20000 in
theorem wX13_broken_120 (hZ : zO b e D A X) (j : Nat → rx_K) (hj : ∀ k pc, [7, 21][k]? = some pc → rx_OK (zV b e D A X) mX13_broken 173 pc (j k)) : rx_OK (zV b e D A X) mX13_broken 173 120 (vX13_broken_120 j) := by
  unfold vX13_broken_120
  refine s_iconst dX13_broken_120 (by decide +kernel) ?_
  refine s_iadd dX13_broken_121 ?_
  refine s_iload hZ.1 dX13_broken_122 ?_
  refine s_iast hZ.1 (tt := 0) rfl dX13_broken_124 ?_
  refine s_aload_n hZ.1 dX13_broken_125 rfl ?_
  refine s_dup hZ.1 dX13_broken_126 ?_
  refine yg13_145 dX13_broken_127 zw4265 ?_
  refine s_iconst dX13_broken_130 (by decide +kernel) ?_
  refine s_iadd dX13_broken_131 ?_
  refine yp13_145 hZ.1 dX13_broken_132 zw4265 ?_
  exact (wX13_broken_135 hZ j hj)
noncomputable def vX13_broken_84 (j : Nat → rx_K) : rx_K := o_ld rx_isR 0 (o_getf 13 144 (o_const 24 (o_ld rx_isR 0 (o_getf 13 145 (o_bi (fun x y => x * y) (o_ld rx_isI 1 (o_ast 0 (fun v => v) rx_isI (o_ld rx_isR 0 (o_getf 13 144 (o_const 24 (o_ld rx_isR 0 (o_getf 13 145 (o_bi (fun x y => x * y) (o_const 8 (o_bi (fun x y => x + y) (o_ld rx_isI 3 (o_ast 0 (fun v => v) rx_isI (o_ld rx_isR 0 (o_getf 13 144 (o_const 24 (o_ld rx_isR 0 (o_getf 13 145 (o_bi (fun x y => x * y) ((vX13_broken_120 j)))))))))))))))))))))))))
set_option maxRecDepth 20000 in
theorem wX13_broken_84 (hZ : zO b e D A X) (j : Nat → rx_K) (hj : ∀ k pc, [7, 21][k]? = some pc → rx_OK (zV b e D A X) mX13_broken 173 pc (j k)) : rx_OK (zV b e D A X) mX13_broken 173 84 (vX13_broken_84 j) := by
  unfold vX13_broken_84
  refine s_aload_n hZ.1 dX13_broken_84 rfl ?_
  refine yg13_144 dX13_broken_85 zw4264 ?_
  refine s_iconst dX13_broken_88 (by decide +kernel) ?_
  refine s_aload_n hZ.1 dX13_broken_89 rfl ?_
  refine yg13_145 dX13_broken_90 zw4265 ?_
  refine s_imul dX13_broken_93 ?_
  refine s_iload_n hZ.1 dX13_broken_94 rfl ?_
  refine s_iast hZ.1 (tt := 0) rfl dX13_broken_95 ?_
  refine s_aload_n hZ.1 dX13_broken_96 rfl ?_
  refine yg13_144 dX13_broken_97 zw4264 ?_
  refine s_iconst dX13_broken_100 (by decide +kernel) ?_
  refine s_aload_n hZ.1 dX13_broken_101 rfl ?_
  refine yg13_145 dX13_broken_102 zw4265 ?_
  refine s_imul dX13_broken_105 ?_
  refine s_iconst dX13_broken_106 (by decide +kernel) ?_
  refine s_iadd dX13_broken_107 ?_
  refine s_iload_n hZ.1 dX13_broken_108 rfl ?_
  refine s_iast hZ.1 (tt := 0) rfl dX13_broken_109 ?_
  refine s_aload_n hZ.1 dX13_broken_110 rfl ?_
  refine yg13_144 dX13_broken_111 zw4264 ?_
  refine s_iconst dX13_broken_114 (by decide +kernel) ?_
  refine s_aload_n hZ.1 dX13_broken_115 rfl ?_
  refine yg13_145 dX13_broken_116 zw4265 ?_
  refine s_imul dX13_broken_119 ?_
  exact (wX13_broken_120 hZ j hj)
noncomputable def vX13_broken_77 (j : Nat → rx_K) : rx_K := o_st rx_isI 5 (o_ld rx_isI 5 (o_c1 rx_eq (vX13_broken_135 j) (vX13_broken_84 j)))
set_option maxRecDepth 20000 in
theorem wX13_broken_77 (hZ : zO b e D A X) (j : Nat → rx_K) (hj : ∀ k pc, [7, 21][k]? = some pc → rx_OK (zV b e D A X) mX13_broken 173 pc (j k)) : rx_OK (zV b e D A X) mX13_broken 173 77 (vX13_broken_77 j) := by
  unfold vX13_broken_77
  refine s_istore hZ.1 dX13_broken_77 (Nat.le_of_ble_eq_true rfl) ?_
  refine s_iload hZ.1 dX13_broken_79 ?_
  exact s_if_eq dX13_broken_81 (by decide) (wX13_broken_135 hZ j hj) (wX13_broken_84 hZ j hj)
noncomputable def vX13_broken_76 (j : Nat → rx_K) : rx_K := o_const 0 ((vX13_broken_77 j))
set_option maxRecDepth 20000 in
theorem wX13_broken_76 (hZ : zO b e D A X) (j : Nat → rx_K) (hj : ∀ k pc, [7, 21][k]? = some pc → rx_OK (zV b e D A X) mX13_broken 173 pc (j k)) : rx_OK (zV b e D A X) mX13_broken 173 76 (vX13_broken_76 j) := by
  unfold vX13_broken_76
  refine s_iconst dX13_broken_76 (by decide +kernel) ?_
  exact (wX13_broken_77 hZ j hj)
noncomputable def vX13_broken_67 (j : Nat → rx_K) : rx_K := o_ld rx_isR 0 (o_ld rx_isI 4 (o_callV 1 13 FX13_foretell ((vX13_broken_77 j))))
set_option maxRecDepth 20000 in
theorem wX13_broken_67 (hZ : zO b e D A X) (j : Nat → rx_K) (hj : ∀ k pc, [7, 21][k]? = some pc → rx_OK (zV b e D A X) mX13_broken 173 pc (j k)) : rx_OK (zV b e D A X) mX13_broken 173 67 (vX13_broken_67 j) := by
  unfold vX13_broken_67
  refine s_aload_n hZ.1 dX13_broken_67 rfl ?_
  refine s_iload hZ.1 dX13_broken_68 ?_
  refine s_callV hZ.1 (Met_X13_foretell hZ) (Nat.le_of_ble_eq_true rfl) vy_X13_foretell zcl13 zw3720 zw336 (Or.inl zw3718) dX13_broken_70 ?_
  exact s_goto dX13_broken_73 (by decide) (wX13_broken_77 hZ j hj)
noncomputable def vX13_broken_58 (j : Nat → rx_K) : rx_K := o_ld rx_isR 0 (o_ld rx_isI 4 (o_callV 1 13 FX13_stands_ (o_c1 rx_eq (vX13_broken_76 j) (vX13_broken_67 j))))
set_option maxRecDepth 20000 in
theorem wX13_broken_58 (hZ : zO b e D A X) (j : Nat → rx_K) (hj : ∀ k pc, [7, 21][k]? = some pc → rx_OK (zV b e D A X) mX13_broken 173 pc (j k)) : rx_OK (zV b e D A X) mX13_broken 173 58 (vX13_broken_58 j) := by
  unfold vX13_broken_58
  refine s_aload_n hZ.1 dX13_broken_58 rfl ?_
  refine s_iload hZ.1 dX13_broken_59 ?_
  refine s_callV hZ.1 (Met_X13_stands_ hZ) (Nat.le_of_ble_eq_true rfl) vy_X13_stands_ zcl13 zw3716 zw335 (Or.inl zw3714) dX13_broken_61 ?_
  exact s_if_eq dX13_broken_64 (by decide) (wX13_broken_76 hZ j hj) (wX13_broken_67 hZ j hj)
noncomputable def vX13_broken_37 (j : Nat → rx_K) : rx_K := o_ld rx_isI 2 (o_const 14400 (o_bi (fun x y => x * y) (o_ld rx_isI 3 (o_bi (fun x y => x + y) (o_st rx_isI 4 (o_ld rx_isR 0 (o_getf 13 119 (o_ld rx_isI 4 (o_ald 0 (o_const 128 (o_c2 rx_eq (vX13_broken_76 j) (vX13_broken_58 j))))))))))))
set_option maxRecDepth 20000 in
theorem wX13_broken_37 (hZ : zO b e D A X) (j : Nat → rx_K) (hj : ∀ k pc, [7, 21][k]? = some pc → rx_OK (zV b e D A X) mX13_broken 173 pc (j k)) : rx_OK (zV b e D A X) mX13_broken 173 37 (vX13_broken_37 j) := by
  unfold vX13_broken_37
  refine s_iload_n hZ.1 dX13_broken_37 rfl ?_
  refine s_sipush dX13_broken_38 (by decide +kernel) ?_
  refine s_imul dX13_broken_41 ?_
  refine s_iload_n hZ.1 dX13_broken_42 rfl ?_
  refine s_iadd dX13_broken_43 ?_
  refine s_istore hZ.1 dX13_broken_44 (Nat.le_of_ble_eq_true rfl) ?_
  refine s_aload_n hZ.1 dX13_broken_46 rfl ?_
  refine yg13_119 dX13_broken_47 zw4239 ?_
  refine s_iload hZ.1 dX13_broken_50 ?_
  refine s_iald (tt := 0) rfl dX13_broken_52 ?_
  refine s_bipush dX13_broken_53 (by decide +kernel) ?_
  exact s_icmp_eq dX13_broken_55 (by decide) (wX13_broken_76 hZ j hj) (wX13_broken_58 hZ j hj)
noncomputable def vX13_broken_27 (j : Nat → rx_K) : rx_K := o_ld rx_isI 3 (o_ld rx_isR 0 (o_getf 13 118 (o_ld rx_isI 2 (o_ald 0 (o_c2 rx_lt (vX13_broken_37 j) (vX13_broken_141 j))))))
set_option maxRecDepth 20000 in
theorem wX13_broken_27 (hZ : zO b e D A X) (j : Nat → rx_K) (hj : ∀ k pc, [7, 21][k]? = some pc → rx_OK (zV b e D A X) mX13_broken 173 pc (j k)) : rx_OK (zV b e D A X) mX13_broken 173 27 (vX13_broken_27 j) := by
  unfold vX13_broken_27
  refine s_iload_n hZ.1 dX13_broken_27 rfl ?_
  refine s_aload_n hZ.1 dX13_broken_28 rfl ?_
  refine yg13_118 dX13_broken_29 zw4238 ?_
  refine s_iload_n hZ.1 dX13_broken_32 rfl ?_
  refine s_iald (tt := 0) rfl dX13_broken_33 ?_
  exact s_icmp_ge dX13_broken_34 (by decide) (wX13_broken_141 hZ j hj) (wX13_broken_37 hZ j hj)
noncomputable def vX13_broken_21 (j : Nat → rx_K) : rx_K := o_ld rx_isI 2 (o_const 34359738352 (o_c2 rx_eq (vX13_broken_141 j) (vX13_broken_27 j)))
set_option maxRecDepth 20000 in
theorem wX13_broken_21 (hZ : zO b e D A X) (j : Nat → rx_K) (hj : ∀ k pc, [7, 21][k]? = some pc → rx_OK (zV b e D A X) mX13_broken 173 pc (j k)) : rx_OK (zV b e D A X) mX13_broken 173 21 (vX13_broken_21 j) := by
  unfold vX13_broken_21
  refine s_iload_n hZ.1 dX13_broken_21 rfl ?_
  refine s_bipush dX13_broken_22 (by decide +kernel) ?_
  exact s_icmp_eq dX13_broken_24 (by decide) (wX13_broken_141 hZ j hj) (wX13_broken_27 hZ j hj)
noncomputable def vX13_broken_12 (j : Nat → rx_K) : rx_K := o_ld rx_isR 0 (o_getf 13 90 (o_ld rx_isI 1 (o_ald 0 (o_st rx_isI 2 (o_const 0 (o_st rx_isI 3 ((vX13_broken_21 j))))))))
set_option maxRecDepth 20000 in
theorem wX13_broken_12 (hZ : zO b e D A X) (j : Nat → rx_K) (hj : ∀ k pc, [7, 21][k]? = some pc → rx_OK (zV b e D A X) mX13_broken 173 pc (j k)) : rx_OK (zV b e D A X) mX13_broken 173 12 (vX13_broken_12 j) := by
  unfold vX13_broken_12
  refine s_aload_n hZ.1 dX13_broken_12 rfl ?_
  refine yg13_90 dX13_broken_13 zw4211 ?_
  refine s_iload_n hZ.1 dX13_broken_16 rfl ?_
  refine s_iald (tt := 0) rfl dX13_broken_17 ?_
  refine s_istore_n hZ.1 dX13_broken_18 rfl (Nat.le_of_ble_eq_true rfl) ?_
  refine s_iconst dX13_broken_19 (by decide +kernel) ?_
  refine s_istore_n hZ.1 dX13_broken_20 rfl (Nat.le_of_ble_eq_true rfl) ?_
  exact (wX13_broken_21 hZ j hj)
noncomputable def vX13_broken_7 (j : Nat → rx_K) : rx_K := o_ld rx_isI 1 (o_const 40 (o_c2 rx_lt (vX13_broken_12 j) (vX13_broken_147 j)))
set_option maxRecDepth 20000 in
theorem wX13_broken_7 (hZ : zO b e D A X) (j : Nat → rx_K) (hj : ∀ k pc, [7, 21][k]? = some pc → rx_OK (zV b e D A X) mX13_broken 173 pc (j k)) : rx_OK (zV b e D A X) mX13_broken 173 7 (vX13_broken_7 j) := by
  unfold vX13_broken_7
  refine s_iload_n hZ.1 dX13_broken_7 rfl ?_
  refine s_iconst dX13_broken_8 (by decide +kernel) ?_
  exact s_icmp_ge dX13_broken_9 (by decide) (wX13_broken_147 hZ j hj) (wX13_broken_12 hZ j hj)
noncomputable def vX13_broken_0 (j : Nat → rx_K) : rx_K := o_ld rx_isR 0 (o_const 0 (o_putf rx_isI 13 145 (o_const 0 (o_st rx_isI 1 ((vX13_broken_7 j))))))
set_option maxRecDepth 20000 in
theorem wX13_broken_0 (hZ : zO b e D A X) (j : Nat → rx_K) (hj : ∀ k pc, [7, 21][k]? = some pc → rx_OK (zV b e D A X) mX13_broken 173 pc (j k)) : rx_OK (zV b e D A X) mX13_broken 173 0 (vX13_broken_0 j) := by
  unfold vX13_broken_0
  refine s_aload_n hZ.1 dX13_broken_0 rfl ?_
  refine s_iconst dX13_broken_1 (by decide +kernel) ?_
  refine yp13_145 hZ.1 dX13_broken_2 zw4265 ?_
  refine s_iconst dX13_broken_5 (by decide +kernel) ?_
  refine s_istore_n hZ.1 dX13_broken_6 rfl (Nat.le_of_ble_eq_true rfl) ?_
  exact (wX13_broken_7 hZ j hj)
noncomputable def vhX13_broken (j : Nat → rx_K) : List rx_K := [vX13_broken_7 j, vX13_broken_21 j]
theorem vlX13_broken (hZ : zO b e D A X) : ∀ n k pc, [7, 21][k]? = some pc → rx_OK (zV b e D A X) mX13_broken 173 pc (rx_J (vhX13_broken) n k) := rx_loop fun j hj k pc h => by
  match k, h with
  | 0, h =>
    have e9 := Option.some.inj (show some 7 = some pc from h)
    subst e9
    exact wX13_broken_7 hZ j hj
  | 1, h =>
    have e9 := Option.some.inj (show some 21 = some pc from h)
    subst e9
    exact wX13_broken_21 hZ j hj
  | _ + 2, h => exact absurd h (by simp)
noncomputable def FX13_broken : List Nat → rx_H → Option (Nat × rx_H) := rx_ent 6 (vX13_broken_0 (rx_J (vhX13_broken) 4000000000))
theorem Met_X13_broken (hZ : zO b e D A X) : rx_Met (zV b e D A X) 173 yX13_broken mX13_broken (FX13_broken) := rx_entry hZ.1 (wX13_broken_0 hZ _ (vlX13_broken hZ 4000000000)) (by decide +kernel) rfl (fun h => by cases h)
abbrev mX13_isBroken : rx_M := (RX13, cX13_isBroken, 5, (some .boolean), false)
theorem vy_X13_isBroken : rx_Y (zV b e D A X) yX13_isBroken mX13_isBroken 0 := ⟨zw3797, zw431, by decide, by decide +kernel, by decide +kernel, by decide +kernel⟩
noncomputable def vX13_isBroken_85 (j : Nat → rx_K) : rx_K := o_const 0 (o_ret1 rx_isZ)
set_option maxRecDepth 20000 in
theorem wX13_isBroken_85 (hZ : zO b e D A X) (j : Nat → rx_K) (hj : ∀ k pc, [2, 16][k]? = some pc → rx_OK (zV b e D A X) mX13_isBroken 173 pc (j k)) : rx_OK (zV b e D A X) mX13_isBroken 173 85 (vX13_isBroken_85 j) := by
  unfold vX13_isBroken_85
  refine s_iconst dX13_isBroken_85 (by decide +kernel) ?_
  exact s_zret rx_z_ok rfl dX13_isBroken_86
noncomputable def vX13_isBroken_79 (j : Nat → rx_K) : rx_K := o_inc 1 (1) ((j 0))
set_option maxRecDepth 20000 in
theorem wX13_isBroken_79 (hZ : zO b e D A X) (j : Nat → rx_K) (hj : ∀ k pc, [2, 16][k]? = some pc → rx_OK (zV b e D A X) mX13_isBroken 173 pc (j k)) : rx_OK (zV b e D A X) mX13_isBroken 173 79 (vX13_isBroken_79 j) := by
  unfold vX13_isBroken_79
  refine s_iinc hZ.1 dX13_isBroken_79 (Nat.le_of_ble_eq_true rfl) ?_
  exact s_goto dX13_isBroken_82 (by decide) (hj 0 2 rfl)
noncomputable def vX13_isBroken_73 (j : Nat → rx_K) : rx_K := o_inc 3 (1) ((j 1))
set_option maxRecDepth 20000 in
theorem wX13_isBroken_73 (hZ : zO b e D A X) (j : Nat → rx_K) (hj : ∀ k pc, [2, 16][k]? = some pc → rx_OK (zV b e D A X) mX13_isBroken 173 pc (j k)) : rx_OK (zV b e D A X) mX13_isBroken 173 73 (vX13_isBroken_73 j) := by
  unfold vX13_isBroken_73
  refine s_iinc hZ.1 dX13_isBroken_73 (Nat.le_of_ble_eq_true rfl) ?_
  exact s_goto dX13_isBroken_76 (by decide) (hj 1 16 rfl)
noncomputable def vX13_isBroken_71 (j : Nat → rx_K) : rx_K := o_const 8 (o_ret1 rx_isZ)
set_option maxRecDepth 20000 in
theorem wX13_isBroken_71 (hZ : zO b e D A X) (j : Nat → rx_K) (hj : ∀ k pc, [2, 16][k]? = some pc → rx_OK (zV b e D A X) mX13_isBroken 173 pc (j k)) : rx_OK (zV b e D A X) mX13_isBroken 173 71 (vX13_isBroken_71 j) := by
  unfold vX13_isBroken_71
  refine s_iconst dX13_isBroken_71 (by decide +kernel) ?_
  exact s_zret rx_z_ok rfl dX13_isBroken_72
noncomputable def vX13_isBroken_62 (j : Nat → rx_K) : rx_K := o_ld rx_isR 0 (o_ld rx_isI 4 (o_callV 1 13 FX13_foretell (o_c1 rx_eq (vX13_isBroken_73 j) (vX13_isBroken_71 j))))
set_option maxRecDepth 20000 in
theorem wX13_isBroken_62 (hZ : zO b e D A X) (j : Nat → rx_K) (hj : ∀ k pc, [2, 16][k]? = some pc → rx_OK (zV b e D A X) mX13_isBroken 173 pc (j k)) : rx_OK (zV b e D A X) mX13_isBroken 173 62 (vX13_isBroken_62 j) := by
  unfold vX13_isBroken_62
  refine s_aload_n hZ.1 dX13_isBroken_62 rfl ?_
  refine s_iload hZ.1 dX13_isBroken_63 ?_
  refine s_callV hZ.1 (Met_X13_foretell hZ) (Nat.le_of_ble_eq_true rfl) vy_X13_foretell zcl13 zw3720 zw336 (Or.inl zw3718) dX13_isBroken_65 ?_
  exact s_if_eq dX13_isBroken_68 (by decide) (wX13_isBroken_73 hZ j hj) (wX13_isBroken_71 hZ j hj)
noncomputable def vX13_isBroken_53 (j : Nat → rx_K) : rx_K := o_ld rx_isR 0 (o_ld rx_isI 4 (o_callV 1 13 FX13_stands_ (o_c1 rx_eq (vX13_isBroken_73 j) (vX13_isBroken_62 j))))
set_option maxRecDepth 20000 in
theorem wX13_isBroken_53 (hZ : zO b e D A X) (j : Nat → rx_K) (hj : ∀ k pc, [2, 16][k]? = some pc → rx_OK (zV b e D A X) mX13_isBroken 173 pc (j k)) : rx_OK (zV b e D A X) mX13_isBroken 173 53 (vX13_isBroken_53 j) := by
  unfold vX13_isBroken_53
  refine s_aload_n hZ.1 dX13_isBroken_53 rfl ?_
  refine s_iload hZ.1 dX13_isBroken_54 ?_
  refine s_callV hZ.1 (Met_X13_stands_ hZ) (Nat.le_of_ble_eq_true rfl) vy_X13_stands_ zcl13 zw3716 zw335 (Or.inl zw3714) dX13_isBroken_56 ?_
  exact s_if_eq dX13_isBroken_59 (by decide) (wX13_isBroken_73 hZ j hj) (wX13_isBroken_62 hZ j hj)
noncomputable def vX13_isBroken_32 (j : Nat → rx_K) : rx_K := o_ld rx_isI 2 (o_const 14400 (o_bi (fun x y => x * y) (o_ld rx_isI 3 (o_bi (fun x y => x + y) (o_st rx_isI 4 (o_ld rx_isR 0 (o_getf 13 119 (o_ld rx_isI 4 (o_ald 0 (o_const 128 (o_c2 rx_eq (vX13_isBroken_73 j) (vX13_isBroken_53 j))))))))))))
set_option maxRecDepth 20000 in
theorem wX13_isBroken_32 (hZ : zO b e D A X) (j : Nat → rx_K) (hj : ∀ k pc, [2, 16][k]? = some pc → rx_OK (zV b e D A X) mX13_isBroken 173 pc (j k)) : rx_OK (zV b e D A X) mX13_isBroken 173 32 (vX13_isBroken_32 j) := by
  unfold vX13_isBroken_32
  refine s_iload_n hZ.1 dX13_isBroken_32 rfl ?_
  refine s_sipush dX13_isBroken_33 (by decide +kernel) ?_
  refine s_imul dX13_isBroken_36 ?_
  refine s_iload_n hZ.1 dX13_isBroken_37 rfl ?_
  refine s_iadd dX13_isBroken_38 ?_
  refine s_istore hZ.1 dX13_isBroken_39 (Nat.le_of_ble_eq_true rfl) ?_
  refine s_aload_n hZ.1 dX13_isBroken_41 rfl ?_
  refine yg13_119 dX13_isBroken_42 zw4239 ?_
  refine s_iload hZ.1 dX13_isBroken_45 ?_
  refine s_iald (tt := 0) rfl dX13_isBroken_47 ?_
  refine s_bipush dX13_isBroken_48 (by decide +kernel) ?_
  exact s_icmp_eq dX13_isBroken_50 (by decide) (wX13_isBroken_73 hZ j hj) (wX13_isBroken_53 hZ j hj)
noncomputable def vX13_isBroken_22 (j : Nat → rx_K) : rx_K := o_ld rx_isI 3 (o_ld rx_isR 0 (o_getf 13 118 (o_ld rx_isI 2 (o_ald 0 (o_c2 rx_lt (vX13_isBroken_32 j) (vX13_isBroken_79 j))))))
set_option maxRecDepth 20000 in
theorem wX13_isBroken_22 (hZ : zO b e D A X) (j : Nat → rx_K) (hj : ∀ k pc, [2, 16][k]? = some pc → rx_OK (zV b e D A X) mX13_isBroken 173 pc (j k)) : rx_OK (zV b e D A X) mX13_isBroken 173 22 (vX13_isBroken_22 j) := by
  unfold vX13_isBroken_22
  refine s_iload_n hZ.1 dX13_isBroken_22 rfl ?_
  refine s_aload_n hZ.1 dX13_isBroken_23 rfl ?_
  refine yg13_118 dX13_isBroken_24 zw4238 ?_
  refine s_iload_n hZ.1 dX13_isBroken_27 rfl ?_
  refine s_iald (tt := 0) rfl dX13_isBroken_28 ?_
  exact s_icmp_ge dX13_isBroken_29 (by decide) (wX13_isBroken_79 hZ j hj) (wX13_isBroken_32 hZ j hj)
noncomputable def vX13_isBroken_16 (j : Nat → rx_K) : rx_K := o_ld rx_isI 2 (o_const 34359738352 (o_c2 rx_eq (vX13_isBroken_79 j) (vX13_isBroken_22 j)))
set_option maxRecDepth 20000 in
theorem wX13_isBroken_16 (hZ : zO b e D A X) (j : Nat → rx_K) (hj : ∀ k pc, [2, 16][k]? = some pc → rx_OK (zV b e D A X) mX13_isBroken 173 pc (j k)) : rx_OK (zV b e D A X) mX13_isBroken 173 16 (vX13_isBroken_16 j) := by
  unfold vX13_isBroken_16
  refine s_iload_n hZ.1 dX13_isBroken_16 rfl ?_
  refine s_bipush dX13_isBroken_17 (by decide +kernel) ?_
  exact s_icmp_eq dX13_isBroken_19 (by decide) (wX13_isBroken_79 hZ j hj) (wX13_isBroken_22 hZ j hj)
noncomputable def vX13_isBroken_7 (j : Nat → rx_K) : rx_K := o_ld rx_isR 0 (o_getf 13 90 (o_ld rx_isI 1 (o_ald 0 (o_st rx_isI 2 (o_const 0 (o_st rx_isI 3 ((vX13_isBroken_16 j))))))))
set_option maxRecDepth 20000 in
theorem wX13_isBroken_7 (hZ : zO b e D A X) (j : Nat → rx_K) (hj : ∀ k pc, [2, 16][k]? = some pc → rx_OK (zV b e D A X) mX13_isBroken 173 pc (j k)) : rx_OK (zV b e D A X) mX13_isBroken 173 7 (vX13_isBroken_7 j) := by
  unfold vX13_isBroken_7
  refine s_aload_n hZ.1 dX13_isBroken_7 rfl ?_
  refine yg13_90 dX13_isBroken_8 zw4211 ?_
  refine s_iload_n hZ.1 dX13_isBroken_11 rfl ?_
  refine s_iald (tt := 0) rfl dX13_isBroken_12 ?_
  refine s_istore_n hZ.1 dX13_isBroken_13 rfl (Nat.le_of_ble_eq_true rfl) ?_
  refine s_iconst dX13_isBroken_14 (by decide +kernel) ?_
  refine s_istore_n hZ.1 dX13_isBroken_15 rfl (Nat.le_of_ble_eq_true rfl) ?_
  exact (wX13_isBroken_16 hZ j hj)
noncomputable def vX13_isBroken_2 (j : Nat → rx_K) : rx_K := o_ld rx_isI 1 (o_const 40 (o_c2 rx_lt (vX13_isBroken_7 j) (vX13_isBroken_85 j)))
set_option maxRecDepth 20000 in
theorem wX13_isBroken_2 (hZ : zO b e D A X) (j : Nat → rx_K) (hj : ∀ k pc, [2, 16][k]? = some pc → rx_OK (zV b e D A X) mX13_isBroken 173 pc (j k)) : rx_OK (zV b e D A X) mX13_isBroken 173 2 (vX13_isBroken_2 j) := by
  unfold vX13_isBroken_2
  refine s_iload_n hZ.1 dX13_isBroken_2 rfl ?_
  refine s_iconst dX13_isBroken_3 (by decide +kernel) ?_
  exact s_icmp_ge dX13_isBroken_4 (by decide) (wX13_isBroken_85 hZ j hj) (wX13_isBroken_7 hZ j hj)
noncomputable def vX13_isBroken_0 (j : Nat → rx_K) : rx_K := o_const 0 (o_st rx_isI 1 ((vX13_isBroken_2 j)))
set_option maxRecDepth 20000 in
theorem wX13_isBroken_0 (hZ : zO b e D A X) (j : Nat → rx_K) (hj : ∀ k pc, [2, 16][k]? = some pc → rx_OK (zV b e D A X) mX13_isBroken 173 pc (j k)) : rx_OK (zV b e D A X) mX13_isBroken 173 0 (vX13_isBroken_0 j) := by
  unfold vX13_isBroken_0
  refine s_iconst dX13_isBroken_0 (by decide +kernel) ?_
  refine s_istore_n hZ.1 dX13_isBroken_1 rfl (Nat.le_of_ble_eq_true rfl) ?_
  exact (wX13_isBroken_2 hZ j hj)
noncomputable def vhX13_isBroken (j : Nat → rx_K) : List rx_K := [vX13_isBroken_2 j, vX13_isBroken_16 j]
theorem vlX13_isBroken (hZ : zO b e D A X) : ∀ n k pc, [2, 16][k]? = some pc → rx_OK (zV b e D A X) mX13_isBroken 173 pc (rx_J (vhX13_isBroken) n k) := rx_loop fun j hj k pc h => by
  match k, h with
  | 0, h =>
    have e9 := Option.some.inj (show some 2 = some pc from h)
    subst e9
    exact wX13_isBroken_2 hZ j hj
  | 1, h =>
    have e9 := Option.some.inj (show some 16 = some pc from h)
    subst e9
    exact wX13_isBroken_16 hZ j hj
  | _ + 2, h => exact absurd h (by simp)
noncomputable def FX13_isBroken : List Nat → rx_H → Option (Nat × rx_H) := rx_ent 5 (vX13_isBroken_0 (rx_J (vhX13_isBroken) 4000000000))
theorem Met_X13_isBroken (hZ : zO b e D A X) : rx_Met (zV b e D A X) 173 yX13_isBroken mX13_isBroken (FX13_isBroken) := rx_entry hZ.1 (wX13_isBroken_0 hZ _ (vlX13_isBroken hZ 4000000000)) (by decide +kernel) rfl (fun h => by cases h)
abbrev mX13_brokenAt : rx_M := (RX13, cX13_brokenAt, 3, (some .int), false)
theorem vy_X13_brokenAt : rx_Y (zV b e D A X) yX13_brokenAt mX13_brokenAt 2 := ⟨zw3785, zw431, by decide, by decide +kernel, by decide +kernel, by decide +kernel⟩
noncomputable def vX13_brokenAt_35 : rx_K := o_ret1 rx_isI
set_option maxRecDepth 20000 in
theorem wX13_brokenAt_35 (hZ : zO b e D A X) : rx_OK (zV b e D A X) mX13_brokenAt 0 35 vX13_brokenAt_35 := by
  unfold vX13_brokenAt_35
  exact s_iret hZ.1 rfl dX13_brokenAt_35
noncomputable def vX13_brokenAt_25 : rx_K := o_ld rx_isR 0 (o_getf 13 144 (o_const 24 (o_ld rx_isI 1 (o_bi (fun x y => x * y) (o_ld rx_isI 2 (o_bi (fun x y => x + y) (o_ald 0 (vX13_brokenAt_35))))))))
set_option maxRecDepth 20000 in
theorem wX13_brokenAt_25 (hZ : zO b e D A X) : rx_OK (zV b e D A X) mX13_brokenAt 0 25 vX13_brokenAt_25 := by
  unfold vX13_brokenAt_25
  refine s_aload_n hZ.1 dX13_brokenAt_25 rfl ?_
  refine yg13_144 dX13_brokenAt_26 zw4264 ?_
  refine s_iconst dX13_brokenAt_29 (by decide +kernel) ?_
  refine s_iload_n hZ.1 dX13_brokenAt_30 rfl ?_
  refine s_imul dX13_brokenAt_31 ?_
  refine s_iload_n hZ.1 dX13_brokenAt_32 rfl ?_
  refine s_iadd dX13_brokenAt_33 ?_
  refine s_iald (tt := 0) rfl dX13_brokenAt_34 ?_
  exact (wX13_brokenAt_35 hZ)
noncomputable def vX13_brokenAt_21 : rx_K := o_const 34359738360 (vX13_brokenAt_35)
set_option maxRecDepth 20000 in
theorem wX13_brokenAt_21 (hZ : zO b e D A X) : rx_OK (zV b e D A X) mX13_brokenAt 0 21 vX13_brokenAt_21 := by
  unfold vX13_brokenAt_21
  refine s_iconst dX13_brokenAt_21 (by decide +kernel) ?_
  exact s_goto dX13_brokenAt_22 (by decide) (wX13_brokenAt_35 hZ)
noncomputable def vX13_brokenAt_16 : rx_K := o_ld rx_isI 2 (o_const 16 (o_c2 (fun h x y => rx_lt h y x) vX13_brokenAt_21 vX13_brokenAt_25))
set_option maxRecDepth 20000 in
theorem wX13_brokenAt_16 (hZ : zO b e D A X) : rx_OK (zV b e D A X) mX13_brokenAt 0 16 vX13_brokenAt_16 := by
  unfold vX13_brokenAt_16
  refine s_iload_n hZ.1 dX13_brokenAt_16 rfl ?_
  refine s_iconst dX13_brokenAt_17 (by decide +kernel) ?_
  exact s_icmp_le dX13_brokenAt_18 (by decide) (wX13_brokenAt_25 hZ) (wX13_brokenAt_21 hZ)
noncomputable def vX13_brokenAt_12 : rx_K := o_ld rx_isI 2 (o_c1 rx_lt vX13_brokenAt_21 vX13_brokenAt_16)
set_option maxRecDepth 20000 in
theorem wX13_brokenAt_12 (hZ : zO b e D A X) : rx_OK (zV b e D A X) mX13_brokenAt 0 12 vX13_brokenAt_12 := by
  unfold vX13_brokenAt_12
  refine s_iload_n hZ.1 dX13_brokenAt_12 rfl ?_
  exact s_if_lt dX13_brokenAt_13 (by decide) (wX13_brokenAt_21 hZ) (wX13_brokenAt_16 hZ)
noncomputable def vX13_brokenAt_4 : rx_K := o_ld rx_isI 1 (o_ld rx_isR 0 (o_getf 13 145 (o_c2 rx_lt vX13_brokenAt_12 vX13_brokenAt_21)))
set_option maxRecDepth 20000 in
theorem wX13_brokenAt_4 (hZ : zO b e D A X) : rx_OK (zV b e D A X) mX13_brokenAt 0 4 vX13_brokenAt_4 := by
  unfold vX13_brokenAt_4
  refine s_iload_n hZ.1 dX13_brokenAt_4 rfl ?_
  refine s_aload_n hZ.1 dX13_brokenAt_5 rfl ?_
  refine yg13_145 dX13_brokenAt_6 zw4265 ?_
  exact s_icmp_ge dX13_brokenAt_9 (by decide) (wX13_brokenAt_21 hZ) (wX13_brokenAt_12 hZ)
noncomputable def vX13_brokenAt_0 : rx_K := o_ld rx_isI 1 (o_c1 rx_lt vX13_brokenAt_21 vX13_brokenAt_4)
set_option maxRecDepth 20000 in
theorem wX13_brokenAt_0 (hZ : zO b e D A X) : rx_OK (zV b e D A X) mX13_brokenAt 0 0 vX13_brokenAt_0 := by
  unfold vX13_brokenAt_0
  refine s_iload_n hZ.1 dX13_brokenAt_0 rfl ?_
  exact s_if_lt dX13_brokenAt_1 (by decide) (wX13_brokenAt_21 hZ) (wX13_brokenAt_4 hZ)
noncomputable def FX13_brokenAt : List Nat → rx_H → Option (Nat × rx_H) := rx_ent 3 vX13_brokenAt_0
theorem Met_X13_brokenAt (hZ : zO b e D A X) : rx_Met (zV b e D A X) 0 yX13_brokenAt mX13_brokenAt (FX13_brokenAt) := rx_entry hZ.1 (wX13_brokenAt_0 hZ) (by decide +kernel) rfl (fun h => by cases h)
abbrev mX13_stale : rx_M := (RX13, cX13_stale, 6, (some .int), false)
theorem vy_X13_stale : rx_Y (zV b e D A X) yX13_stale mX13_stale 0 := ⟨zw3789, zw431, by decide, by decide +kernel, by decide +kernel, by decide +kernel⟩
noncomputable def vX13_stale_96 (j : Nat → rx_K) : rx_K := o_ld rx_isI 1 (o_ret1 rx_isI)
set_option maxRecDepth 20000 in
theorem wX13_stale_96 (hZ : zO b e D A X) (j : Nat → rx_K) (hj : ∀ k pc, [4, 19][k]? = some pc → rx_OK (zV b e D A X) mX13_stale 5 pc (j k)) : rx_OK (zV b e D A X) mX13_stale 5 96 (vX13_stale_96 j) := by
  unfold vX13_stale_96
  refine s_iload_n hZ.1 dX13_stale_96 rfl ?_
  exact s_iret hZ.1 rfl dX13_stale_97
noncomputable def vX13_stale_90 (j : Nat → rx_K) : rx_K := o_inc 2 (1) ((j 0))
set_option maxRecDepth 20000 in
theorem wX13_stale_90 (hZ : zO b e D A X) (j : Nat → rx_K) (hj : ∀ k pc, [4, 19][k]? = some pc → rx_OK (zV b e D A X) mX13_stale 5 pc (j k)) : rx_OK (zV b e D A X) mX13_stale 5 90 (vX13_stale_90 j) := by
  unfold vX13_stale_90
  refine s_iinc hZ.1 dX13_stale_90 (Nat.le_of_ble_eq_true rfl) ?_
  exact s_goto dX13_stale_93 (by decide) (hj 0 4 rfl)
noncomputable def vX13_stale_82 (j : Nat → rx_K) : rx_K := o_bi (fun x y => x + y) (o_st rx_isI 1 (o_inc 4 (1) ((j 1))))
set_option maxRecDepth 20000 in
theorem wX13_stale_82 (hZ : zO b e D A X) (j : Nat → rx_K) (hj : ∀ k pc, [4, 19][k]? = some pc → rx_OK (zV b e D A X) mX13_stale 5 pc (j k)) : rx_OK (zV b e D A X) mX13_stale 5 82 (vX13_stale_82 j) := by
  unfold vX13_stale_82
  refine s_iadd dX13_stale_82 ?_
  refine s_istore_n hZ.1 dX13_stale_83 rfl (Nat.le_of_ble_eq_true rfl) ?_
  refine s_iinc hZ.1 dX13_stale_84 (Nat.le_of_ble_eq_true rfl) ?_
  exact s_goto dX13_stale_87 (by decide) (hj 1 19 rfl)
noncomputable def vX13_stale_81 (j : Nat → rx_K) : rx_K := o_const 0 ((vX13_stale_82 j))
set_option maxRecDepth 20000 in
theorem wX13_stale_81 (hZ : zO b e D A X) (j : Nat → rx_K) (hj : ∀ k pc, [4, 19][k]? = some pc → rx_OK (zV b e D A X) mX13_stale 5 pc (j k)) : rx_OK (zV b e D A X) mX13_stale 5 81 (vX13_stale_81 j) := by
  unfold vX13_stale_81
  refine s_iconst dX13_stale_81 (by decide +kernel) ?_
  exact (wX13_stale_82 hZ j hj)
noncomputable def vX13_stale_77 (j : Nat → rx_K) : rx_K := o_const 8 ((vX13_stale_82 j))
set_option maxRecDepth 20000 in
theorem wX13_stale_77 (hZ : zO b e D A X) (j : Nat → rx_K) (hj : ∀ k pc, [4, 19][k]? = some pc → rx_OK (zV b e D A X) mX13_stale 5 pc (j k)) : rx_OK (zV b e D A X) mX13_stale 5 77 (vX13_stale_77 j) := by
  unfold vX13_stale_77
  refine s_iconst dX13_stale_77 (by decide +kernel) ?_
  exact s_goto dX13_stale_78 (by decide) (wX13_stale_82 hZ j hj)
noncomputable def vX13_stale_68 (j : Nat → rx_K) : rx_K := o_ld rx_isR 0 (o_ld rx_isI 5 (o_callV 1 13 FX13_isStale (o_c1 rx_eq (vX13_stale_81 j) (vX13_stale_77 j))))
set_option maxRecDepth 20000 in
theorem wX13_stale_68 (hZ : zO b e D A X) (j : Nat → rx_K) (hj : ∀ k pc, [4, 19][k]? = some pc → rx_OK (zV b e D A X) mX13_stale 5 pc (j k)) : rx_OK (zV b e D A X) mX13_stale 5 68 (vX13_stale_68 j) := by
  unfold vX13_stale_68
  refine s_aload_n hZ.1 dX13_stale_68 rfl ?_
  refine s_iload hZ.1 dX13_stale_69 ?_
  refine s_callV hZ.1 (Met_X13_isStale hZ) (Nat.le_of_ble_eq_true rfl) vy_X13_isStale zcl13 zw3728 zw338 (Or.inl zw3726) dX13_stale_71 ?_
  exact s_if_eq dX13_stale_74 (by decide) (wX13_stale_81 hZ j hj) (wX13_stale_77 hZ j hj)
noncomputable def vX13_stale_59 (j : Nat → rx_K) : rx_K := o_ld rx_isR 0 (o_ld rx_isI 5 (o_callV 1 13 FX13_stands_ (o_c1 rx_eq (vX13_stale_81 j) (vX13_stale_68 j))))
set_option maxRecDepth 20000 in
theorem wX13_stale_59 (hZ : zO b e D A X) (j : Nat → rx_K) (hj : ∀ k pc, [4, 19][k]? = some pc → rx_OK (zV b e D A X) mX13_stale 5 pc (j k)) : rx_OK (zV b e D A X) mX13_stale 5 59 (vX13_stale_59 j) := by
  unfold vX13_stale_59
  refine s_aload_n hZ.1 dX13_stale_59 rfl ?_
  refine s_iload hZ.1 dX13_stale_60 ?_
  refine s_callV hZ.1 (Met_X13_stands_ hZ) (Nat.le_of_ble_eq_true rfl) vy_X13_stands_ zcl13 zw3716 zw335 (Or.inl zw3714) dX13_stale_62 ?_
  exact s_if_eq dX13_stale_65 (by decide) (wX13_stale_81 hZ j hj) (wX13_stale_68 hZ j hj)
noncomputable def vX13_stale_36 (j : Nat → rx_K) : rx_K := o_ld rx_isI 3 (o_const 14400 (o_bi (fun x y => x * y) (o_ld rx_isI 4 (o_bi (fun x y => x + y) (o_st rx_isI 5 (o_ld rx_isI 1 (o_ld rx_isR 0 (o_getf 13 119 (o_ld rx_isI 5 (o_ald 0 (o_const 128 (o_c2 rx_eq (vX13_stale_59 j) (vX13_stale_81 j)))))))))))))
set_option maxRecDepth 20000 in
theorem wX13_stale_36 (hZ : zO b e D A X) (j : Nat → rx_K) (hj : ∀ k pc, [4, 19][k]? = some pc → rx_OK (zV b e D A X) mX13_stale 5 pc (j k)) : rx_OK (zV b e D A X) mX13_stale 5 36 (vX13_stale_36 j) := by
  unfold vX13_stale_36
  refine s_iload_n hZ.1 dX13_stale_36 rfl ?_
  refine s_sipush dX13_stale_37 (by decide +kernel) ?_
  refine s_imul dX13_stale_40 ?_
  refine s_iload hZ.1 dX13_stale_41 ?_
  refine s_iadd dX13_stale_43 ?_
  refine s_istore hZ.1 dX13_stale_44 (Nat.le_of_ble_eq_true rfl) ?_
  refine s_iload_n hZ.1 dX13_stale_46 rfl ?_
  refine s_aload_n hZ.1 dX13_stale_47 rfl ?_
  refine yg13_119 dX13_stale_48 zw4239 ?_
  refine s_iload hZ.1 dX13_stale_51 ?_
  refine s_iald (tt := 0) rfl dX13_stale_53 ?_
  refine s_bipush dX13_stale_54 (by decide +kernel) ?_
  exact s_icmp_ne dX13_stale_56 (by decide) (wX13_stale_81 hZ j hj) (wX13_stale_59 hZ j hj)
noncomputable def vX13_stale_25 (j : Nat → rx_K) : rx_K := o_ld rx_isI 4 (o_ld rx_isR 0 (o_getf 13 118 (o_ld rx_isI 3 (o_ald 0 (o_c2 rx_lt (vX13_stale_36 j) (vX13_stale_90 j))))))
set_option maxRecDepth 20000 in
theorem wX13_stale_25 (hZ : zO b e D A X) (j : Nat → rx_K) (hj : ∀ k pc, [4, 19][k]? = some pc → rx_OK (zV b e D A X) mX13_stale 5 pc (j k)) : rx_OK (zV b e D A X) mX13_stale 5 25 (vX13_stale_25 j) := by
  unfold vX13_stale_25
  refine s_iload hZ.1 dX13_stale_25 ?_
  refine s_aload_n hZ.1 dX13_stale_27 rfl ?_
  refine yg13_118 dX13_stale_28 zw4238 ?_
  refine s_iload_n hZ.1 dX13_stale_31 rfl ?_
  refine s_iald (tt := 0) rfl dX13_stale_32 ?_
  exact s_icmp_ge dX13_stale_33 (by decide) (wX13_stale_90 hZ j hj) (wX13_stale_36 hZ j hj)
noncomputable def vX13_stale_19 (j : Nat → rx_K) : rx_K := o_ld rx_isI 3 (o_const 34359738352 (o_c2 rx_eq (vX13_stale_90 j) (vX13_stale_25 j)))
set_option maxRecDepth 20000 in
theorem wX13_stale_19 (hZ : zO b e D A X) (j : Nat → rx_K) (hj : ∀ k pc, [4, 19][k]? = some pc → rx_OK (zV b e D A X) mX13_stale 5 pc (j k)) : rx_OK (zV b e D A X) mX13_stale 5 19 (vX13_stale_19 j) := by
  unfold vX13_stale_19
  refine s_iload_n hZ.1 dX13_stale_19 rfl ?_
  refine s_bipush dX13_stale_20 (by decide +kernel) ?_
  exact s_icmp_eq dX13_stale_22 (by decide) (wX13_stale_90 hZ j hj) (wX13_stale_25 hZ j hj)
noncomputable def vX13_stale_9 (j : Nat → rx_K) : rx_K := o_ld rx_isR 0 (o_getf 13 90 (o_ld rx_isI 2 (o_ald 0 (o_st rx_isI 3 (o_const 0 (o_st rx_isI 4 ((vX13_stale_19 j))))))))
set_option maxRecDepth 20000 in
theorem wX13_stale_9 (hZ : zO b e D A X) (j : Nat → rx_K) (hj : ∀ k pc, [4, 19][k]? = some pc → rx_OK (zV b e D A X) mX13_stale 5 pc (j k)) : rx_OK (zV b e D A X) mX13_stale 5 9 (vX13_stale_9 j) := by
  unfold vX13_stale_9
  refine s_aload_n hZ.1 dX13_stale_9 rfl ?_
  refine yg13_90 dX13_stale_10 zw4211 ?_
  refine s_iload_n hZ.1 dX13_stale_13 rfl ?_
  refine s_iald (tt := 0) rfl dX13_stale_14 ?_
  refine s_istore_n hZ.1 dX13_stale_15 rfl (Nat.le_of_ble_eq_true rfl) ?_
  refine s_iconst dX13_stale_16 (by decide +kernel) ?_
  refine s_istore hZ.1 dX13_stale_17 (Nat.le_of_ble_eq_true rfl) ?_
  exact (wX13_stale_19 hZ j hj)
noncomputable def vX13_stale_4 (j : Nat → rx_K) : rx_K := o_ld rx_isI 2 (o_const 40 (o_c2 rx_lt (vX13_stale_9 j) (vX13_stale_96 j)))
set_option maxRecDepth 20000 in
theorem wX13_stale_4 (hZ : zO b e D A X) (j : Nat → rx_K) (hj : ∀ k pc, [4, 19][k]? = some pc → rx_OK (zV b e D A X) mX13_stale 5 pc (j k)) : rx_OK (zV b e D A X) mX13_stale 5 4 (vX13_stale_4 j) := by
  unfold vX13_stale_4
  refine s_iload_n hZ.1 dX13_stale_4 rfl ?_
  refine s_iconst dX13_stale_5 (by decide +kernel) ?_
  exact s_icmp_ge dX13_stale_6 (by decide) (wX13_stale_96 hZ j hj) (wX13_stale_9 hZ j hj)
noncomputable def vX13_stale_0 (j : Nat → rx_K) : rx_K := o_const 0 (o_st rx_isI 1 (o_const 0 (o_st rx_isI 2 ((vX13_stale_4 j)))))
set_option maxRecDepth 20000 in
theorem wX13_stale_0 (hZ : zO b e D A X) (j : Nat → rx_K) (hj : ∀ k pc, [4, 19][k]? = some pc → rx_OK (zV b e D A X) mX13_stale 5 pc (j k)) : rx_OK (zV b e D A X) mX13_stale 5 0 (vX13_stale_0 j) := by
  unfold vX13_stale_0
  refine s_iconst dX13_stale_0 (by decide +kernel) ?_
  refine s_istore_n hZ.1 dX13_stale_1 rfl (Nat.le_of_ble_eq_true rfl) ?_
  refine s_iconst dX13_stale_2 (by decide +kernel) ?_
  refine s_istore_n hZ.1 dX13_stale_3 rfl (Nat.le_of_ble_eq_true rfl) ?_
  exact (wX13_stale_4 hZ j hj)
noncomputable def vhX13_stale (j : Nat → rx_K) : List rx_K := [vX13_stale_4 j, vX13_stale_19 j]
theorem vlX13_stale (hZ : zO b e D A X) : ∀ n k pc, [4, 19][k]? = some pc → rx_OK (zV b e D A X) mX13_stale 5 pc (rx_J (vhX13_stale) n k) := rx_loop fun j hj k pc h => by
  match k, h with
  | 0, h =>
    have e9 := Option.some.inj (show some 4 = some pc from h)
    subst e9
    exact wX13_stale_4 hZ j hj
  | 1, h =>
    have e9 := Option.some.inj (show some 19 = some pc from h)
    subst e9
    exact wX13_stale_19 hZ j hj
  | _ + 2, h => exact absurd h (by simp)
noncomputable def FX13_stale : List Nat → rx_H → Option (Nat × rx_H) := rx_ent 6 (vX13_stale_0 (rx_J (vhX13_stale) 4000000000))
theorem Met_X13_stale (hZ : zO b e D A X) : rx_Met (zV b e D A X) 5 yX13_stale mX13_stale (FX13_stale) := rx_entry hZ.1 (wX13_stale_0 hZ _ (vlX13_stale hZ 4000000000)) (by decide +kernel) rfl (fun h => by cases h)
abbrev mX13_choose : rx_M := (RX13, cX13_choose, 4, (some .int), false)
theorem vy_X13_choose : rx_Y (zV b e D A X) yX13_choose mX13_choose 0 := ⟨zw3793, zw431, by decide, by decide +kernel, by decide +kernel, by decide +kernel⟩
noncomputable def vX13_choose_203 (j : Nat → rx_K) : rx_K := o_ld rx_isR 0 (o_callV 0 13 FX13_numberWorld (o_const 34359738352 (o_ret1 rx_isI)))
set_option maxRecDepth 20000 in
theorem wX13_choose_203 (hZ : zO b e D A X) (j : Nat → rx_K) (hj : ∀ k pc, [2, 43, 49, 118, 180][k]? = some pc → rx_OK (zV b e D A X) mX13_choose 174 pc (j k)) : rx_OK (zV b e D A X) mX13_choose 174 203 (vX13_choose_203 j) := by
  unfold vX13_choose_203
  refine s_aload_n hZ.1 dX13_choose_203 rfl ?_
  refine s_callV hZ.1 (Met_X13_numberWorld hZ) (Nat.le_of_ble_eq_true rfl) vy_X13_numberWorld zcl13 zw3605 zw320 (Or.inl zw3603) dX13_choose_204 ?_
  refine s_bipush dX13_choose_207 (by decide +kernel) ?_
  exact s_iret hZ.1 rfl dX13_choose_209
noncomputable def vX13_choose_185 (j : Nat → rx_K) : rx_K := o_ld rx_isR 0 (o_getf 13 90 (o_ld rx_isI 3 (o_ld rx_isR 0 (o_getf 13 147 (o_ld rx_isI 3 (o_ald 0 (o_ast 0 (fun v => v) rx_isI (o_inc 3 (1) ((j 4))))))))))
set_option maxRecDepth 20000 in
theorem wX13_choose_185 (hZ : zO b e D A X) (j : Nat → rx_K) (hj : ∀ k pc, [2, 43, 49, 118, 180][k]? = some pc → rx_OK (zV b e D A X) mX13_choose 174 pc (j k)) : rx_OK (zV b e D A X) mX13_choose 174 185 (vX13_choose_185 j) := by
  unfold vX13_choose_185
  refine s_aload_n hZ.1 dX13_choose_185 rfl ?_
  refine yg13_90 dX13_choose_186 zw4211 ?_
  refine s_iload_n hZ.1 dX13_choose_189 rfl ?_
  refine s_aload_n hZ.1 dX13_choose_190 rfl ?_
  refine yg13_147 dX13_choose_191 zw4267 ?_
  refine s_iload_n hZ.1 dX13_choose_194 rfl ?_
  refine s_iald (tt := 0) rfl dX13_choose_195 ?_
  refine s_iast hZ.1 (tt := 0) rfl dX13_choose_196 ?_
  refine s_iinc hZ.1 dX13_choose_197 (Nat.le_of_ble_eq_true rfl) ?_
  exact s_goto dX13_choose_200 (by decide) (hj 4 180 rfl)
noncomputable def vX13_choose_180 (j : Nat → rx_K) : rx_K := o_ld rx_isI 3 (o_const 40 (o_c2 rx_lt (vX13_choose_185 j) (vX13_choose_203 j)))
set_option maxRecDepth 20000 in
theorem wX13_choose_180 (hZ : zO b e D A X) (j : Nat → rx_K) (hj : ∀ k pc, [2, 43, 49, 118, 180][k]? = some pc → rx_OK (zV b e D A X) mX13_choose 174 pc (j k)) : rx_OK (zV b e D A X) mX13_choose 174 180 (vX13_choose_180 j) := by
  unfold vX13_choose_180
  refine s_iload_n hZ.1 dX13_choose_180 rfl ?_
  refine s_iconst dX13_choose_181 (by decide +kernel) ?_
  exact s_icmp_ge dX13_choose_182 (by decide) (wX13_choose_203 hZ j hj) (wX13_choose_185 hZ j hj)
noncomputable def vX13_choose_178 (j : Nat → rx_K) : rx_K := o_const 0 (o_st rx_isI 3 ((vX13_choose_180 j)))
set_option maxRecDepth 20000 in
theorem wX13_choose_178 (hZ : zO b e D A X) (j : Nat → rx_K) (hj : ∀ k pc, [2, 43, 49, 118, 180][k]? = some pc → rx_OK (zV b e D A X) mX13_choose 174 pc (j k)) : rx_OK (zV b e D A X) mX13_choose 174 178 (vX13_choose_178 j) := by
  unfold vX13_choose_178
  refine s_iconst dX13_choose_178 (by decide +kernel) ?_
  refine s_istore_n hZ.1 dX13_choose_179 rfl (Nat.le_of_ble_eq_true rfl) ?_
  exact (wX13_choose_180 hZ j hj)
noncomputable def vX13_choose_175 (j : Nat → rx_K) : rx_K := (j 1)
set_option maxRecDepth 20000 in
theorem wX13_choose_175 (hZ : zO b e D A X) (j : Nat → rx_K) (hj : ∀ k pc, [2, 43, 49, 118, 180][k]? = some pc → rx_OK (zV b e D A X) mX13_choose 174 pc (j k)) : rx_OK (zV b e D A X) mX13_choose 174 175 (vX13_choose_175 j) := by
  unfold vX13_choose_175
  exact s_goto dX13_choose_175 (by decide) (hj 1 43 rfl)
noncomputable def vX13_choose_165 (j : Nat → rx_K) : rx_K := o_ld rx_isR 0 (o_getf 13 146 (o_ld rx_isI 3 (o_dup2 (o_ald 0 (o_const 8 (o_bi (fun x y => x - y) (o_ast 0 (fun v => v) rx_isI ((vX13_choose_175 j)))))))))
set_option maxRecDepth 20000 in
theorem wX13_choose_165 (hZ : zO b e D A X) (j : Nat → rx_K) (hj : ∀ k pc, [2, 43, 49, 118, 180][k]? = some pc → rx_OK (zV b e D A X) mX13_choose 174 pc (j k)) : rx_OK (zV b e D A X) mX13_choose 174 165 (vX13_choose_165 j) := by
  unfold vX13_choose_165
  refine s_aload_n hZ.1 dX13_choose_165 rfl ?_
  refine yg13_146 dX13_choose_166 zw4266 ?_
  refine s_iload_n hZ.1 dX13_choose_169 rfl ?_
  refine s_dup2 hZ.1 dX13_choose_170 ?_
  refine s_iald (tt := 0) rfl dX13_choose_171 ?_
  refine s_iconst dX13_choose_172 (by decide +kernel) ?_
  refine s_isub dX13_choose_173 ?_
  refine s_iast hZ.1 (tt := 0) rfl dX13_choose_174 ?_
  exact (wX13_choose_175 hZ j hj)
noncomputable def vX13_choose_160 (j : Nat → rx_K) : rx_K := o_st rx_isI 2 (o_ld rx_isI 2 (o_c1 rx_eq (vX13_choose_175 j) (vX13_choose_165 j)))
set_option maxRecDepth 20000 in
theorem wX13_choose_160 (hZ : zO b e D A X) (j : Nat → rx_K) (hj : ∀ k pc, [2, 43, 49, 118, 180][k]? = some pc → rx_OK (zV b e D A X) mX13_choose 174 pc (j k)) : rx_OK (zV b e D A X) mX13_choose 174 160 (vX13_choose_160 j) := by
  unfold vX13_choose_160
  refine s_istore_n hZ.1 dX13_choose_160 rfl (Nat.le_of_ble_eq_true rfl) ?_
  refine s_iload_n hZ.1 dX13_choose_161 rfl ?_
  exact s_if_eq dX13_choose_162 (by decide) (wX13_choose_175 hZ j hj) (wX13_choose_165 hZ j hj)
noncomputable def vX13_choose_159 (j : Nat → rx_K) : rx_K := o_const 0 ((vX13_choose_160 j))
set_option maxRecDepth 20000 in
theorem wX13_choose_159 (hZ : zO b e D A X) (j : Nat → rx_K) (hj : ∀ k pc, [2, 43, 49, 118, 180][k]? = some pc → rx_OK (zV b e D A X) mX13_choose 174 pc (j k)) : rx_OK (zV b e D A X) mX13_choose 174 159 (vX13_choose_159 j) := by
  unfold vX13_choose_159
  refine s_iconst dX13_choose_159 (by decide +kernel) ?_
  exact (wX13_choose_160 hZ j hj)
noncomputable def vX13_choose_155 (j : Nat → rx_K) : rx_K := o_const 8 ((vX13_choose_160 j))
set_option maxRecDepth 20000 in
theorem wX13_choose_155 (hZ : zO b e D A X) (j : Nat → rx_K) (hj : ∀ k pc, [2, 43, 49, 118, 180][k]? = some pc → rx_OK (zV b e D A X) mX13_choose 174 pc (j k)) : rx_OK (zV b e D A X) mX13_choose 174 155 (vX13_choose_155 j) := by
  unfold vX13_choose_155
  refine s_iconst dX13_choose_155 (by decide +kernel) ?_
  exact s_goto dX13_choose_156 (by decide) (wX13_choose_160 hZ j hj)
noncomputable def vX13_choose_151 (j : Nat → rx_K) : rx_K := o_ld rx_isI 3 (o_c1 rx_lt (vX13_choose_159 j) (vX13_choose_155 j))
set_option maxRecDepth 20000 in
theorem wX13_choose_151 (hZ : zO b e D A X) (j : Nat → rx_K) (hj : ∀ k pc, [2, 43, 49, 118, 180][k]? = some pc → rx_OK (zV b e D A X) mX13_choose 174 pc (j k)) : rx_OK (zV b e D A X) mX13_choose 174 151 (vX13_choose_151 j) := by
  unfold vX13_choose_151
  refine s_iload_n hZ.1 dX13_choose_151 rfl ?_
  exact s_if_lt dX13_choose_152 (by decide) (wX13_choose_159 hZ j hj) (wX13_choose_155 hZ j hj)
noncomputable def vX13_choose_131 (j : Nat → rx_K) : rx_K := o_ld rx_isR 0 (o_getf 13 146 (o_ld rx_isI 3 (o_ld rx_isR 0 (o_getf 13 9 (o_ld rx_isI 3 (o_ald 0 (o_const 8 (o_bi (fun x y => x - y) (o_ast 0 (fun v => v) rx_isI (o_inc 3 (-1) ((j 3))))))))))))
set_option maxRecDepth 20000 in
theorem wX13_choose_131 (hZ : zO b e D A X) (j : Nat → rx_K) (hj : ∀ k pc, [2, 43, 49, 118, 180][k]? = some pc → rx_OK (zV b e D A X) mX13_choose 174 pc (j k)) : rx_OK (zV b e D A X) mX13_choose 174 131 (vX13_choose_131 j) := by
  unfold vX13_choose_131
  refine s_aload_n hZ.1 dX13_choose_131 rfl ?_
  refine yg13_146 dX13_choose_132 zw4266 ?_
  refine s_iload_n hZ.1 dX13_choose_135 rfl ?_
  refine s_aload_n hZ.1 dX13_choose_136 rfl ?_
  refine yg13_9 dX13_choose_137 zw4130 ?_
  refine s_iload_n hZ.1 dX13_choose_140 rfl ?_
  refine s_iald (tt := 0) rfl dX13_choose_141 ?_
  refine s_iconst dX13_choose_142 (by decide +kernel) ?_
  refine s_isub dX13_choose_143 ?_
  refine s_iast hZ.1 (tt := 0) rfl dX13_choose_144 ?_
  refine s_iinc hZ.1 dX13_choose_145 (Nat.le_of_ble_eq_true rfl) ?_
  exact s_goto dX13_choose_148 (by decide) (hj 3 118 rfl)
noncomputable def vX13_choose_122 (j : Nat → rx_K) : rx_K := o_ld rx_isR 0 (o_getf 13 146 (o_ld rx_isI 3 (o_ald 0 (o_c1 (fun h x y => rx_lt h y x) (vX13_choose_151 j) (vX13_choose_131 j)))))
set_option maxRecDepth 20000 in
theorem wX13_choose_122 (hZ : zO b e D A X) (j : Nat → rx_K) (hj : ∀ k pc, [2, 43, 49, 118, 180][k]? = some pc → rx_OK (zV b e D A X) mX13_choose 174 pc (j k)) : rx_OK (zV b e D A X) mX13_choose 174 122 (vX13_choose_122 j) := by
  unfold vX13_choose_122
  refine s_aload_n hZ.1 dX13_choose_122 rfl ?_
  refine yg13_146 dX13_choose_123 zw4266 ?_
  refine s_iload_n hZ.1 dX13_choose_126 rfl ?_
  refine s_iald (tt := 0) rfl dX13_choose_127 ?_
  exact s_if_gt dX13_choose_128 (by decide) (wX13_choose_151 hZ j hj) (wX13_choose_131 hZ j hj)
noncomputable def vX13_choose_118 (j : Nat → rx_K) : rx_K := o_ld rx_isI 3 (o_c1 rx_lt (vX13_choose_151 j) (vX13_choose_122 j))
set_option maxRecDepth 20000 in
theorem wX13_choose_118 (hZ : zO b e D A X) (j : Nat → rx_K) (hj : ∀ k pc, [2, 43, 49, 118, 180][k]? = some pc → rx_OK (zV b e D A X) mX13_choose 174 pc (j k)) : rx_OK (zV b e D A X) mX13_choose 174 118 (vX13_choose_118 j) := by
  unfold vX13_choose_118
  refine s_iload_n hZ.1 dX13_choose_118 rfl ?_
  exact s_if_lt dX13_choose_119 (by decide) (wX13_choose_151 hZ j hj) (wX13_choose_122 hZ j hj)
noncomputable def vX13_choose_116 (j : Nat → rx_K) : rx_K := o_const 32 (o_st rx_isI 3 ((vX13_choose_118 j)))
set_option maxRecDepth 20000 in
theorem wX13_choose_116 (hZ : zO b e D A X) (j : Nat → rx_K) (hj : ∀ k pc, [2, 43, 49, 118, 180][k]? = some pc → rx_OK (zV b e D A X) mX13_choose 174 pc (j k)) : rx_OK (zV b e D A X) mX13_choose 174 116 (vX13_choose_116 j) := by
  unfold vX13_choose_116
  refine s_iconst dX13_choose_116 (by decide +kernel) ?_
  refine s_istore_n hZ.1 dX13_choose_117 rfl (Nat.le_of_ble_eq_true rfl) ?_
  exact (wX13_choose_118 hZ j hj)
noncomputable def vX13_choose_110 (j : Nat → rx_K) : rx_K := o_ld rx_isR 0 (o_callV 0 13 FX13_settle (o_ld rx_isI 1 (o_ret1 rx_isI)))
set_option maxRecDepth 20000 in
theorem wX13_choose_110 (hZ : zO b e D A X) (j : Nat → rx_K) (hj : ∀ k pc, [2, 43, 49, 118, 180][k]? = some pc → rx_OK (zV b e D A X) mX13_choose 174 pc (j k)) : rx_OK (zV b e D A X) mX13_choose 174 110 (vX13_choose_110 j) := by
  unfold vX13_choose_110
  refine s_aload_n hZ.1 dX13_choose_110 rfl ?_
  refine s_callV hZ.1 (Met_X13_settle hZ) (Nat.le_of_ble_eq_true rfl) vy_X13_settle zcl13 zw3601 zw319 (Or.inl zw3599) dX13_choose_111 ?_
  refine s_iload_n hZ.1 dX13_choose_114 rfl ?_
  exact s_iret hZ.1 rfl dX13_choose_115
noncomputable def vX13_choose_96 (j : Nat → rx_K) : rx_K := o_ld rx_isR 0 (o_callV 0 13 FX13_numberWorld (o_inc 1 (1) (o_ld rx_isR 0 (o_callV 0 13 FX13_isBroken (o_c1 rx_eq (vX13_choose_110 j) (vX13_choose_116 j))))))
set_option maxRecDepth 20000 in
theorem wX13_choose_96 (hZ : zO b e D A X) (j : Nat → rx_K) (hj : ∀ k pc, [2, 43, 49, 118, 180][k]? = some pc → rx_OK (zV b e D A X) mX13_choose 174 pc (j k)) : rx_OK (zV b e D A X) mX13_choose 174 96 (vX13_choose_96 j) := by
  unfold vX13_choose_96
  refine s_aload_n hZ.1 dX13_choose_96 rfl ?_
  refine s_callV hZ.1 (Met_X13_numberWorld hZ) (Nat.le_of_ble_eq_true rfl) vy_X13_numberWorld zcl13 zw3605 zw320 (Or.inl zw3603) dX13_choose_97 ?_
  refine s_iinc hZ.1 dX13_choose_100 (Nat.le_of_ble_eq_true rfl) ?_
  refine s_aload_n hZ.1 dX13_choose_103 rfl ?_
  refine s_callV hZ.1 (Met_X13_isBroken hZ) (Nat.le_of_ble_eq_true rfl) vy_X13_isBroken zcl13 zw3796 zw349 (Or.inl zw3794) dX13_choose_104 ?_
  exact s_if_ne dX13_choose_107 (by decide) (wX13_choose_116 hZ j hj) (wX13_choose_110 hZ j hj)
noncomputable def vX13_choose_89 (j : Nat → rx_K) : rx_K := o_ast 0 (fun v => v) rx_isI (o_inc 3 (1) ((j 2)))
set_option maxRecDepth 20000 in
theorem wX13_choose_89 (hZ : zO b e D A X) (j : Nat → rx_K) (hj : ∀ k pc, [2, 43, 49, 118, 180][k]? = some pc → rx_OK (zV b e D A X) mX13_choose 174 pc (j k)) : rx_OK (zV b e D A X) mX13_choose 174 89 (vX13_choose_89 j) := by
  unfold vX13_choose_89
  refine s_iast hZ.1 (tt := 0) rfl dX13_choose_89 ?_
  refine s_iinc hZ.1 dX13_choose_90 (Nat.le_of_ble_eq_true rfl) ?_
  exact s_goto dX13_choose_93 (by decide) (hj 2 49 rfl)
noncomputable def vX13_choose_73 (j : Nat → rx_K) : rx_K := o_ld rx_isR 0 (o_getf 13 8 (o_const 64 (o_ld rx_isI 3 (o_bi (fun x y => x * y) (o_ld rx_isR 0 (o_getf 13 146 (o_ld rx_isI 3 (o_ald 0 (o_bi (fun x y => x + y) (o_ald 0 ((vX13_choose_89 j))))))))))))
set_option maxRecDepth 20000 in
theorem wX13_choose_73 (hZ : zO b e D A X) (j : Nat → rx_K) (hj : ∀ k pc, [2, 43, 49, 118, 180][k]? = some pc → rx_OK (zV b e D A X) mX13_choose 174 pc (j k)) : rx_OK (zV b e D A X) mX13_choose 174 73 (vX13_choose_73 j) := by
  unfold vX13_choose_73
  refine s_aload_n hZ.1 dX13_choose_73 rfl ?_
  refine yg13_8 dX13_choose_74 zw4129 ?_
  refine s_bipush dX13_choose_77 (by decide +kernel) ?_
  refine s_iload_n hZ.1 dX13_choose_79 rfl ?_
  refine s_imul dX13_choose_80 ?_
  refine s_aload_n hZ.1 dX13_choose_81 rfl ?_
  refine yg13_146 dX13_choose_82 zw4266 ?_
  refine s_iload_n hZ.1 dX13_choose_85 rfl ?_
  refine s_iald (tt := 0) rfl dX13_choose_86 ?_
  refine s_iadd dX13_choose_87 ?_
  refine s_iald (tt := 0) rfl dX13_choose_88 ?_
  exact (wX13_choose_89 hZ j hj)
noncomputable def vX13_choose_68 (j : Nat → rx_K) : rx_K := o_const 34359738352 ((vX13_choose_89 j))
set_option maxRecDepth 20000 in
theorem wX13_choose_68 (hZ : zO b e D A X) (j : Nat → rx_K) (hj : ∀ k pc, [2, 43, 49, 118, 180][k]? = some pc → rx_OK (zV b e D A X) mX13_choose 174 pc (j k)) : rx_OK (zV b e D A X) mX13_choose 174 68 (vX13_choose_68 j) := by
  unfold vX13_choose_68
  refine s_bipush dX13_choose_68 (by decide +kernel) ?_
  exact s_goto dX13_choose_70 (by decide) (wX13_choose_89 hZ j hj)
noncomputable def vX13_choose_54 (j : Nat → rx_K) : rx_K := o_ld rx_isR 0 (o_getf 13 90 (o_ld rx_isI 3 (o_ld rx_isR 0 (o_getf 13 146 (o_ld rx_isI 3 (o_ald 0 (o_c1 rx_lt (vX13_choose_68 j) (vX13_choose_73 j))))))))
set_option maxRecDepth 20000 in
theorem wX13_choose_54 (hZ : zO b e D A X) (j : Nat → rx_K) (hj : ∀ k pc, [2, 43, 49, 118, 180][k]? = some pc → rx_OK (zV b e D A X) mX13_choose 174 pc (j k)) : rx_OK (zV b e D A X) mX13_choose 174 54 (vX13_choose_54 j) := by
  unfold vX13_choose_54
  refine s_aload_n hZ.1 dX13_choose_54 rfl ?_
  refine yg13_90 dX13_choose_55 zw4211 ?_
  refine s_iload_n hZ.1 dX13_choose_58 rfl ?_
  refine s_aload_n hZ.1 dX13_choose_59 rfl ?_
  refine yg13_146 dX13_choose_60 zw4266 ?_
  refine s_iload_n hZ.1 dX13_choose_63 rfl ?_
  refine s_iald (tt := 0) rfl dX13_choose_64 ?_
  exact s_if_ge dX13_choose_65 (by decide) (wX13_choose_73 hZ j hj) (wX13_choose_68 hZ j hj)
noncomputable def vX13_choose_49 (j : Nat → rx_K) : rx_K := o_ld rx_isI 3 (o_const 40 (o_c2 rx_lt (vX13_choose_54 j) (vX13_choose_96 j)))
set_option maxRecDepth 20000 in
theorem wX13_choose_49 (hZ : zO b e D A X) (j : Nat → rx_K) (hj : ∀ k pc, [2, 43, 49, 118, 180][k]? = some pc → rx_OK (zV b e D A X) mX13_choose 174 pc (j k)) : rx_OK (zV b e D A X) mX13_choose 174 49 (vX13_choose_49 j) := by
  unfold vX13_choose_49
  refine s_iload_n hZ.1 dX13_choose_49 rfl ?_
  refine s_iconst dX13_choose_50 (by decide +kernel) ?_
  exact s_icmp_ge dX13_choose_51 (by decide) (wX13_choose_96 hZ j hj) (wX13_choose_54 hZ j hj)
noncomputable def vX13_choose_47 (j : Nat → rx_K) : rx_K := o_const 0 (o_st rx_isI 3 ((vX13_choose_49 j)))
set_option maxRecDepth 20000 in
theorem wX13_choose_47 (hZ : zO b e D A X) (j : Nat → rx_K) (hj : ∀ k pc, [2, 43, 49, 118, 180][k]? = some pc → rx_OK (zV b e D A X) mX13_choose 174 pc (j k)) : rx_OK (zV b e D A X) mX13_choose 174 47 (vX13_choose_47 j) := by
  unfold vX13_choose_47
  refine s_iconst dX13_choose_47 (by decide +kernel) ?_
  refine s_istore_n hZ.1 dX13_choose_48 rfl (Nat.le_of_ble_eq_true rfl) ?_
  exact (wX13_choose_49 hZ j hj)
noncomputable def vX13_choose_43 (j : Nat → rx_K) : rx_K := o_ld rx_isI 2 (o_c1 rx_eq (vX13_choose_178 j) (vX13_choose_47 j))
set_option maxRecDepth 20000 in
theorem wX13_choose_43 (hZ : zO b e D A X) (j : Nat → rx_K) (hj : ∀ k pc, [2, 43, 49, 118, 180][k]? = some pc → rx_OK (zV b e D A X) mX13_choose 174 pc (j k)) : rx_OK (zV b e D A X) mX13_choose 174 43 (vX13_choose_43 j) := by
  unfold vX13_choose_43
  refine s_iload_n hZ.1 dX13_choose_43 rfl ?_
  exact s_if_eq dX13_choose_44 (by decide) (wX13_choose_178 hZ j hj) (wX13_choose_47 hZ j hj)
noncomputable def vX13_choose_39 (j : Nat → rx_K) : rx_K := o_const 0 (o_st rx_isI 1 (o_const 8 (o_st rx_isI 2 ((vX13_choose_43 j)))))
set_option maxRecDepth 20000 in
theorem wX13_choose_39 (hZ : zO b e D A X) (j : Nat → rx_K) (hj : ∀ k pc, [2, 43, 49, 118, 180][k]? = some pc → rx_OK (zV b e D A X) mX13_choose 174 pc (j k)) : rx_OK (zV b e D A X) mX13_choose 174 39 (vX13_choose_39 j) := by
  unfold vX13_choose_39
  refine s_iconst dX13_choose_39 (by decide +kernel) ?_
  refine s_istore_n hZ.1 dX13_choose_40 rfl (Nat.le_of_ble_eq_true rfl) ?_
  refine s_iconst dX13_choose_41 (by decide +kernel) ?_
  refine s_istore_n hZ.1 dX13_choose_42 rfl (Nat.le_of_ble_eq_true rfl) ?_
  exact (wX13_choose_43 hZ j hj)
noncomputable def vX13_choose_7 (j : Nat → rx_K) : rx_K := o_ld rx_isR 0 (o_getf 13 147 (o_ld rx_isI 1 (o_ld rx_isR 0 (o_getf 13 90 (o_ld rx_isI 1 (o_ald 0 (o_ast 0 (fun v => v) rx_isI (o_ld rx_isR 0 (o_getf 13 146 (o_ld rx_isI 1 (o_ld rx_isR 0 (o_getf 13 9 (o_ld rx_isI 1 (o_ald 0 (o_const 8 (o_bi (fun x y => x - y) (o_ast 0 (fun v => v) rx_isI (o_inc 1 (1) ((j 0))))))))))))))))))))
set_option maxRecDepth 20000 in
theorem wX13_choose_7 (hZ : zO b e D A X) (j : Nat → rx_K) (hj : ∀ k pc, [2, 43, 49, 118, 180][k]? = some pc → rx_OK (zV b e D A X) mX13_choose 174 pc (j k)) : rx_OK (zV b e D A X) mX13_choose 174 7 (vX13_choose_7 j) := by
  unfold vX13_choose_7
  refine s_aload_n hZ.1 dX13_choose_7 rfl ?_
  refine yg13_147 dX13_choose_8 zw4267 ?_
  refine s_iload_n hZ.1 dX13_choose_11 rfl ?_
  refine s_aload_n hZ.1 dX13_choose_12 rfl ?_
  refine yg13_90 dX13_choose_13 zw4211 ?_
  refine s_iload_n hZ.1 dX13_choose_16 rfl ?_
  refine s_iald (tt := 0) rfl dX13_choose_17 ?_
  refine s_iast hZ.1 (tt := 0) rfl dX13_choose_18 ?_
  refine s_aload_n hZ.1 dX13_choose_19 rfl ?_
  refine yg13_146 dX13_choose_20 zw4266 ?_
  refine s_iload_n hZ.1 dX13_choose_23 rfl ?_
  refine s_aload_n hZ.1 dX13_choose_24 rfl ?_
  refine yg13_9 dX13_choose_25 zw4130 ?_
  refine s_iload_n hZ.1 dX13_choose_28 rfl ?_
  refine s_iald (tt := 0) rfl dX13_choose_29 ?_
  refine s_iconst dX13_choose_30 (by decide +kernel) ?_
  refine s_isub dX13_choose_31 ?_
  refine s_iast hZ.1 (tt := 0) rfl dX13_choose_32 ?_
  refine s_iinc hZ.1 dX13_choose_33 (Nat.le_of_ble_eq_true rfl) ?_
  exact s_goto dX13_choose_36 (by decide) (hj 0 2 rfl)
noncomputable def vX13_choose_2 (j : Nat → rx_K) : rx_K := o_ld rx_isI 1 (o_const 40 (o_c2 rx_lt (vX13_choose_7 j) (vX13_choose_39 j)))
set_option maxRecDepth 20000 in
theorem wX13_choose_2 (hZ : zO b e D A X) (j : Nat → rx_K) (hj : ∀ k pc, [2, 43, 49, 118, 180][k]? = some pc → rx_OK (zV b e D A X) mX13_choose 174 pc (j k)) : rx_OK (zV b e D A X) mX13_choose 174 2 (vX13_choose_2 j) := by
  unfold vX13_choose_2
  refine s_iload_n hZ.1 dX13_choose_2 rfl ?_
  refine s_iconst dX13_choose_3 (by decide +kernel) ?_
  exact s_icmp_ge dX13_choose_4 (by decide) (wX13_choose_39 hZ j hj) (wX13_choose_7 hZ j hj)
noncomputable def vX13_choose_0 (j : Nat → rx_K) : rx_K := o_const 0 (o_st rx_isI 1 ((vX13_choose_2 j)))
set_option maxRecDepth 20000 in
theorem wX13_choose_0 (hZ : zO b e D A X) (j : Nat → rx_K) (hj : ∀ k pc, [2, 43, 49, 118, 180][k]? = some pc → rx_OK (zV b e D A X) mX13_choose 174 pc (j k)) : rx_OK (zV b e D A X) mX13_choose 174 0 (vX13_choose_0 j) := by
  unfold vX13_choose_0
  refine s_iconst dX13_choose_0 (by decide +kernel) ?_
  refine s_istore_n hZ.1 dX13_choose_1 rfl (Nat.le_of_ble_eq_true rfl) ?_
  exact (wX13_choose_2 hZ j hj)
noncomputable def vhX13_choose (j : Nat → rx_K) : List rx_K := [vX13_choose_2 j, vX13_choose_43 j, vX13_choose_49 j, vX13_choose_118 j, vX13_choose_180 j]
theorem vlX13_choose (hZ : zO b e D A X) : ∀ n k pc, [2, 43, 49, 118, 180][k]? = some pc → rx_OK (zV b e D A X) mX13_choose 174 pc (rx_J (vhX13_choose) n k) := rx_loop fun j hj k pc h => by
  match k, h with
  | 0, h =>
    have e9 := Option.some.inj (show some 2 = some pc from h)
    subst e9
    exact wX13_choose_2 hZ j hj
  | 1, h =>
    have e9 := Option.some.inj (show some 43 = some pc from h)
    subst e9
    exact wX13_choose_43 hZ j hj
  | 2, h =>
    have e9 := Option.some.inj (show some 49 = some pc from h)
    subst e9
    exact wX13_choose_49 hZ j hj
  | 3, h =>
    have e9 := Option.some.inj (show some 118 = some pc from h)
    subst e9
    exact wX13_choose_118 hZ j hj
  | 4, h =>
    have e9 := Option.some.inj (show some 180 = some pc from h)
    subst e9
    exact wX13_choose_180 hZ j hj
  | _ + 5, h => exact absurd h (by simp)
noncomputable def FX13_choose : List Nat → rx_H → Option (Nat × rx_H) := rx_ent 4 (vX13_choose_0 (rx_J (vhX13_choose) 4000000000))
theorem Met_X13_choose (hZ : zO b e D A X) : rx_Met (zV b e D A X) 174 yX13_choose mX13_choose (FX13_choose) := rx_entry hZ.1 (wX13_choose_0 hZ _ (vlX13_choose hZ 4000000000)) (by decide +kernel) rfl (fun h => by cases h)
abbrev mX13_fresh : rx_M := (RX13, cX13_fresh, 4, (some .int), false)
theorem vy_X13_fresh : rx_Y (zV b e D A X) yX13_fresh mX13_fresh 0 := ⟨zw3801, zw431, by decide, by decide +kernel, by decide +kernel, by decide +kernel⟩
noncomputable def vX13_fresh_42 (j : Nat → rx_K) : rx_K := o_ld rx_isR 0 (o_getf 13 145 (o_st rx_isI 2 (o_ld rx_isR 0 (o_callV 0 13 FX13_settle (o_ld rx_isR 0 (o_ld rx_isI 2 (o_putf rx_isI 13 145 (o_ld rx_isI 1 (o_ret1 rx_isI)))))))))
set_option maxRecDepth 20000 in
theorem wX13_fresh_42 (hZ : zO b e D A X) (j : Nat → rx_K) (hj : ∀ k pc, [4][k]? = some pc → rx_OK (zV b e D A X) mX13_fresh 4 pc (j k)) : rx_OK (zV b e D A X) mX13_fresh 4 42 (vX13_fresh_42 j) := by
  unfold vX13_fresh_42
  refine s_aload_n hZ.1 dX13_fresh_42 rfl ?_
  refine yg13_145 dX13_fresh_43 zw4265 ?_
  refine s_istore_n hZ.1 dX13_fresh_46 rfl (Nat.le_of_ble_eq_true rfl) ?_
  refine s_aload_n hZ.1 dX13_fresh_47 rfl ?_
  refine s_callV hZ.1 (Met_X13_settle hZ) (Nat.le_of_ble_eq_true rfl) vy_X13_settle zcl13 zw3601 zw319 (Or.inl zw3599) dX13_fresh_48 ?_
  refine s_aload_n hZ.1 dX13_fresh_51 rfl ?_
  refine s_iload_n hZ.1 dX13_fresh_52 rfl ?_
  refine yp13_145 hZ.1 dX13_fresh_53 zw4265 ?_
  refine s_iload_n hZ.1 dX13_fresh_56 rfl ?_
  exact s_iret hZ.1 rfl dX13_fresh_57
noncomputable def vX13_fresh_34 (j : Nat → rx_K) : rx_K := o_bi (fun x y => x + y) (o_st rx_isI 1 (o_inc 2 (1) ((j 0))))
set_option maxRecDepth 20000 in
theorem wX13_fresh_34 (hZ : zO b e D A X) (j : Nat → rx_K) (hj : ∀ k pc, [4][k]? = some pc → rx_OK (zV b e D A X) mX13_fresh 4 pc (j k)) : rx_OK (zV b e D A X) mX13_fresh 4 34 (vX13_fresh_34 j) := by
  unfold vX13_fresh_34
  refine s_iadd dX13_fresh_34 ?_
  refine s_istore_n hZ.1 dX13_fresh_35 rfl (Nat.le_of_ble_eq_true rfl) ?_
  refine s_iinc hZ.1 dX13_fresh_36 (Nat.le_of_ble_eq_true rfl) ?_
  exact s_goto dX13_fresh_39 (by decide) (hj 0 4 rfl)
noncomputable def vX13_fresh_33 (j : Nat → rx_K) : rx_K := o_const 0 ((vX13_fresh_34 j))
set_option maxRecDepth 20000 in
theorem wX13_fresh_33 (hZ : zO b e D A X) (j : Nat → rx_K) (hj : ∀ k pc, [4][k]? = some pc → rx_OK (zV b e D A X) mX13_fresh 4 pc (j k)) : rx_OK (zV b e D A X) mX13_fresh 4 33 (vX13_fresh_33 j) := by
  unfold vX13_fresh_33
  refine s_iconst dX13_fresh_33 (by decide +kernel) ?_
  exact (wX13_fresh_34 hZ j hj)
noncomputable def vX13_fresh_29 (j : Nat → rx_K) : rx_K := o_const 8 ((vX13_fresh_34 j))
set_option maxRecDepth 20000 in
theorem wX13_fresh_29 (hZ : zO b e D A X) (j : Nat → rx_K) (hj : ∀ k pc, [4][k]? = some pc → rx_OK (zV b e D A X) mX13_fresh 4 pc (j k)) : rx_OK (zV b e D A X) mX13_fresh 4 29 (vX13_fresh_29 j) := by
  unfold vX13_fresh_29
  refine s_iconst dX13_fresh_29 (by decide +kernel) ?_
  exact s_goto dX13_fresh_30 (by decide) (wX13_fresh_34 hZ j hj)
noncomputable def vX13_fresh_24 (j : Nat → rx_K) : rx_K := o_ld rx_isI 3 (o_const 40 (o_c2 rx_eq (vX13_fresh_33 j) (vX13_fresh_29 j)))
set_option maxRecDepth 20000 in
theorem wX13_fresh_24 (hZ : zO b e D A X) (j : Nat → rx_K) (hj : ∀ k pc, [4][k]? = some pc → rx_OK (zV b e D A X) mX13_fresh 4 pc (j k)) : rx_OK (zV b e D A X) mX13_fresh 4 24 (vX13_fresh_24 j) := by
  unfold vX13_fresh_24
  refine s_iload_n hZ.1 dX13_fresh_24 rfl ?_
  refine s_iconst dX13_fresh_25 (by decide +kernel) ?_
  exact s_icmp_eq dX13_fresh_26 (by decide) (wX13_fresh_33 hZ j hj) (wX13_fresh_29 hZ j hj)
noncomputable def vX13_fresh_12 (j : Nat → rx_K) : rx_K := o_ld rx_isR 0 (o_getf 13 132 (o_ld rx_isI 2 (o_ald 0 (o_st rx_isI 3 (o_ld rx_isI 1 (o_ld rx_isI 3 (o_c1 rx_eq (vX13_fresh_33 j) (vX13_fresh_24 j))))))))
set_option maxRecDepth 20000 in
theorem wX13_fresh_12 (hZ : zO b e D A X) (j : Nat → rx_K) (hj : ∀ k pc, [4][k]? = some pc → rx_OK (zV b e D A X) mX13_fresh 4 pc (j k)) : rx_OK (zV b e D A X) mX13_fresh 4 12 (vX13_fresh_12 j) := by
  unfold vX13_fresh_12
  refine s_aload_n hZ.1 dX13_fresh_12 rfl ?_
  refine yg13_132 dX13_fresh_13 zw4252 ?_
  refine s_iload_n hZ.1 dX13_fresh_16 rfl ?_
  refine s_iald (tt := 0) rfl dX13_fresh_17 ?_
  refine s_istore_n hZ.1 dX13_fresh_18 rfl (Nat.le_of_ble_eq_true rfl) ?_
  refine s_iload_n hZ.1 dX13_fresh_19 rfl ?_
  refine s_iload_n hZ.1 dX13_fresh_20 rfl ?_
  exact s_if_eq dX13_fresh_21 (by decide) (wX13_fresh_33 hZ j hj) (wX13_fresh_24 hZ j hj)
noncomputable def vX13_fresh_4 (j : Nat → rx_K) : rx_K := o_ld rx_isI 2 (o_ld rx_isR 0 (o_getf 13 129 (o_c2 rx_lt (vX13_fresh_12 j) (vX13_fresh_42 j))))
set_option maxRecDepth 20000 in
theorem wX13_fresh_4 (hZ : zO b e D A X) (j : Nat → rx_K) (hj : ∀ k pc, [4][k]? = some pc → rx_OK (zV b e D A X) mX13_fresh 4 pc (j k)) : rx_OK (zV b e D A X) mX13_fresh 4 4 (vX13_fresh_4 j) := by
  unfold vX13_fresh_4
  refine s_iload_n hZ.1 dX13_fresh_4 rfl ?_
  refine s_aload_n hZ.1 dX13_fresh_5 rfl ?_
  refine yg13_129 dX13_fresh_6 zw4249 ?_
  exact s_icmp_ge dX13_fresh_9 (by decide) (wX13_fresh_42 hZ j hj) (wX13_fresh_12 hZ j hj)
noncomputable def vX13_fresh_0 (j : Nat → rx_K) : rx_K := o_const 0 (o_st rx_isI 1 (o_const 16 (o_st rx_isI 2 ((vX13_fresh_4 j)))))
set_option maxRecDepth 20000 in
theorem wX13_fresh_0 (hZ : zO b e D A X) (j : Nat → rx_K) (hj : ∀ k pc, [4][k]? = some pc → rx_OK (zV b e D A X) mX13_fresh 4 pc (j k)) : rx_OK (zV b e D A X) mX13_fresh 4 0 (vX13_fresh_0 j) := by
  unfold vX13_fresh_0
  refine s_iconst dX13_fresh_0 (by decide +kernel) ?_
  refine s_istore_n hZ.1 dX13_fresh_1 rfl (Nat.le_of_ble_eq_true rfl) ?_
  refine s_iconst dX13_fresh_2 (by decide +kernel) ?_
  refine s_istore_n hZ.1 dX13_fresh_3 rfl (Nat.le_of_ble_eq_true rfl) ?_
  exact (wX13_fresh_4 hZ j hj)
noncomputable def vhX13_fresh (j : Nat → rx_K) : List rx_K := [vX13_fresh_4 j]
theorem vlX13_fresh (hZ : zO b e D A X) : ∀ n k pc, [4][k]? = some pc → rx_OK (zV b e D A X) mX13_fresh 4 pc (rx_J (vhX13_fresh) n k) := rx_loop fun j hj k pc h => by
  match k, h with
  | 0, h =>
    have e9 := Option.some.inj (show some 4 = some pc from h)
    subst e9
    exact wX13_fresh_4 hZ j hj
  | _ + 1, h => exact absurd h (by simp)
noncomputable def FX13_fresh : List Nat → rx_H → Option (Nat × rx_H) := rx_ent 4 (vX13_fresh_0 (rx_J (vhX13_fresh) 4000000000))
theorem Met_X13_fresh (hZ : zO b e D A X) : rx_Met (zV b e D A X) 4 yX13_fresh mX13_fresh (FX13_fresh) := rx_entry hZ.1 (wX13_fresh_0 hZ _ (vlX13_fresh hZ 4000000000)) (by decide +kernel) rfl (fun h => by cases h)
abbrev mX13_touch : rx_M := (RX13, cX13_touch, 5, (some .int), false)
theorem vy_X13_touch : rx_Y (zV b e D A X) yX13_touch mX13_touch 3 := ⟨zw3805, zw431, by decide, by decide +kernel, by decide +kernel, by decide +kernel⟩
noncomputable def vX13_touch_41 : rx_K := o_ret1 rx_isI
set_option maxRecDepth 20000 in
theorem wX13_touch_41 (hZ : zO b e D A X) : rx_OK (zV b e D A X) mX13_touch 172 41 vX13_touch_41 := by
  unfold vX13_touch_41
  exact s_iret hZ.1 rfl dX13_touch_41
noncomputable def vX13_touch_34 : rx_K := o_ld rx_isR 0 (o_ld rx_isI 4 (o_const 0 (o_callV 2 13 FX13_ask (vX13_touch_41))))
set_option maxRecDepth 20000 in
theorem wX13_touch_34 (hZ : zO b e D A X) : rx_OK (zV b e D A X) mX13_touch 172 34 vX13_touch_34 := by
  unfold vX13_touch_34
  refine s_aload_n hZ.1 dX13_touch_34 rfl ?_
  refine s_iload hZ.1 dX13_touch_35 ?_
  refine s_iconst dX13_touch_37 (by decide +kernel) ?_
  refine s_callV hZ.1 (Met_X13_ask hZ) (Nat.le_of_ble_eq_true rfl) vy_X13_ask zcl13 zw3724 zw337 (Or.inl zw3722) dX13_touch_38 ?_
  exact (wX13_touch_41 hZ)
noncomputable def vX13_touch_29 : rx_K := o_const 34359738352 (vX13_touch_41)
set_option maxRecDepth 20000 in
theorem wX13_touch_29 (hZ : zO b e D A X) : rx_OK (zV b e D A X) mX13_touch 172 29 vX13_touch_29 := by
  unfold vX13_touch_29
  refine s_bipush dX13_touch_29 (by decide +kernel) ?_
  exact s_goto dX13_touch_31 (by decide) (wX13_touch_41 hZ)
noncomputable def vX13_touch_20 : rx_K := o_ld rx_isR 0 (o_ld rx_isI 4 (o_callV 1 13 FX13_stands_ (o_c1 rx_eq vX13_touch_29 vX13_touch_34)))
set_option maxRecDepth 20000 in
theorem wX13_touch_20 (hZ : zO b e D A X) : rx_OK (zV b e D A X) mX13_touch 172 20 vX13_touch_20 := by
  unfold vX13_touch_20
  refine s_aload_n hZ.1 dX13_touch_20 rfl ?_
  refine s_iload hZ.1 dX13_touch_21 ?_
  refine s_callV hZ.1 (Met_X13_stands_ hZ) (Nat.le_of_ble_eq_true rfl) vy_X13_stands_ zcl13 zw3716 zw335 (Or.inl zw3714) dX13_touch_23 ?_
  exact s_if_ne dX13_touch_26 (by decide) (wX13_touch_34 hZ) (wX13_touch_29 hZ)
noncomputable def vX13_touch_16 : rx_K := o_const 34359738360 (vX13_touch_41)
set_option maxRecDepth 20000 in
theorem wX13_touch_16 (hZ : zO b e D A X) : rx_OK (zV b e D A X) mX13_touch 172 16 vX13_touch_16 := by
  unfold vX13_touch_16
  refine s_iconst dX13_touch_16 (by decide +kernel) ?_
  exact s_goto dX13_touch_17 (by decide) (wX13_touch_41 hZ)
noncomputable def vX13_touch_0 : rx_K := o_ld rx_isR 0 (o_ld rx_isI 1 (o_ld rx_isI 2 (o_ld rx_isI 3 (o_callV 3 13 FX13_useAt (o_st rx_isI 4 (o_ld rx_isI 4 (o_const 34359738352 (o_c2 rx_eq vX13_touch_16 vX13_touch_20))))))))
set_option maxRecDepth 20000 in
theorem wX13_touch_0 (hZ : zO b e D A X) : rx_OK (zV b e D A X) mX13_touch 172 0 vX13_touch_0 := by
  unfold vX13_touch_0
  refine s_aload_n hZ.1 dX13_touch_0 rfl ?_
  refine s_iload_n hZ.1 dX13_touch_1 rfl ?_
  refine s_iload_n hZ.1 dX13_touch_2 rfl ?_
  refine s_iload_n hZ.1 dX13_touch_3 rfl ?_
  refine s_callV hZ.1 (Met_X13_useAt hZ) (Nat.le_of_ble_eq_true rfl) vy_X13_useAt zcl13 zw3700 zw333 (Or.inl zw3698) dX13_touch_4 ?_
  refine s_istore hZ.1 dX13_touch_7 (Nat.le_of_ble_eq_true rfl) ?_
  refine s_iload hZ.1 dX13_touch_9 ?_
  refine s_bipush dX13_touch_11 (by decide +kernel) ?_
  exact s_icmp_ne dX13_touch_13 (by decide) (wX13_touch_20 hZ) (wX13_touch_16 hZ)
noncomputable def FX13_touch : List Nat → rx_H → Option (Nat × rx_H) := rx_ent 5 vX13_touch_0
theorem Met_X13_touch (hZ : zO b e D A X) : rx_Met (zV b e D A X) 172 yX13_touch mX13_touch (FX13_touch) := rx_entry hZ.1 (wX13_touch_0 hZ) (by decide +kernel) rfl (fun h => by cases h)
abbrev mX13_fail : rx_M := (RX13, cX13_fail, 2, (some .int), false)
theorem vy_X13_fail : rx_Y (zV b e D A X) yX13_fail mX13_fail 1 := ⟨zw3821, zw431, by decide, by decide +kernel, by decide +kernel, by decide +kernel⟩
noncomputable def vX13_fail_0 : rx_K := o_ld rx_isR 0 (o_const 24 (o_putf rx_isI 13 164 (o_ld rx_isR 0 (o_ld rx_isI 1 (o_putf rx_isI 13 165 (o_const 0 (o_ret1 rx_isI)))))))
set_option maxRecDepth 20000 in
theorem wX13_fail_0 (hZ : zO b e D A X) : rx_OK (zV b e D A X) mX13_fail 0 0 vX13_fail_0 := by
  unfold vX13_fail_0
  refine s_aload_n hZ.1 dX13_fail_0 rfl ?_
  refine s_iconst dX13_fail_1 (by decide +kernel) ?_
  refine yp13_164 hZ.1 dX13_fail_2 zw4284 ?_
  refine s_aload_n hZ.1 dX13_fail_5 rfl ?_
  refine s_iload_n hZ.1 dX13_fail_6 rfl ?_
  refine yp13_165 hZ.1 dX13_fail_7 zw4285 ?_
  refine s_iconst dX13_fail_10 (by decide +kernel) ?_
  exact s_iret hZ.1 rfl dX13_fail_11
noncomputable def FX13_fail : List Nat → rx_H → Option (Nat × rx_H) := rx_ent 2 vX13_fail_0
theorem Met_X13_fail (hZ : zO b e D A X) : rx_Met (zV b e D A X) 0 yX13_fail mX13_fail (FX13_fail) := rx_entry hZ.1 (wX13_fail_0 hZ) (by decide +kernel) rfl (fun h => by cases h)
abbrev mX13_asks : rx_M := (RX13, cX13_asks, 3, (some .boolean), false)
theorem vy_X13_asks : rx_Y (zV b e D A X) yX13_asks mX13_asks 1 := ⟨zw3869, zw431, by decide, by decide +kernel, by decide +kernel, by decide +kernel⟩
noncomputable def vX13_asks_26 : rx_K := o_ret1 rx_isZ
set_option maxRecDepth 20000 in
theorem wX13_asks_26 (hZ : zO b e D A X) : rx_OK (zV b e D A X) mX13_asks 172 26 vX13_asks_26 := by
  unfold vX13_asks_26
  exact s_zret rx_z_ok rfl dX13_asks_26
noncomputable def vX13_asks_25 : rx_K := o_const 0 (vX13_asks_26)
set_option maxRecDepth 20000 in
theorem wX13_asks_25 (hZ : zO b e D A X) : rx_OK (zV b e D A X) mX13_asks 172 25 vX13_asks_25 := by
  unfold vX13_asks_25
  refine s_iconst dX13_asks_25 (by decide +kernel) ?_
  exact (wX13_asks_26 hZ)
noncomputable def vX13_asks_21 : rx_K := o_const 8 (vX13_asks_26)
set_option maxRecDepth 20000 in
theorem wX13_asks_21 (hZ : zO b e D A X) : rx_OK (zV b e D A X) mX13_asks 172 21 vX13_asks_21 := by
  unfold vX13_asks_21
  refine s_iconst dX13_asks_21 (by decide +kernel) ?_
  exact s_goto dX13_asks_22 (by decide) (wX13_asks_26 hZ)
noncomputable def vX13_asks_17 : rx_K := o_ld rx_isI 2 (o_c1 rx_eq vX13_asks_21 vX13_asks_25)
set_option maxRecDepth 20000 in
theorem wX13_asks_17 (hZ : zO b e D A X) : rx_OK (zV b e D A X) mX13_asks 172 17 vX13_asks_17 := by
  unfold vX13_asks_17
  refine s_iload_n hZ.1 dX13_asks_17 rfl ?_
  exact s_if_ne dX13_asks_18 (by decide) (wX13_asks_25 hZ) (wX13_asks_21 hZ)
noncomputable def vX13_asks_11 : rx_K := o_ld rx_isR 0 (o_ld rx_isI 2 (o_callV 1 13 FX13_fail (o_pop (vX13_asks_17))))
set_option maxRecDepth 20000 in
theorem wX13_asks_11 (hZ : zO b e D A X) : rx_OK (zV b e D A X) mX13_asks 172 11 vX13_asks_11 := by
  unfold vX13_asks_11
  refine s_aload_n hZ.1 dX13_asks_11 rfl ?_
  refine s_iload_n hZ.1 dX13_asks_12 rfl ?_
  refine s_callV hZ.1 (Met_X13_fail hZ) (Nat.le_of_ble_eq_true rfl) vy_X13_fail zcl13 zw3820 zw352 (Or.inl zw3818) dX13_asks_13 ?_
  refine s_pop hZ.1 dX13_asks_16 ?_
  exact (wX13_asks_17 hZ)
noncomputable def vX13_asks_0 : rx_K := o_ld rx_isR 0 (o_ld rx_isI 1 (o_const 0 (o_callV 2 13 FX13_ask (o_st rx_isI 2 (o_ld rx_isI 2 (o_c1 rx_eq vX13_asks_17 vX13_asks_11))))))
set_option maxRecDepth 20000 in
theorem wX13_asks_0 (hZ : zO b e D A X) : rx_OK (zV b e D A X) mX13_asks 172 0 vX13_asks_0 := by
  unfold vX13_asks_0
  refine s_aload_n hZ.1 dX13_asks_0 rfl ?_
  refine s_iload_n hZ.1 dX13_asks_1 rfl ?_
  refine s_iconst dX13_asks_2 (by decide +kernel) ?_
  refine s_callV hZ.1 (Met_X13_ask hZ) (Nat.le_of_ble_eq_true rfl) vy_X13_ask zcl13 zw3724 zw337 (Or.inl zw3722) dX13_asks_3 ?_
  refine s_istore_n hZ.1 dX13_asks_6 rfl (Nat.le_of_ble_eq_true rfl) ?_
  refine s_iload_n hZ.1 dX13_asks_7 rfl ?_
  exact s_if_eq dX13_asks_8 (by decide) (wX13_asks_17 hZ) (wX13_asks_11 hZ)
noncomputable def FX13_asks : List Nat → rx_H → Option (Nat × rx_H) := rx_ent 3 vX13_asks_0
theorem Met_X13_asks (hZ : zO b e D A X) : rx_Met (zV b e D A X) 172 yX13_asks mX13_asks (FX13_asks) := rx_entry hZ.1 (wX13_asks_0 hZ) (by decide +kernel) rfl (fun h => by cases h)
abbrev mX13_isMade : rx_M := (RX13, cX13_isMade, 3, (some .boolean), false)
theorem vy_X13_isMade : rx_Y (zV b e D A X) yX13_isMade mX13_isMade 2 := ⟨zw3889, zw431, by decide, by decide +kernel, by decide +kernel, by decide +kernel⟩
noncomputable def vX13_isMade_29 : rx_K := o_ret1 rx_isZ
set_option maxRecDepth 20000 in
theorem wX13_isMade_29 (hZ : zO b e D A X) : rx_OK (zV b e D A X) mX13_isMade 4 29 vX13_isMade_29 := by
  unfold vX13_isMade_29
  exact s_zret rx_z_ok rfl dX13_isMade_29
noncomputable def vX13_isMade_28 : rx_K := o_const 0 (vX13_isMade_29)
set_option maxRecDepth 20000 in
theorem wX13_isMade_28 (hZ : zO b e D A X) : rx_OK (zV b e D A X) mX13_isMade 4 28 vX13_isMade_28 := by
  unfold vX13_isMade_28
  refine s_iconst dX13_isMade_28 (by decide +kernel) ?_
  exact (wX13_isMade_29 hZ)
noncomputable def vX13_isMade_24 : rx_K := o_const 8 (vX13_isMade_29)
set_option maxRecDepth 20000 in
theorem wX13_isMade_24 (hZ : zO b e D A X) : rx_OK (zV b e D A X) mX13_isMade 4 24 vX13_isMade_24 := by
  unfold vX13_isMade_24
  refine s_iconst dX13_isMade_24 (by decide +kernel) ?_
  exact s_goto dX13_isMade_25 (by decide) (wX13_isMade_29 hZ)
noncomputable def vX13_isMade_10 : rx_K := o_ld rx_isR 0 (o_ld rx_isR 0 (o_getf 13 149 (o_ld rx_isI 1 (o_ald 0 (o_ld rx_isI 2 (o_callV 2 13 FX13_isHeir (o_c1 rx_eq vX13_isMade_28 vX13_isMade_24)))))))
set_option maxRecDepth 20000 in
theorem wX13_isMade_10 (hZ : zO b e D A X) : rx_OK (zV b e D A X) mX13_isMade 4 10 vX13_isMade_10 := by
  unfold vX13_isMade_10
  refine s_aload_n hZ.1 dX13_isMade_10 rfl ?_
  refine s_aload_n hZ.1 dX13_isMade_11 rfl ?_
  refine yg13_149 dX13_isMade_12 zw4269 ?_
  refine s_iload_n hZ.1 dX13_isMade_15 rfl ?_
  refine s_iald (tt := 0) rfl dX13_isMade_16 ?_
  refine s_iload_n hZ.1 dX13_isMade_17 rfl ?_
  refine s_callV hZ.1 (Met_X13_isHeir hZ) (Nat.le_of_ble_eq_true rfl) vy_X13_isHeir zcl13 zw3211 zw231 (Or.inl zw3209) dX13_isMade_18 ?_
  exact s_if_eq dX13_isMade_21 (by decide) (wX13_isMade_28 hZ) (wX13_isMade_24 hZ)
noncomputable def vX13_isMade_0 : rx_K := o_ld rx_isR 0 (o_getf 13 149 (o_ld rx_isI 1 (o_ald 0 (o_ld rx_isI 2 (o_c2 rx_eq vX13_isMade_24 vX13_isMade_10)))))
set_option maxRecDepth 20000 in
theorem wX13_isMade_0 (hZ : zO b e D A X) : rx_OK (zV b e D A X) mX13_isMade 4 0 vX13_isMade_0 := by
  unfold vX13_isMade_0
  refine s_aload_n hZ.1 dX13_isMade_0 rfl ?_
  refine yg13_149 dX13_isMade_1 zw4269 ?_
  refine s_iload_n hZ.1 dX13_isMade_4 rfl ?_
  refine s_iald (tt := 0) rfl dX13_isMade_5 ?_
  refine s_iload_n hZ.1 dX13_isMade_6 rfl ?_
  exact s_icmp_eq dX13_isMade_7 (by decide) (wX13_isMade_24 hZ) (wX13_isMade_10 hZ)
noncomputable def FX13_isMade : List Nat → rx_H → Option (Nat × rx_H) := rx_ent 3 vX13_isMade_0
theorem Met_X13_isMade (hZ : zO b e D A X) : rx_Met (zV b e D A X) 4 yX13_isMade mX13_isMade (FX13_isMade) := rx_entry hZ.1 (wX13_isMade_0 hZ) (by decide +kernel) rfl (fun h => by cases h)
abbrev mX13_hasBody : rx_M := (RX13, cX13_hasBody, 4, (some .boolean), false)
theorem vy_X13_hasBody : rx_Y (zV b e D A X) yX13_hasBody mX13_hasBody 1 := ⟨zw3845, zw431, by decide, by decide +kernel, by decide +kernel, by decide +kernel⟩
noncomputable def vX13_hasBody_55 (j : Nat → rx_K) : rx_K := o_const 0 (o_ret1 rx_isZ)
set_option maxRecDepth 20000 in
theorem wX13_hasBody_55 (hZ : zO b e D A X) (j : Nat → rx_K) (hj : ∀ k pc, [2][k]? = some pc → rx_OK (zV b e D A X) mX13_hasBody 0 pc (j k)) : rx_OK (zV b e D A X) mX13_hasBody 0 55 (vX13_hasBody_55 j) := by
  unfold vX13_hasBody_55
  refine s_iconst dX13_hasBody_55 (by decide +kernel) ?_
  exact s_zret rx_z_ok rfl dX13_hasBody_56
noncomputable def vX13_hasBody_49 (j : Nat → rx_K) : rx_K := o_inc 2 (1) ((j 0))
set_option maxRecDepth 20000 in
theorem wX13_hasBody_49 (hZ : zO b e D A X) (j : Nat → rx_K) (hj : ∀ k pc, [2][k]? = some pc → rx_OK (zV b e D A X) mX13_hasBody 0 pc (j k)) : rx_OK (zV b e D A X) mX13_hasBody 0 49 (vX13_hasBody_49 j) := by
  unfold vX13_hasBody_49
  refine s_iinc hZ.1 dX13_hasBody_49 (Nat.le_of_ble_eq_true rfl) ?_
  exact s_goto dX13_hasBody_52 (by decide) (hj 0 2 rfl)
noncomputable def vX13_hasBody_47 (j : Nat → rx_K) : rx_K := o_const 8 (o_ret1 rx_isZ)
set_option maxRecDepth 20000 in
theorem wX13_hasBody_47 (hZ : zO b e D A X) (j : Nat → rx_K) (hj : ∀ k pc, [2][k]? = some pc → rx_OK (zV b e D A X) mX13_hasBody 0 pc (j k)) : rx_OK (zV b e D A X) mX13_hasBody 0 47 (vX13_hasBody_47 j) := by
  unfold vX13_hasBody_47
  refine s_iconst dX13_hasBody_47 (by decide +kernel) ?_
  exact s_zret rx_z_ok rfl dX13_hasBody_48
noncomputable def vX13_hasBody_38 (j : Nat → rx_K) : rx_K := o_ld rx_isR 0 (o_getf 13 45 (o_ld rx_isI 3 (o_ald 3 (o_c1 rx_eq (vX13_hasBody_47 j) (vX13_hasBody_49 j)))))
set_option maxRecDepth 20000 in
theorem wX13_hasBody_38 (hZ : zO b e D A X) (j : Nat → rx_K) (hj : ∀ k pc, [2][k]? = some pc → rx_OK (zV b e D A X) mX13_hasBody 0 pc (j k)) : rx_OK (zV b e D A X) mX13_hasBody 0 38 (vX13_hasBody_38 j) := by
  unfold vX13_hasBody_38
  refine s_aload_n hZ.1 dX13_hasBody_38 rfl ?_
  refine yg13_45 dX13_hasBody_39 zw4166 ?_
  refine s_iload_n hZ.1 dX13_hasBody_42 rfl ?_
  refine s_zald (tt := 3) rfl dX13_hasBody_43 ?_
  exact s_if_ne dX13_hasBody_44 (by decide) (wX13_hasBody_49 hZ j hj) (wX13_hasBody_47 hZ j hj)
noncomputable def vX13_hasBody_29 (j : Nat → rx_K) : rx_K := o_ld rx_isR 0 (o_getf 13 47 (o_ld rx_isI 3 (o_ald 3 (o_c1 rx_eq (vX13_hasBody_38 j) (vX13_hasBody_49 j)))))
set_option maxRecDepth 20000 in
theorem wX13_hasBody_29 (hZ : zO b e D A X) (j : Nat → rx_K) (hj : ∀ k pc, [2][k]? = some pc → rx_OK (zV b e D A X) mX13_hasBody 0 pc (j k)) : rx_OK (zV b e D A X) mX13_hasBody 0 29 (vX13_hasBody_29 j) := by
  unfold vX13_hasBody_29
  refine s_aload_n hZ.1 dX13_hasBody_29 rfl ?_
  refine yg13_47 dX13_hasBody_30 zw4168 ?_
  refine s_iload_n hZ.1 dX13_hasBody_33 rfl ?_
  refine s_zald (tt := 3) rfl dX13_hasBody_34 ?_
  exact s_if_ne dX13_hasBody_35 (by decide) (wX13_hasBody_49 hZ j hj) (wX13_hasBody_38 hZ j hj)
noncomputable def vX13_hasBody_12 (j : Nat → rx_K) : rx_K := o_ld rx_isI 1 (o_const 272 (o_bi (fun x y => x * y) (o_ld rx_isI 2 (o_bi (fun x y => x + y) (o_st rx_isI 3 (o_ld rx_isR 0 (o_getf 13 42 (o_ld rx_isI 3 (o_ald 0 (o_const 8 (o_c2 rx_eq (vX13_hasBody_29 j) (vX13_hasBody_49 j))))))))))))
set_option maxRecDepth 20000 in
theorem wX13_hasBody_12 (hZ : zO b e D A X) (j : Nat → rx_K) (hj : ∀ k pc, [2][k]? = some pc → rx_OK (zV b e D A X) mX13_hasBody 0 pc (j k)) : rx_OK (zV b e D A X) mX13_hasBody 0 12 (vX13_hasBody_12 j) := by
  unfold vX13_hasBody_12
  refine s_iload_n hZ.1 dX13_hasBody_12 rfl ?_
  refine s_bipush dX13_hasBody_13 (by decide +kernel) ?_
  refine s_imul dX13_hasBody_15 ?_
  refine s_iload_n hZ.1 dX13_hasBody_16 rfl ?_
  refine s_iadd dX13_hasBody_17 ?_
  refine s_istore_n hZ.1 dX13_hasBody_18 rfl (Nat.le_of_ble_eq_true rfl) ?_
  refine s_aload_n hZ.1 dX13_hasBody_19 rfl ?_
  refine yg13_42 dX13_hasBody_20 zw4163 ?_
  refine s_iload_n hZ.1 dX13_hasBody_23 rfl ?_
  refine s_iald (tt := 0) rfl dX13_hasBody_24 ?_
  refine s_iconst dX13_hasBody_25 (by decide +kernel) ?_
  exact s_icmp_ne dX13_hasBody_26 (by decide) (wX13_hasBody_49 hZ j hj) (wX13_hasBody_29 hZ j hj)
noncomputable def vX13_hasBody_2 (j : Nat → rx_K) : rx_K := o_ld rx_isI 2 (o_ld rx_isR 0 (o_getf 13 41 (o_ld rx_isI 1 (o_ald 0 (o_c2 rx_lt (vX13_hasBody_12 j) (vX13_hasBody_55 j))))))
set_option maxRecDepth 20000 in
theorem wX13_hasBody_2 (hZ : zO b e D A X) (j : Nat → rx_K) (hj : ∀ k pc, [2][k]? = some pc → rx_OK (zV b e D A X) mX13_hasBody 0 pc (j k)) : rx_OK (zV b e D A X) mX13_hasBody 0 2 (vX13_hasBody_2 j) := by
  unfold vX13_hasBody_2
  refine s_iload_n hZ.1 dX13_hasBody_2 rfl ?_
  refine s_aload_n hZ.1 dX13_hasBody_3 rfl ?_
  refine yg13_41 dX13_hasBody_4 zw4162 ?_
  refine s_iload_n hZ.1 dX13_hasBody_7 rfl ?_
  refine s_iald (tt := 0) rfl dX13_hasBody_8 ?_
  exact s_icmp_ge dX13_hasBody_9 (by decide) (wX13_hasBody_55 hZ j hj) (wX13_hasBody_12 hZ j hj)
noncomputable def vX13_hasBody_0 (j : Nat → rx_K) : rx_K := o_const 0 (o_st rx_isI 2 ((vX13_hasBody_2 j)))
set_option maxRecDepth 20000 in
theorem wX13_hasBody_0 (hZ : zO b e D A X) (j : Nat → rx_K) (hj : ∀ k pc, [2][k]? = some pc → rx_OK (zV b e D A X) mX13_hasBody 0 pc (j k)) : rx_OK (zV b e D A X) mX13_hasBody 0 0 (vX13_hasBody_0 j) := by
  unfold vX13_hasBody_0
  refine s_iconst dX13_hasBody_0 (by decide +kernel) ?_
  refine s_istore_n hZ.1 dX13_hasBody_1 rfl (Nat.le_of_ble_eq_true rfl) ?_
  exact (wX13_hasBody_2 hZ j hj)
noncomputable def vhX13_hasBody (j : Nat → rx_K) : List rx_K := [vX13_hasBody_2 j]
theorem vlX13_hasBody (hZ : zO b e D A X) : ∀ n k pc, [2][k]? = some pc → rx_OK (zV b e D A X) mX13_hasBody 0 pc (rx_J (vhX13_hasBody) n k) := rx_loop fun j hj k pc h => by
  match k, h with
  | 0, h =>
    have e9 := Option.some.inj (show some 2 = some pc from h)
    subst e9
    exact wX13_hasBody_2 hZ j hj
  | _ + 1, h => exact absurd h (by simp)
noncomputable def FX13_hasBody : List Nat → rx_H → Option (Nat × rx_H) := rx_ent 4 (vX13_hasBody_0 (rx_J (vhX13_hasBody) 4000000000))
theorem Met_X13_hasBody (hZ : zO b e D A X) : rx_Met (zV b e D A X) 0 yX13_hasBody mX13_hasBody (FX13_hasBody) := rx_entry hZ.1 (wX13_hasBody_0 hZ _ (vlX13_hasBody hZ 4000000000)) (by decide +kernel) rfl (fun h => by cases h)
abbrev mX13_pushFaces : rx_M := (RX13, cX13_pushFaces, 3, none, false)
theorem vy_X13_pushFaces : rx_Y (zV b e D A X) yX13_pushFaces mX13_pushFaces 1 := ⟨zw3841, zw431, by decide, by decide +kernel, by decide +kernel, by decide +kernel⟩
noncomputable def vX13_pushFaces_54 (j : Nat → rx_K) : rx_K := o_ret0
set_option maxRecDepth 20000 in
theorem wX13_pushFaces_54 (hZ : zO b e D A X) (j : Nat → rx_K) (hj : ∀ k pc, [9][k]? = some pc → rx_OK (zV b e D A X) mX13_pushFaces 2 pc (j k)) : rx_OK (zV b e D A X) mX13_pushFaces 2 54 (vX13_pushFaces_54 j) := by
  unfold vX13_pushFaces_54
  exact s_vret rfl dX13_pushFaces_54
noncomputable def vX13_pushFaces_51 (j : Nat → rx_K) : rx_K := (j 0)
set_option maxRecDepth 20000 in
theorem wX13_pushFaces_51 (hZ : zO b e D A X) (j : Nat → rx_K) (hj : ∀ k pc, [9][k]? = some pc → rx_OK (zV b e D A X) mX13_pushFaces 2 pc (j k)) : rx_OK (zV b e D A X) mX13_pushFaces 2 51 (vX13_pushFaces_51 j) := by
  unfold vX13_pushFaces_51
  exact s_goto dX13_pushFaces_51 (by decide) (hj 0 9 rfl)
noncomputable def vX13_pushFaces_13 (j : Nat → rx_K) : rx_K := o_ld rx_isR 0 (o_getf 13 172 (o_ld rx_isR 0 (o_getf 13 173 (o_const 16 (o_ld rx_isR 0 (o_ld rx_isR 0 (o_getf 13 30 (o_const 32 (o_ld rx_isI 1 (o_bi (fun x y => x * y) (o_ld rx_isI 2 (o_bi (fun x y => x + y) (o_ald 1 (o_callV 1 13 FX13_find (o_bi (fun x y => x * y) (o_ast 0 (fun v => v) rx_isI (o_ld rx_isR 0 (o_dup (o_getf 13 173 (o_const 8 (o_bi (fun x y => x + y) (o_putf rx_isI 13 173 (o_inc 2 (-1) ((vX13_pushFaces_51 j)))))))))))))))))))))))))
set_option maxRecDepth 20000 in
theorem wX13_pushFaces_13 (hZ : zO b e D A X) (j : Nat → rx_K) (hj : ∀ k pc, [9][k]? = some pc → rx_OK (zV b e D A X) mX13_pushFaces 2 pc (j k)) : rx_OK (zV b e D A X) mX13_pushFaces 2 13 (vX13_pushFaces_13 j) := by
  unfold vX13_pushFaces_13
  refine s_aload_n hZ.1 dX13_pushFaces_13 rfl ?_
  refine yg13_172 dX13_pushFaces_14 zw4292 ?_
  refine s_aload_n hZ.1 dX13_pushFaces_17 rfl ?_
  refine yg13_173 dX13_pushFaces_18 zw4293 ?_
  refine s_iconst dX13_pushFaces_21 (by decide +kernel) ?_
  refine s_aload_n hZ.1 dX13_pushFaces_22 rfl ?_
  refine s_aload_n hZ.1 dX13_pushFaces_23 rfl ?_
  refine yg13_30 dX13_pushFaces_24 zw4151 ?_
  refine s_iconst dX13_pushFaces_27 (by decide +kernel) ?_
  refine s_iload_n hZ.1 dX13_pushFaces_28 rfl ?_
  refine s_imul dX13_pushFaces_29 ?_
  refine s_iload_n hZ.1 dX13_pushFaces_30 rfl ?_
  refine s_iadd dX13_pushFaces_31 ?_
  refine s_lald (tt := 1) rfl dX13_pushFaces_32 ?_
  refine s_callV hZ.1 (Met_X13_find hZ) (Nat.le_of_ble_eq_true rfl) vy_X13_find zcl13 zw3186 zw226 (Or.inl zw3184) dX13_pushFaces_33 ?_
  refine s_imul dX13_pushFaces_36 ?_
  refine s_iast hZ.1 (tt := 0) rfl dX13_pushFaces_37 ?_
  refine s_aload_n hZ.1 dX13_pushFaces_38 rfl ?_
  refine s_dup hZ.1 dX13_pushFaces_39 ?_
  refine yg13_173 dX13_pushFaces_40 zw4293 ?_
  refine s_iconst dX13_pushFaces_43 (by decide +kernel) ?_
  refine s_iadd dX13_pushFaces_44 ?_
  refine yp13_173 hZ.1 dX13_pushFaces_45 zw4293 ?_
  refine s_iinc hZ.1 dX13_pushFaces_48 (Nat.le_of_ble_eq_true rfl) ?_
  exact (wX13_pushFaces_51 hZ j hj)
noncomputable def vX13_pushFaces_9 (j : Nat → rx_K) : rx_K := o_ld rx_isI 2 (o_c1 rx_lt (vX13_pushFaces_54 j) (vX13_pushFaces_13 j))
set_option maxRecDepth 20000 in
theorem wX13_pushFaces_9 (hZ : zO b e D A X) (j : Nat → rx_K) (hj : ∀ k pc, [9][k]? = some pc → rx_OK (zV b e D A X) mX13_pushFaces 2 pc (j k)) : rx_OK (zV b e D A X) mX13_pushFaces 2 9 (vX13_pushFaces_9 j) := by
  unfold vX13_pushFaces_9
  refine s_iload_n hZ.1 dX13_pushFaces_9 rfl ?_
  exact s_if_lt dX13_pushFaces_10 (by decide) (wX13_pushFaces_54 hZ j hj) (wX13_pushFaces_13 hZ j hj)
noncomputable def vX13_pushFaces_0 (j : Nat → rx_K) : rx_K := o_ld rx_isR 0 (o_getf 13 32 (o_ld rx_isI 1 (o_ald 0 (o_const 8 (o_bi (fun x y => x - y) (o_st rx_isI 2 ((vX13_pushFaces_9 j))))))))
set_option maxRecDepth 20000 in
theorem wX13_pushFaces_0 (hZ : zO b e D A X) (j : Nat → rx_K) (hj : ∀ k pc, [9][k]? = some pc → rx_OK (zV b e D A X) mX13_pushFaces 2 pc (j k)) : rx_OK (zV b e D A X) mX13_pushFaces 2 0 (vX13_pushFaces_0 j) := by
  unfold vX13_pushFaces_0
  refine s_aload_n hZ.1 dX13_pushFaces_0 rfl ?_
  refine yg13_32 dX13_pushFaces_1 zw4153 ?_
  refine s_iload_n hZ.1 dX13_pushFaces_4 rfl ?_
  refine s_iald (tt := 0) rfl dX13_pushFaces_5 ?_
  refine s_iconst dX13_pushFaces_6 (by decide +kernel) ?_
  refine s_isub dX13_pushFaces_7 ?_
  refine s_istore_n hZ.1 dX13_pushFaces_8 rfl (Nat.le_of_ble_eq_true rfl) ?_
  exact (wX13_pushFaces_9 hZ j hj)
noncomputable def vhX13_pushFaces (j : Nat → rx_K) : List rx_K := [vX13_pushFaces_9 j]
theorem vlX13_pushFaces (hZ : zO b e D A X) : ∀ n k pc, [9][k]? = some pc → rx_OK (zV b e D A X) mX13_pushFaces 2 pc (rx_J (vhX13_pushFaces) n k) := rx_loop fun j hj k pc h => by
  match k, h with
  | 0, h =>
    have e9 := Option.some.inj (show some 9 = some pc from h)
    subst e9
    exact wX13_pushFaces_9 hZ j hj
  | _ + 1, h => exact absurd h (by simp)
noncomputable def FX13_pushFaces : List Nat → rx_H → Option (Nat × rx_H) := rx_ent 3 (vX13_pushFaces_0 (rx_J (vhX13_pushFaces) 4000000000))
theorem Met_X13_pushFaces (hZ : zO b e D A X) : rx_Met (zV b e D A X) 2 yX13_pushFaces mX13_pushFaces (FX13_pushFaces) := rx_entry hZ.1 (wX13_pushFaces_0 hZ _ (vlX13_pushFaces hZ 4000000000)) (by decide +kernel) rfl (fun h => by cases h)
abbrev mX13_asked : rx_M := (RX13, cX13_asked, 3, (some .int), false)
theorem vy_X13_asked : rx_Y (zV b e D A X) yX13_asked mX13_asked 2 := ⟨zw3885, zw431, by decide, by decide +kernel, by decide +kernel, by decide +kernel⟩
noncomputable def vX13_asked_45 : rx_K := o_ret1 rx_isI
set_option maxRecDepth 20000 in
theorem wX13_asked_45 (hZ : zO b e D A X) : rx_OK (zV b e D A X) mX13_asked 173 45 vX13_asked_45 := by
  unfold vX13_asked_45
  exact s_iret hZ.1 rfl dX13_asked_45
noncomputable def vX13_asked_44 : rx_K := o_const 0 (vX13_asked_45)
set_option maxRecDepth 20000 in
theorem wX13_asked_44 (hZ : zO b e D A X) : rx_OK (zV b e D A X) mX13_asked 173 44 vX13_asked_44 := by
  unfold vX13_asked_44
  refine s_iconst dX13_asked_44 (by decide +kernel) ?_
  exact (wX13_asked_45 hZ)
noncomputable def vX13_asked_40 : rx_K := o_const 8 (vX13_asked_45)
set_option maxRecDepth 20000 in
theorem wX13_asked_40 (hZ : zO b e D A X) : rx_OK (zV b e D A X) mX13_asked 173 40 vX13_asked_40 := by
  unfold vX13_asked_40
  refine s_iconst dX13_asked_40 (by decide +kernel) ?_
  exact s_goto dX13_asked_41 (by decide) (wX13_asked_45 hZ)
noncomputable def vX13_asked_17 : rx_K := o_ld rx_isR 0 (o_ld rx_isI 2 (o_ld rx_isR 0 (o_ld rx_isR 0 (o_getf 13 121 (o_ld rx_isR 0 (o_getf 13 87 (o_ld rx_isI 1 (o_ald 0 (o_ald 1 (o_callV 1 13 FX13_find (o_callV 2 13 FX13_isMade (o_c1 rx_eq vX13_asked_44 vX13_asked_40))))))))))))
set_option maxRecDepth 20000 in
theorem wX13_asked_17 (hZ : zO b e D A X) : rx_OK (zV b e D A X) mX13_asked 173 17 vX13_asked_17 := by
  unfold vX13_asked_17
  refine s_aload_n hZ.1 dX13_asked_17 rfl ?_
  refine s_iload_n hZ.1 dX13_asked_18 rfl ?_
  refine s_aload_n hZ.1 dX13_asked_19 rfl ?_
  refine s_aload_n hZ.1 dX13_asked_20 rfl ?_
  refine yg13_121 dX13_asked_21 zw4241 ?_
  refine s_aload_n hZ.1 dX13_asked_24 rfl ?_
  refine yg13_87 dX13_asked_25 zw4208 ?_
  refine s_iload_n hZ.1 dX13_asked_28 rfl ?_
  refine s_iald (tt := 0) rfl dX13_asked_29 ?_
  refine s_lald (tt := 1) rfl dX13_asked_30 ?_
  refine s_callV hZ.1 (Met_X13_find hZ) (Nat.le_of_ble_eq_true rfl) vy_X13_find zcl13 zw3186 zw226 (Or.inl zw3184) dX13_asked_31 ?_
  refine s_callV hZ.1 (Met_X13_isMade hZ) (Nat.le_of_ble_eq_true rfl) vy_X13_isMade zcl13 zw3888 zw369 (Or.inl zw3886) dX13_asked_34 ?_
  exact s_if_eq dX13_asked_37 (by decide) (wX13_asked_44 hZ) (wX13_asked_40 hZ)
noncomputable def vX13_asked_4 : rx_K := o_ld rx_isR 0 (o_ld rx_isR 0 (o_getf 13 87 (o_ld rx_isI 1 (o_ald 0 (o_callV 1 13 FX13_asks (o_c1 rx_eq vX13_asked_44 vX13_asked_17))))))
set_option maxRecDepth 20000 in
theorem wX13_asked_4 (hZ : zO b e D A X) : rx_OK (zV b e D A X) mX13_asked 173 4 vX13_asked_4 := by
  unfold vX13_asked_4
  refine s_aload_n hZ.1 dX13_asked_4 rfl ?_
  refine s_aload_n hZ.1 dX13_asked_5 rfl ?_
  refine yg13_87 dX13_asked_6 zw4208 ?_
  refine s_iload_n hZ.1 dX13_asked_9 rfl ?_
  refine s_iald (tt := 0) rfl dX13_asked_10 ?_
  refine s_callV hZ.1 (Met_X13_asks hZ) (Nat.le_of_ble_eq_true rfl) vy_X13_asks zcl13 zw3868 zw364 (Or.inl zw3866) dX13_asked_11 ?_
  exact s_if_eq dX13_asked_14 (by decide) (wX13_asked_44 hZ) (wX13_asked_17 hZ)
noncomputable def vX13_asked_0 : rx_K := o_ld rx_isI 2 (o_c1 rx_eq vX13_asked_44 vX13_asked_4)
set_option maxRecDepth 20000 in
theorem wX13_asked_0 (hZ : zO b e D A X) : rx_OK (zV b e D A X) mX13_asked 173 0 vX13_asked_0 := by
  unfold vX13_asked_0
  refine s_iload_n hZ.1 dX13_asked_0 rfl ?_
  exact s_if_eq dX13_asked_1 (by decide) (wX13_asked_44 hZ) (wX13_asked_4 hZ)
noncomputable def FX13_asked : List Nat → rx_H → Option (Nat × rx_H) := rx_ent 3 vX13_asked_0
theorem Met_X13_asked (hZ : zO b e D A X) : rx_Met (zV b e D A X) 173 yX13_asked mX13_asked (FX13_asked) := rx_entry hZ.1 (wX13_asked_0 hZ) (by decide +kernel) rfl (fun h => by cases h)
end ZM62

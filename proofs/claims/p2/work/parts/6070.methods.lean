section ZM70
variable {b : Nat} {e : Nat → Value} {D : va_G} {A : Nat → ClassId} {X : State → Prop}
abbrev mX13_compareMakers : rx_M := (RX13, cX13_compareMakers, 6, none, false)
theorem vy_X13_compareMakers : rx_Y (zV b e D A X) yX13_compareMakers mX13_compareMakers 2 := ⟨zw4041, zw431, by decide, by decide +kernel, by decide +kernel, by decide +kernel⟩
noncomputable def vX13_compareMakers_185 (j : Nat → rx_K) : rx_K := o_ret0
set_option maxRecDepth 20000 in
theorem wX13_compareMakers_185 (hZ : zO b e D A X) (j : Nat → rx_K) (hj : ∀ k pc, [2, 126][k]? = some pc → rx_OK (zV b e D A X) mX13_compareMakers 4 pc (j k)) : rx_OK (zV b e D A X) mX13_compareMakers 4 185 (vX13_compareMakers_185 j) := by
  unfold vX13_compareMakers_185
  exact s_vret rfl dX13_compareMakers_185
noncomputable def vX13_compareMakers_179 (j : Nat → rx_K) : rx_K := o_inc 3 (1) ((j 1))
set_option maxRecDepth 20000 in
theorem wX13_compareMakers_179 (hZ : zO b e D A X) (j : Nat → rx_K) (hj : ∀ k pc, [2, 126][k]? = some pc → rx_OK (zV b e D A X) mX13_compareMakers 4 pc (j k)) : rx_OK (zV b e D A X) mX13_compareMakers 4 179 (vX13_compareMakers_179 j) := by
  unfold vX13_compareMakers_179
  refine s_iinc hZ.1 dX13_compareMakers_179 (Nat.le_of_ble_eq_true rfl) ?_
  exact s_goto dX13_compareMakers_182 (by decide) (hj 1 126 rfl)
noncomputable def vX13_compareMakers_167 (j : Nat → rx_K) : rx_K := o_ld rx_isR 0 (o_const 432 (o_ld rx_isI 1 (o_ld rx_isI 2 (o_const 34359738352 (o_ld rx_isI 4 (o_callV 5 13 FX13_differs ((vX13_compareMakers_179 j))))))))
set_option maxRecDepth 20000 in
theorem wX13_compareMakers_167 (hZ : zO b e D A X) (j : Nat → rx_K) (hj : ∀ k pc, [2, 126][k]? = some pc → rx_OK (zV b e D A X) mX13_compareMakers 4 pc (j k)) : rx_OK (zV b e D A X) mX13_compareMakers 4 167 (vX13_compareMakers_167 j) := by
  unfold vX13_compareMakers_167
  refine s_aload_n hZ.1 dX13_compareMakers_167 rfl ?_
  refine s_bipush dX13_compareMakers_168 (by decide +kernel) ?_
  refine s_iload_n hZ.1 dX13_compareMakers_170 rfl ?_
  refine s_iload_n hZ.1 dX13_compareMakers_171 rfl ?_
  refine s_bipush dX13_compareMakers_172 (by decide +kernel) ?_
  refine s_iload hZ.1 dX13_compareMakers_174 ?_
  refine s_callV hZ.1 (Met_X13_differs hZ) (Nat.le_of_ble_eq_true rfl) vy_X13_differs zcl13 zw3996 zw387 (Or.inl zw3994) dX13_compareMakers_176 ?_
  exact (wX13_compareMakers_179 hZ j hj)
noncomputable def vX13_compareMakers_155 (j : Nat → rx_K) : rx_K := o_ld rx_isR 0 (o_ld rx_isI 1 (o_ld rx_isI 4 (o_callV 2 13 FX13_alike (o_const 34359738352 (o_c2 rx_eq (vX13_compareMakers_167 j) (vX13_compareMakers_179 j))))))
set_option maxRecDepth 20000 in
theorem wX13_compareMakers_155 (hZ : zO b e D A X) (j : Nat → rx_K) (hj : ∀ k pc, [2, 126][k]? = some pc → rx_OK (zV b e D A X) mX13_compareMakers 4 pc (j k)) : rx_OK (zV b e D A X) mX13_compareMakers 4 155 (vX13_compareMakers_155 j) := by
  unfold vX13_compareMakers_155
  refine s_aload_n hZ.1 dX13_compareMakers_155 rfl ?_
  refine s_iload_n hZ.1 dX13_compareMakers_156 rfl ?_
  refine s_iload hZ.1 dX13_compareMakers_157 ?_
  refine s_callV hZ.1 (Met_X13_alike hZ) (Nat.le_of_ble_eq_true rfl) vy_X13_alike zcl13 zw4028 zw395 (Or.inl zw4026) dX13_compareMakers_159 ?_
  refine s_bipush dX13_compareMakers_162 (by decide +kernel) ?_
  exact s_icmp_ne dX13_compareMakers_164 (by decide) (wX13_compareMakers_179 hZ j hj) (wX13_compareMakers_167 hZ j hj)
noncomputable def vX13_compareMakers_136 (j : Nat → rx_K) : rx_K := o_ld rx_isI 2 (o_const 272 (o_bi (fun x y => x * y) (o_ld rx_isI 3 (o_bi (fun x y => x + y) (o_st rx_isI 4 (o_ld rx_isR 0 (o_getf 13 42 (o_ld rx_isI 4 (o_ald 0 (o_const 16 (o_c2 rx_eq (vX13_compareMakers_155 j) (vX13_compareMakers_179 j))))))))))))
set_option maxRecDepth 20000 in
theorem wX13_compareMakers_136 (hZ : zO b e D A X) (j : Nat → rx_K) (hj : ∀ k pc, [2, 126][k]? = some pc → rx_OK (zV b e D A X) mX13_compareMakers 4 pc (j k)) : rx_OK (zV b e D A X) mX13_compareMakers 4 136 (vX13_compareMakers_136 j) := by
  unfold vX13_compareMakers_136
  refine s_iload_n hZ.1 dX13_compareMakers_136 rfl ?_
  refine s_bipush dX13_compareMakers_137 (by decide +kernel) ?_
  refine s_imul dX13_compareMakers_139 ?_
  refine s_iload_n hZ.1 dX13_compareMakers_140 rfl ?_
  refine s_iadd dX13_compareMakers_141 ?_
  refine s_istore hZ.1 dX13_compareMakers_142 (Nat.le_of_ble_eq_true rfl) ?_
  refine s_aload_n hZ.1 dX13_compareMakers_144 rfl ?_
  refine yg13_42 dX13_compareMakers_145 zw4163 ?_
  refine s_iload hZ.1 dX13_compareMakers_148 ?_
  refine s_iald (tt := 0) rfl dX13_compareMakers_150 ?_
  refine s_iconst dX13_compareMakers_151 (by decide +kernel) ?_
  exact s_icmp_ne dX13_compareMakers_152 (by decide) (wX13_compareMakers_179 hZ j hj) (wX13_compareMakers_155 hZ j hj)
noncomputable def vX13_compareMakers_126 (j : Nat → rx_K) : rx_K := o_ld rx_isI 3 (o_ld rx_isR 0 (o_getf 13 41 (o_ld rx_isI 2 (o_ald 0 (o_c2 rx_lt (vX13_compareMakers_136 j) (vX13_compareMakers_185 j))))))
set_option maxRecDepth 20000 in
theorem wX13_compareMakers_126 (hZ : zO b e D A X) (j : Nat → rx_K) (hj : ∀ k pc, [2, 126][k]? = some pc → rx_OK (zV b e D A X) mX13_compareMakers 4 pc (j k)) : rx_OK (zV b e D A X) mX13_compareMakers 4 126 (vX13_compareMakers_126 j) := by
  unfold vX13_compareMakers_126
  refine s_iload_n hZ.1 dX13_compareMakers_126 rfl ?_
  refine s_aload_n hZ.1 dX13_compareMakers_127 rfl ?_
  refine yg13_41 dX13_compareMakers_128 zw4162 ?_
  refine s_iload_n hZ.1 dX13_compareMakers_131 rfl ?_
  refine s_iald (tt := 0) rfl dX13_compareMakers_132 ?_
  exact s_icmp_ge dX13_compareMakers_133 (by decide) (wX13_compareMakers_185 hZ j hj) (wX13_compareMakers_136 hZ j hj)
noncomputable def vX13_compareMakers_124 (j : Nat → rx_K) : rx_K := o_const 0 (o_st rx_isI 3 ((vX13_compareMakers_126 j)))
set_option maxRecDepth 20000 in
theorem wX13_compareMakers_124 (hZ : zO b e D A X) (j : Nat → rx_K) (hj : ∀ k pc, [2, 126][k]? = some pc → rx_OK (zV b e D A X) mX13_compareMakers 4 pc (j k)) : rx_OK (zV b e D A X) mX13_compareMakers 4 124 (vX13_compareMakers_124 j) := by
  unfold vX13_compareMakers_124
  refine s_iconst dX13_compareMakers_124 (by decide +kernel) ?_
  refine s_istore_n hZ.1 dX13_compareMakers_125 rfl (Nat.le_of_ble_eq_true rfl) ?_
  exact (wX13_compareMakers_126 hZ j hj)
noncomputable def vX13_compareMakers_118 (j : Nat → rx_K) : rx_K := o_inc 3 (1) ((j 0))
set_option maxRecDepth 20000 in
theorem wX13_compareMakers_118 (hZ : zO b e D A X) (j : Nat → rx_K) (hj : ∀ k pc, [2, 126][k]? = some pc → rx_OK (zV b e D A X) mX13_compareMakers 4 pc (j k)) : rx_OK (zV b e D A X) mX13_compareMakers 4 118 (vX13_compareMakers_118 j) := by
  unfold vX13_compareMakers_118
  refine s_iinc hZ.1 dX13_compareMakers_118 (Nat.le_of_ble_eq_true rfl) ?_
  exact s_goto dX13_compareMakers_121 (by decide) (hj 0 2 rfl)
noncomputable def vX13_compareMakers_106 (j : Nat → rx_K) : rx_K := o_ld rx_isR 0 (o_const 424 (o_ld rx_isI 1 (o_ld rx_isI 2 (o_ld rx_isI 4 (o_ld rx_isI 5 (o_callV 5 13 FX13_differs ((vX13_compareMakers_118 j))))))))
set_option maxRecDepth 20000 in
theorem wX13_compareMakers_106 (hZ : zO b e D A X) (j : Nat → rx_K) (hj : ∀ k pc, [2, 126][k]? = some pc → rx_OK (zV b e D A X) mX13_compareMakers 4 pc (j k)) : rx_OK (zV b e D A X) mX13_compareMakers 4 106 (vX13_compareMakers_106 j) := by
  unfold vX13_compareMakers_106
  refine s_aload_n hZ.1 dX13_compareMakers_106 rfl ?_
  refine s_bipush dX13_compareMakers_107 (by decide +kernel) ?_
  refine s_iload_n hZ.1 dX13_compareMakers_109 rfl ?_
  refine s_iload_n hZ.1 dX13_compareMakers_110 rfl ?_
  refine s_iload hZ.1 dX13_compareMakers_111 ?_
  refine s_iload hZ.1 dX13_compareMakers_113 ?_
  refine s_callV hZ.1 (Met_X13_differs hZ) (Nat.le_of_ble_eq_true rfl) vy_X13_differs zcl13 zw3996 zw387 (Or.inl zw3994) dX13_compareMakers_115 ?_
  exact (wX13_compareMakers_118 hZ j hj)
noncomputable def vX13_compareMakers_85 (j : Nat → rx_K) : rx_K := o_ld rx_isR 0 (o_const 408 (o_ld rx_isI 4 (o_ld rx_isI 5 (o_callV 3 13 FX13_accessOf (o_ld rx_isR 0 (o_ld rx_isI 4 (o_ld rx_isI 5 (o_callV 2 13 FX13_sameTokens (o_c1 rx_eq (vX13_compareMakers_106 j) (vX13_compareMakers_118 j))))))))))
set_option maxRecDepth 20000 in
theorem wX13_compareMakers_85 (hZ : zO b e D A X) (j : Nat → rx_K) (hj : ∀ k pc, [2, 126][k]? = some pc → rx_OK (zV b e D A X) mX13_compareMakers 4 pc (j k)) : rx_OK (zV b e D A X) mX13_compareMakers 4 85 (vX13_compareMakers_85 j) := by
  unfold vX13_compareMakers_85
  refine s_aload_n hZ.1 dX13_compareMakers_85 rfl ?_
  refine s_bipush dX13_compareMakers_86 (by decide +kernel) ?_
  refine s_iload hZ.1 dX13_compareMakers_88 ?_
  refine s_iload hZ.1 dX13_compareMakers_90 ?_
  refine s_callV hZ.1 (Met_X13_accessOf hZ) (Nat.le_of_ble_eq_true rfl) vy_X13_accessOf zcl13 zw4020 zw393 (Or.inl zw4018) dX13_compareMakers_92 ?_
  refine s_aload_n hZ.1 dX13_compareMakers_95 rfl ?_
  refine s_iload hZ.1 dX13_compareMakers_96 ?_
  refine s_iload hZ.1 dX13_compareMakers_98 ?_
  refine s_callV hZ.1 (Met_X13_sameTokens hZ) (Nat.le_of_ble_eq_true rfl) vy_X13_sameTokens zcl13 zw4032 zw396 (Or.inl zw4030) dX13_compareMakers_100 ?_
  exact s_if_ne dX13_compareMakers_103 (by decide) (wX13_compareMakers_118 hZ j hj) (wX13_compareMakers_106 hZ j hj)
noncomputable def vX13_compareMakers_78 (j : Nat → rx_K) : rx_K := o_ld rx_isI 5 (o_const 34359738352 (o_c2 rx_eq (vX13_compareMakers_118 j) (vX13_compareMakers_85 j)))
set_option maxRecDepth 20000 in
theorem wX13_compareMakers_78 (hZ : zO b e D A X) (j : Nat → rx_K) (hj : ∀ k pc, [2, 126][k]? = some pc → rx_OK (zV b e D A X) mX13_compareMakers 4 pc (j k)) : rx_OK (zV b e D A X) mX13_compareMakers 4 78 (vX13_compareMakers_78 j) := by
  unfold vX13_compareMakers_78
  refine s_iload hZ.1 dX13_compareMakers_78 ?_
  refine s_bipush dX13_compareMakers_80 (by decide +kernel) ?_
  exact s_icmp_eq dX13_compareMakers_82 (by decide) (wX13_compareMakers_118 hZ j hj) (wX13_compareMakers_85 hZ j hj)
noncomputable def vX13_compareMakers_63 (j : Nat → rx_K) : rx_K := o_ld rx_isR 0 (o_const 400 (o_ld rx_isI 1 (o_ld rx_isI 2 (o_ld rx_isI 4 (o_const 34359738352 (o_callV 5 13 FX13_differs ((vX13_compareMakers_118 j))))))))
set_option maxRecDepth 20000 in
theorem wX13_compareMakers_63 (hZ : zO b e D A X) (j : Nat → rx_K) (hj : ∀ k pc, [2, 126][k]? = some pc → rx_OK (zV b e D A X) mX13_compareMakers 4 pc (j k)) : rx_OK (zV b e D A X) mX13_compareMakers 4 63 (vX13_compareMakers_63 j) := by
  unfold vX13_compareMakers_63
  refine s_aload_n hZ.1 dX13_compareMakers_63 rfl ?_
  refine s_bipush dX13_compareMakers_64 (by decide +kernel) ?_
  refine s_iload_n hZ.1 dX13_compareMakers_66 rfl ?_
  refine s_iload_n hZ.1 dX13_compareMakers_67 rfl ?_
  refine s_iload hZ.1 dX13_compareMakers_68 ?_
  refine s_bipush dX13_compareMakers_70 (by decide +kernel) ?_
  refine s_callV hZ.1 (Met_X13_differs hZ) (Nat.le_of_ble_eq_true rfl) vy_X13_differs zcl13 zw3996 zw387 (Or.inl zw3994) dX13_compareMakers_72 ?_
  exact s_goto dX13_compareMakers_75 (by decide) (wX13_compareMakers_118 hZ j hj)
noncomputable def vX13_compareMakers_56 (j : Nat → rx_K) : rx_K := o_ld rx_isI 5 (o_const 34359738352 (o_c2 rx_eq (vX13_compareMakers_63 j) (vX13_compareMakers_78 j)))
set_option maxRecDepth 20000 in
theorem wX13_compareMakers_56 (hZ : zO b e D A X) (j : Nat → rx_K) (hj : ∀ k pc, [2, 126][k]? = some pc → rx_OK (zV b e D A X) mX13_compareMakers 4 pc (j k)) : rx_OK (zV b e D A X) mX13_compareMakers 4 56 (vX13_compareMakers_56 j) := by
  unfold vX13_compareMakers_56
  refine s_iload hZ.1 dX13_compareMakers_56 ?_
  refine s_bipush dX13_compareMakers_58 (by decide +kernel) ?_
  exact s_icmp_ne dX13_compareMakers_60 (by decide) (wX13_compareMakers_78 hZ j hj) (wX13_compareMakers_63 hZ j hj)
noncomputable def vX13_compareMakers_43 (j : Nat → rx_K) : rx_K := o_st rx_isI 5 (o_ld rx_isR 0 (o_getf 13 42 (o_ld rx_isI 4 (o_ald 0 (o_const 16 (o_c2 rx_eq (vX13_compareMakers_56 j) (vX13_compareMakers_78 j)))))))
set_option maxRecDepth 20000 in
theorem wX13_compareMakers_43 (hZ : zO b e D A X) (j : Nat → rx_K) (hj : ∀ k pc, [2, 126][k]? = some pc → rx_OK (zV b e D A X) mX13_compareMakers 4 pc (j k)) : rx_OK (zV b e D A X) mX13_compareMakers 4 43 (vX13_compareMakers_43 j) := by
  unfold vX13_compareMakers_43
  refine s_istore hZ.1 dX13_compareMakers_43 (Nat.le_of_ble_eq_true rfl) ?_
  refine s_aload_n hZ.1 dX13_compareMakers_45 rfl ?_
  refine yg13_42 dX13_compareMakers_46 zw4163 ?_
  refine s_iload hZ.1 dX13_compareMakers_49 ?_
  refine s_iald (tt := 0) rfl dX13_compareMakers_51 ?_
  refine s_iconst dX13_compareMakers_52 (by decide +kernel) ?_
  exact s_icmp_ne dX13_compareMakers_53 (by decide) (wX13_compareMakers_78 hZ j hj) (wX13_compareMakers_56 hZ j hj)
noncomputable def vX13_compareMakers_41 (j : Nat → rx_K) : rx_K := o_const 34359738352 ((vX13_compareMakers_43 j))
set_option maxRecDepth 20000 in
theorem wX13_compareMakers_41 (hZ : zO b e D A X) (j : Nat → rx_K) (hj : ∀ k pc, [2, 126][k]? = some pc → rx_OK (zV b e D A X) mX13_compareMakers 4 pc (j k)) : rx_OK (zV b e D A X) mX13_compareMakers 4 41 (vX13_compareMakers_41 j) := by
  unfold vX13_compareMakers_41
  refine s_bipush dX13_compareMakers_41 (by decide +kernel) ?_
  exact (wX13_compareMakers_43 hZ j hj)
noncomputable def vX13_compareMakers_31 (j : Nat → rx_K) : rx_K := o_ld rx_isR 0 (o_ld rx_isI 2 (o_ld rx_isI 4 (o_callV 2 13 FX13_alike ((vX13_compareMakers_43 j)))))
set_option maxRecDepth 20000 in
theorem wX13_compareMakers_31 (hZ : zO b e D A X) (j : Nat → rx_K) (hj : ∀ k pc, [2, 126][k]? = some pc → rx_OK (zV b e D A X) mX13_compareMakers 4 pc (j k)) : rx_OK (zV b e D A X) mX13_compareMakers 4 31 (vX13_compareMakers_31 j) := by
  unfold vX13_compareMakers_31
  refine s_aload_n hZ.1 dX13_compareMakers_31 rfl ?_
  refine s_iload_n hZ.1 dX13_compareMakers_32 rfl ?_
  refine s_iload hZ.1 dX13_compareMakers_33 ?_
  refine s_callV hZ.1 (Met_X13_alike hZ) (Nat.le_of_ble_eq_true rfl) vy_X13_alike zcl13 zw4028 zw395 (Or.inl zw4026) dX13_compareMakers_35 ?_
  exact s_goto dX13_compareMakers_38 (by decide) (wX13_compareMakers_43 hZ j hj)
noncomputable def vX13_compareMakers_12 (j : Nat → rx_K) : rx_K := o_ld rx_isI 1 (o_const 272 (o_bi (fun x y => x * y) (o_ld rx_isI 3 (o_bi (fun x y => x + y) (o_st rx_isI 4 (o_ld rx_isR 0 (o_getf 13 42 (o_ld rx_isI 4 (o_ald 0 (o_const 16 (o_c2 rx_eq (vX13_compareMakers_31 j) (vX13_compareMakers_41 j))))))))))))
set_option maxRecDepth 20000 in
theorem wX13_compareMakers_12 (hZ : zO b e D A X) (j : Nat → rx_K) (hj : ∀ k pc, [2, 126][k]? = some pc → rx_OK (zV b e D A X) mX13_compareMakers 4 pc (j k)) : rx_OK (zV b e D A X) mX13_compareMakers 4 12 (vX13_compareMakers_12 j) := by
  unfold vX13_compareMakers_12
  refine s_iload_n hZ.1 dX13_compareMakers_12 rfl ?_
  refine s_bipush dX13_compareMakers_13 (by decide +kernel) ?_
  refine s_imul dX13_compareMakers_15 ?_
  refine s_iload_n hZ.1 dX13_compareMakers_16 rfl ?_
  refine s_iadd dX13_compareMakers_17 ?_
  refine s_istore hZ.1 dX13_compareMakers_18 (Nat.le_of_ble_eq_true rfl) ?_
  refine s_aload_n hZ.1 dX13_compareMakers_20 rfl ?_
  refine yg13_42 dX13_compareMakers_21 zw4163 ?_
  refine s_iload hZ.1 dX13_compareMakers_24 ?_
  refine s_iald (tt := 0) rfl dX13_compareMakers_26 ?_
  refine s_iconst dX13_compareMakers_27 (by decide +kernel) ?_
  exact s_icmp_ne dX13_compareMakers_28 (by decide) (wX13_compareMakers_41 hZ j hj) (wX13_compareMakers_31 hZ j hj)
noncomputable def vX13_compareMakers_2 (j : Nat → rx_K) : rx_K := o_ld rx_isI 3 (o_ld rx_isR 0 (o_getf 13 41 (o_ld rx_isI 1 (o_ald 0 (o_c2 rx_lt (vX13_compareMakers_12 j) (vX13_compareMakers_124 j))))))
set_option maxRecDepth 20000 in
theorem wX13_compareMakers_2 (hZ : zO b e D A X) (j : Nat → rx_K) (hj : ∀ k pc, [2, 126][k]? = some pc → rx_OK (zV b e D A X) mX13_compareMakers 4 pc (j k)) : rx_OK (zV b e D A X) mX13_compareMakers 4 2 (vX13_compareMakers_2 j) := by
  unfold vX13_compareMakers_2
  refine s_iload_n hZ.1 dX13_compareMakers_2 rfl ?_
  refine s_aload_n hZ.1 dX13_compareMakers_3 rfl ?_
  refine yg13_41 dX13_compareMakers_4 zw4162 ?_
  refine s_iload_n hZ.1 dX13_compareMakers_7 rfl ?_
  refine s_iald (tt := 0) rfl dX13_compareMakers_8 ?_
  exact s_icmp_ge dX13_compareMakers_9 (by decide) (wX13_compareMakers_124 hZ j hj) (wX13_compareMakers_12 hZ j hj)
noncomputable def vX13_compareMakers_0 (j : Nat → rx_K) : rx_K := o_const 0 (o_st rx_isI 3 ((vX13_compareMakers_2 j)))
set_option maxRecDepth 20000 in
theorem wX13_compareMakers_0 (hZ : zO b e D A X) (j : Nat → rx_K) (hj : ∀ k pc, [2, 126][k]? = some pc → rx_OK (zV b e D A X) mX13_compareMakers 4 pc (j k)) : rx_OK (zV b e D A X) mX13_compareMakers 4 0 (vX13_compareMakers_0 j) := by
  unfold vX13_compareMakers_0
  refine s_iconst dX13_compareMakers_0 (by decide +kernel) ?_
  refine s_istore_n hZ.1 dX13_compareMakers_1 rfl (Nat.le_of_ble_eq_true rfl) ?_
  exact (wX13_compareMakers_2 hZ j hj)
noncomputable def vhX13_compareMakers (j : Nat → rx_K) : List rx_K := [vX13_compareMakers_2 j, vX13_compareMakers_126 j]
theorem vlX13_compareMakers (hZ : zO b e D A X) : ∀ n k pc, [2, 126][k]? = some pc → rx_OK (zV b e D A X) mX13_compareMakers 4 pc (rx_J (vhX13_compareMakers) n k) := rx_loop fun j hj k pc h => by
  match k, h with
  | 0, h =>
    have e9 := Option.some.inj (show some 2 = some pc from h)
    subst e9
    exact wX13_compareMakers_2 hZ j hj
  | 1, h =>
    have e9 := Option.some.inj (show some 126 = some pc from h)
    subst e9
    exact wX13_compareMakers_126 hZ j hj
  | _ + 2, h => exact absurd h (by simp)
noncomputable def FX13_compareMakers : List Nat → rx_H → Option (Nat × rx_H) := rx_ent 6 (vX13_compareMakers_0 (rx_J (vhX13_compareMakers) 4000000000))
theorem Met_X13_compareMakers (hZ : zO b e D A X) : rx_Met (zV b e D A X) 4 yX13_compareMakers mX13_compareMakers (FX13_compareMakers) := rx_entry hZ.1 (wX13_compareMakers_0 hZ _ (vlX13_compareMakers hZ 4000000000)) (by decide +kernel) rfl (fun h => by cases h)
abbrev mX13_compareMethods : rx_M := (RX13, cX13_compareMethods, 6, none, false)
theorem vy_X13_compareMethods : rx_Y (zV b e D A X) yX13_compareMethods mX13_compareMethods 2 := ⟨zw4025, zw431, by decide, by decide +kernel, by decide +kernel, by decide +kernel⟩
noncomputable def vX13_compareMethods_366 (j : Nat → rx_K) : rx_K := o_ret0
set_option maxRecDepth 20000 in
theorem wX13_compareMethods_366 (hZ : zO b e D A X) (j : Nat → rx_K) (hj : ∀ k pc, [2, 282][k]? = some pc → rx_OK (zV b e D A X) mX13_compareMethods 4 pc (j k)) : rx_OK (zV b e D A X) mX13_compareMethods 4 366 (vX13_compareMethods_366 j) := by
  unfold vX13_compareMethods_366
  exact s_vret rfl dX13_compareMethods_366
noncomputable def vX13_compareMethods_360 (j : Nat → rx_K) : rx_K := o_inc 3 (1) ((j 1))
set_option maxRecDepth 20000 in
theorem wX13_compareMethods_360 (hZ : zO b e D A X) (j : Nat → rx_K) (hj : ∀ k pc, [2, 282][k]? = some pc → rx_OK (zV b e D A X) mX13_compareMethods 4 pc (j k)) : rx_OK (zV b e D A X) mX13_compareMethods 4 360 (vX13_compareMethods_360 j) := by
  unfold vX13_compareMethods_360
  refine s_iinc hZ.1 dX13_compareMethods_360 (Nat.le_of_ble_eq_true rfl) ?_
  exact s_goto dX13_compareMethods_363 (by decide) (hj 1 282 rfl)
noncomputable def vX13_compareMethods_351 (j : Nat → rx_K) : rx_K := o_ld rx_isI 1 (o_ld rx_isI 2 (o_const 34359738352 (o_ld rx_isI 4 (o_callV 5 13 FX13_differs ((vX13_compareMethods_360 j))))))
set_option maxRecDepth 20000 in
theorem wX13_compareMethods_351 (hZ : zO b e D A X) (j : Nat → rx_K) (hj : ∀ k pc, [2, 282][k]? = some pc → rx_OK (zV b e D A X) mX13_compareMethods 4 pc (j k)) : rx_OK (zV b e D A X) mX13_compareMethods 4 351 (vX13_compareMethods_351 j) := by
  unfold vX13_compareMethods_351
  refine s_iload_n hZ.1 dX13_compareMethods_351 rfl ?_
  refine s_iload_n hZ.1 dX13_compareMethods_352 rfl ?_
  refine s_bipush dX13_compareMethods_353 (by decide +kernel) ?_
  refine s_iload hZ.1 dX13_compareMethods_355 ?_
  refine s_callV hZ.1 (Met_X13_differs hZ) (Nat.le_of_ble_eq_true rfl) vy_X13_differs zcl13 zw3996 zw387 (Or.inl zw3994) dX13_compareMethods_357 ?_
  exact (wX13_compareMethods_360 hZ j hj)
noncomputable def vX13_compareMethods_349 (j : Nat → rx_K) : rx_K := o_const 320 ((vX13_compareMethods_351 j))
set_option maxRecDepth 20000 in
theorem wX13_compareMethods_349 (hZ : zO b e D A X) (j : Nat → rx_K) (hj : ∀ k pc, [2, 282][k]? = some pc → rx_OK (zV b e D A X) mX13_compareMethods 4 pc (j k)) : rx_OK (zV b e D A X) mX13_compareMethods 4 349 (vX13_compareMethods_349 j) := by
  unfold vX13_compareMethods_349
  refine s_bipush dX13_compareMethods_349 (by decide +kernel) ?_
  exact (wX13_compareMethods_351 hZ j hj)
noncomputable def vX13_compareMethods_344 (j : Nat → rx_K) : rx_K := o_const 328 ((vX13_compareMethods_351 j))
set_option maxRecDepth 20000 in
theorem wX13_compareMethods_344 (hZ : zO b e D A X) (j : Nat → rx_K) (hj : ∀ k pc, [2, 282][k]? = some pc → rx_OK (zV b e D A X) mX13_compareMethods 4 pc (j k)) : rx_OK (zV b e D A X) mX13_compareMethods 4 344 (vX13_compareMethods_344 j) := by
  unfold vX13_compareMethods_344
  refine s_bipush dX13_compareMethods_344 (by decide +kernel) ?_
  exact s_goto dX13_compareMethods_346 (by decide) (wX13_compareMethods_351 hZ j hj)
noncomputable def vX13_compareMethods_333 (j : Nat → rx_K) : rx_K := o_ld rx_isR 0 (o_ld rx_isR 0 (o_getf 13 47 (o_ld rx_isI 4 (o_ald 3 (o_c1 rx_eq (vX13_compareMethods_349 j) (vX13_compareMethods_344 j))))))
set_option maxRecDepth 20000 in
theorem wX13_compareMethods_333 (hZ : zO b e D A X) (j : Nat → rx_K) (hj : ∀ k pc, [2, 282][k]? = some pc → rx_OK (zV b e D A X) mX13_compareMethods 4 pc (j k)) : rx_OK (zV b e D A X) mX13_compareMethods 4 333 (vX13_compareMethods_333 j) := by
  unfold vX13_compareMethods_333
  refine s_aload_n hZ.1 dX13_compareMethods_333 rfl ?_
  refine s_aload_n hZ.1 dX13_compareMethods_334 rfl ?_
  refine yg13_47 dX13_compareMethods_335 zw4168 ?_
  refine s_iload hZ.1 dX13_compareMethods_338 ?_
  refine s_zald (tt := 3) rfl dX13_compareMethods_340 ?_
  exact s_if_eq dX13_compareMethods_341 (by decide) (wX13_compareMethods_349 hZ j hj) (wX13_compareMethods_344 hZ j hj)
noncomputable def vX13_compareMethods_321 (j : Nat → rx_K) : rx_K := o_ld rx_isR 0 (o_ld rx_isI 1 (o_ld rx_isI 4 (o_callV 2 13 FX13_alike (o_const 34359738352 (o_c2 rx_eq (vX13_compareMethods_333 j) (vX13_compareMethods_360 j))))))
set_option maxRecDepth 20000 in
theorem wX13_compareMethods_321 (hZ : zO b e D A X) (j : Nat → rx_K) (hj : ∀ k pc, [2, 282][k]? = some pc → rx_OK (zV b e D A X) mX13_compareMethods 4 pc (j k)) : rx_OK (zV b e D A X) mX13_compareMethods 4 321 (vX13_compareMethods_321 j) := by
  unfold vX13_compareMethods_321
  refine s_aload_n hZ.1 dX13_compareMethods_321 rfl ?_
  refine s_iload_n hZ.1 dX13_compareMethods_322 rfl ?_
  refine s_iload hZ.1 dX13_compareMethods_323 ?_
  refine s_callV hZ.1 (Met_X13_alike hZ) (Nat.le_of_ble_eq_true rfl) vy_X13_alike zcl13 zw4028 zw395 (Or.inl zw4026) dX13_compareMethods_325 ?_
  refine s_bipush dX13_compareMethods_328 (by decide +kernel) ?_
  exact s_icmp_ne dX13_compareMethods_330 (by decide) (wX13_compareMethods_360 hZ j hj) (wX13_compareMethods_333 hZ j hj)
noncomputable def vX13_compareMethods_311 (j : Nat → rx_K) : rx_K := o_ld rx_isR 0 (o_getf 13 49 (o_ld rx_isI 4 (o_ald 3 (o_c1 rx_eq (vX13_compareMethods_321 j) (vX13_compareMethods_360 j)))))
set_option maxRecDepth 20000 in
theorem wX13_compareMethods_311 (hZ : zO b e D A X) (j : Nat → rx_K) (hj : ∀ k pc, [2, 282][k]? = some pc → rx_OK (zV b e D A X) mX13_compareMethods 4 pc (j k)) : rx_OK (zV b e D A X) mX13_compareMethods 4 311 (vX13_compareMethods_311 j) := by
  unfold vX13_compareMethods_311
  refine s_aload_n hZ.1 dX13_compareMethods_311 rfl ?_
  refine yg13_49 dX13_compareMethods_312 zw4170 ?_
  refine s_iload hZ.1 dX13_compareMethods_315 ?_
  refine s_zald (tt := 3) rfl dX13_compareMethods_317 ?_
  exact s_if_ne dX13_compareMethods_318 (by decide) (wX13_compareMethods_360 hZ j hj) (wX13_compareMethods_321 hZ j hj)
noncomputable def vX13_compareMethods_292 (j : Nat → rx_K) : rx_K := o_ld rx_isI 2 (o_const 272 (o_bi (fun x y => x * y) (o_ld rx_isI 3 (o_bi (fun x y => x + y) (o_st rx_isI 4 (o_ld rx_isR 0 (o_getf 13 42 (o_ld rx_isI 4 (o_ald 0 (o_const 8 (o_c2 rx_eq (vX13_compareMethods_311 j) (vX13_compareMethods_360 j))))))))))))
set_option maxRecDepth 20000 in
theorem wX13_compareMethods_292 (hZ : zO b e D A X) (j : Nat → rx_K) (hj : ∀ k pc, [2, 282][k]? = some pc → rx_OK (zV b e D A X) mX13_compareMethods 4 pc (j k)) : rx_OK (zV b e D A X) mX13_compareMethods 4 292 (vX13_compareMethods_292 j) := by
  unfold vX13_compareMethods_292
  refine s_iload_n hZ.1 dX13_compareMethods_292 rfl ?_
  refine s_bipush dX13_compareMethods_293 (by decide +kernel) ?_
  refine s_imul dX13_compareMethods_295 ?_
  refine s_iload_n hZ.1 dX13_compareMethods_296 rfl ?_
  refine s_iadd dX13_compareMethods_297 ?_
  refine s_istore hZ.1 dX13_compareMethods_298 (Nat.le_of_ble_eq_true rfl) ?_
  refine s_aload_n hZ.1 dX13_compareMethods_300 rfl ?_
  refine yg13_42 dX13_compareMethods_301 zw4163 ?_
  refine s_iload hZ.1 dX13_compareMethods_304 ?_
  refine s_iald (tt := 0) rfl dX13_compareMethods_306 ?_
  refine s_iconst dX13_compareMethods_307 (by decide +kernel) ?_
  exact s_icmp_ne dX13_compareMethods_308 (by decide) (wX13_compareMethods_360 hZ j hj) (wX13_compareMethods_311 hZ j hj)
noncomputable def vX13_compareMethods_282 (j : Nat → rx_K) : rx_K := o_ld rx_isI 3 (o_ld rx_isR 0 (o_getf 13 41 (o_ld rx_isI 2 (o_ald 0 (o_c2 rx_lt (vX13_compareMethods_292 j) (vX13_compareMethods_366 j))))))
set_option maxRecDepth 20000 in
theorem wX13_compareMethods_282 (hZ : zO b e D A X) (j : Nat → rx_K) (hj : ∀ k pc, [2, 282][k]? = some pc → rx_OK (zV b e D A X) mX13_compareMethods 4 pc (j k)) : rx_OK (zV b e D A X) mX13_compareMethods 4 282 (vX13_compareMethods_282 j) := by
  unfold vX13_compareMethods_282
  refine s_iload_n hZ.1 dX13_compareMethods_282 rfl ?_
  refine s_aload_n hZ.1 dX13_compareMethods_283 rfl ?_
  refine yg13_41 dX13_compareMethods_284 zw4162 ?_
  refine s_iload_n hZ.1 dX13_compareMethods_287 rfl ?_
  refine s_iald (tt := 0) rfl dX13_compareMethods_288 ?_
  exact s_icmp_ge dX13_compareMethods_289 (by decide) (wX13_compareMethods_366 hZ j hj) (wX13_compareMethods_292 hZ j hj)
noncomputable def vX13_compareMethods_280 (j : Nat → rx_K) : rx_K := o_const 0 (o_st rx_isI 3 ((vX13_compareMethods_282 j)))
set_option maxRecDepth 20000 in
theorem wX13_compareMethods_280 (hZ : zO b e D A X) (j : Nat → rx_K) (hj : ∀ k pc, [2, 282][k]? = some pc → rx_OK (zV b e D A X) mX13_compareMethods 4 pc (j k)) : rx_OK (zV b e D A X) mX13_compareMethods 4 280 (vX13_compareMethods_280 j) := by
  unfold vX13_compareMethods_280
  refine s_iconst dX13_compareMethods_280 (by decide +kernel) ?_
  refine s_istore_n hZ.1 dX13_compareMethods_281 rfl (Nat.le_of_ble_eq_true rfl) ?_
  exact (wX13_compareMethods_282 hZ j hj)
noncomputable def vX13_compareMethods_274 (j : Nat → rx_K) : rx_K := o_inc 3 (1) ((j 0))
set_option maxRecDepth 20000 in
theorem wX13_compareMethods_274 (hZ : zO b e D A X) (j : Nat → rx_K) (hj : ∀ k pc, [2, 282][k]? = some pc → rx_OK (zV b e D A X) mX13_compareMethods 4 pc (j k)) : rx_OK (zV b e D A X) mX13_compareMethods 4 274 (vX13_compareMethods_274 j) := by
  unfold vX13_compareMethods_274
  refine s_iinc hZ.1 dX13_compareMethods_274 (Nat.le_of_ble_eq_true rfl) ?_
  exact s_goto dX13_compareMethods_277 (by decide) (hj 0 2 rfl)
noncomputable def vX13_compareMethods_262 (j : Nat → rx_K) : rx_K := o_ld rx_isR 0 (o_const 312 (o_ld rx_isI 1 (o_ld rx_isI 2 (o_ld rx_isI 4 (o_ld rx_isI 5 (o_callV 5 13 FX13_differs ((vX13_compareMethods_274 j))))))))
set_option maxRecDepth 20000 in
theorem wX13_compareMethods_262 (hZ : zO b e D A X) (j : Nat → rx_K) (hj : ∀ k pc, [2, 282][k]? = some pc → rx_OK (zV b e D A X) mX13_compareMethods 4 pc (j k)) : rx_OK (zV b e D A X) mX13_compareMethods 4 262 (vX13_compareMethods_262 j) := by
  unfold vX13_compareMethods_262
  refine s_aload_n hZ.1 dX13_compareMethods_262 rfl ?_
  refine s_bipush dX13_compareMethods_263 (by decide +kernel) ?_
  refine s_iload_n hZ.1 dX13_compareMethods_265 rfl ?_
  refine s_iload_n hZ.1 dX13_compareMethods_266 rfl ?_
  refine s_iload hZ.1 dX13_compareMethods_267 ?_
  refine s_iload hZ.1 dX13_compareMethods_269 ?_
  refine s_callV hZ.1 (Met_X13_differs hZ) (Nat.le_of_ble_eq_true rfl) vy_X13_differs zcl13 zw3996 zw387 (Or.inl zw3994) dX13_compareMethods_271 ?_
  exact (wX13_compareMethods_274 hZ j hj)
noncomputable def vX13_compareMethods_251 (j : Nat → rx_K) : rx_K := o_ld rx_isR 0 (o_ld rx_isI 4 (o_ld rx_isI 5 (o_callV 2 13 FX13_sameTokens (o_c1 rx_eq (vX13_compareMethods_262 j) (vX13_compareMethods_274 j)))))
set_option maxRecDepth 20000 in
theorem wX13_compareMethods_251 (hZ : zO b e D A X) (j : Nat → rx_K) (hj : ∀ k pc, [2, 282][k]? = some pc → rx_OK (zV b e D A X) mX13_compareMethods 4 pc (j k)) : rx_OK (zV b e D A X) mX13_compareMethods 4 251 (vX13_compareMethods_251 j) := by
  unfold vX13_compareMethods_251
  refine s_aload_n hZ.1 dX13_compareMethods_251 rfl ?_
  refine s_iload hZ.1 dX13_compareMethods_252 ?_
  refine s_iload hZ.1 dX13_compareMethods_254 ?_
  refine s_callV hZ.1 (Met_X13_sameTokens hZ) (Nat.le_of_ble_eq_true rfl) vy_X13_sameTokens zcl13 zw4032 zw396 (Or.inl zw4030) dX13_compareMethods_256 ?_
  exact s_if_ne dX13_compareMethods_259 (by decide) (wX13_compareMethods_274 hZ j hj) (wX13_compareMethods_262 hZ j hj)
noncomputable def vX13_compareMethods_239 (j : Nat → rx_K) : rx_K := o_ld rx_isR 0 (o_getf 13 61 (o_ld rx_isI 5 (o_ald 0 (o_const 34359738352 (o_c2 rx_eq (vX13_compareMethods_274 j) (vX13_compareMethods_251 j))))))
set_option maxRecDepth 20000 in
theorem wX13_compareMethods_239 (hZ : zO b e D A X) (j : Nat → rx_K) (hj : ∀ k pc, [2, 282][k]? = some pc → rx_OK (zV b e D A X) mX13_compareMethods 4 pc (j k)) : rx_OK (zV b e D A X) mX13_compareMethods 4 239 (vX13_compareMethods_239 j) := by
  unfold vX13_compareMethods_239
  refine s_aload_n hZ.1 dX13_compareMethods_239 rfl ?_
  refine yg13_61 dX13_compareMethods_240 zw4182 ?_
  refine s_iload hZ.1 dX13_compareMethods_243 ?_
  refine s_iald (tt := 0) rfl dX13_compareMethods_245 ?_
  refine s_bipush dX13_compareMethods_246 (by decide +kernel) ?_
  exact s_icmp_eq dX13_compareMethods_248 (by decide) (wX13_compareMethods_274 hZ j hj) (wX13_compareMethods_251 hZ j hj)
noncomputable def vX13_compareMethods_212 (j : Nat → rx_K) : rx_K := o_ld rx_isI 5 (o_callV 5 13 FX13_eitherOf (o_ld rx_isR 0 (o_const 296 (o_ld rx_isI 4 (o_ld rx_isI 5 (o_callV 3 13 FX13_accessOf (o_ld rx_isR 0 (o_getf 13 61 (o_ld rx_isI 4 (o_ald 0 (o_const 34359738352 (o_c2 rx_eq (vX13_compareMethods_274 j) (vX13_compareMethods_239 j)))))))))))))
set_option maxRecDepth 20000 in
theorem wX13_compareMethods_212 (hZ : zO b e D A X) (j : Nat → rx_K) (hj : ∀ k pc, [2, 282][k]? = some pc → rx_OK (zV b e D A X) mX13_compareMethods 4 pc (j k)) : rx_OK (zV b e D A X) mX13_compareMethods 4 212 (vX13_compareMethods_212 j) := by
  unfold vX13_compareMethods_212
  refine s_iload hZ.1 dX13_compareMethods_212 ?_
  refine s_callV hZ.1 (Met_X13_eitherOf hZ) (Nat.le_of_ble_eq_true rfl) vy_X13_eitherOf zcl13 zw4016 zw392 (Or.inl zw4014) dX13_compareMethods_214 ?_
  refine s_aload_n hZ.1 dX13_compareMethods_217 rfl ?_
  refine s_bipush dX13_compareMethods_218 (by decide +kernel) ?_
  refine s_iload hZ.1 dX13_compareMethods_220 ?_
  refine s_iload hZ.1 dX13_compareMethods_222 ?_
  refine s_callV hZ.1 (Met_X13_accessOf hZ) (Nat.le_of_ble_eq_true rfl) vy_X13_accessOf zcl13 zw4020 zw393 (Or.inl zw4018) dX13_compareMethods_224 ?_
  refine s_aload_n hZ.1 dX13_compareMethods_227 rfl ?_
  refine yg13_61 dX13_compareMethods_228 zw4182 ?_
  refine s_iload hZ.1 dX13_compareMethods_231 ?_
  refine s_iald (tt := 0) rfl dX13_compareMethods_233 ?_
  refine s_bipush dX13_compareMethods_234 (by decide +kernel) ?_
  exact s_icmp_eq dX13_compareMethods_236 (by decide) (wX13_compareMethods_274 hZ j hj) (wX13_compareMethods_239 hZ j hj)
noncomputable def vX13_compareMethods_169 (j : Nat → rx_K) : rx_K := o_ld rx_isR 0 (o_const 264 (o_ld rx_isR 0 (o_getf 13 46 (o_ld rx_isI 4 (o_ald 3 (o_ld rx_isR 0 (o_getf 13 46 (o_ld rx_isI 5 (o_ald 3 (o_ld rx_isI 4 (o_ld rx_isI 5 (o_callV 5 13 FX13_eitherOf (o_ld rx_isR 0 (o_const 280 (o_ld rx_isR 0 (o_getf 13 47 (o_ld rx_isI 4 (o_ald 3 (o_ld rx_isR 0 (o_getf 13 47 (o_ld rx_isI 5 (o_ald 3 (o_ld rx_isI 4 ((vX13_compareMethods_212 j)))))))))))))))))))))))))
set_option maxRecDepth 20000 in
theorem wX13_compareMethods_169 (hZ : zO b e D A X) (j : Nat → rx_K) (hj : ∀ k pc, [2, 282][k]? = some pc → rx_OK (zV b e D A X) mX13_compareMethods 4 pc (j k)) : rx_OK (zV b e D A X) mX13_compareMethods 4 169 (vX13_compareMethods_169 j) := by
  unfold vX13_compareMethods_169
  refine s_aload_n hZ.1 dX13_compareMethods_169 rfl ?_
  refine s_bipush dX13_compareMethods_170 (by decide +kernel) ?_
  refine s_aload_n hZ.1 dX13_compareMethods_172 rfl ?_
  refine yg13_46 dX13_compareMethods_173 zw4167 ?_
  refine s_iload hZ.1 dX13_compareMethods_176 ?_
  refine s_zald (tt := 3) rfl dX13_compareMethods_178 ?_
  refine s_aload_n hZ.1 dX13_compareMethods_179 rfl ?_
  refine yg13_46 dX13_compareMethods_180 zw4167 ?_
  refine s_iload hZ.1 dX13_compareMethods_183 ?_
  refine s_zald (tt := 3) rfl dX13_compareMethods_185 ?_
  refine s_iload hZ.1 dX13_compareMethods_186 ?_
  refine s_iload hZ.1 dX13_compareMethods_188 ?_
  refine s_callV hZ.1 (Met_X13_eitherOf hZ) (Nat.le_of_ble_eq_true rfl) vy_X13_eitherOf zcl13 zw4016 zw392 (Or.inl zw4014) dX13_compareMethods_190 ?_
  refine s_aload_n hZ.1 dX13_compareMethods_193 rfl ?_
  refine s_bipush dX13_compareMethods_194 (by decide +kernel) ?_
  refine s_aload_n hZ.1 dX13_compareMethods_196 rfl ?_
  refine yg13_47 dX13_compareMethods_197 zw4168 ?_
  refine s_iload hZ.1 dX13_compareMethods_200 ?_
  refine s_zald (tt := 3) rfl dX13_compareMethods_202 ?_
  refine s_aload_n hZ.1 dX13_compareMethods_203 rfl ?_
  refine yg13_47 dX13_compareMethods_204 zw4168 ?_
  refine s_iload hZ.1 dX13_compareMethods_207 ?_
  refine s_zald (tt := 3) rfl dX13_compareMethods_209 ?_
  refine s_iload hZ.1 dX13_compareMethods_210 ?_
  exact (wX13_compareMethods_212 hZ j hj)
noncomputable def vX13_compareMethods_152 (j : Nat → rx_K) : rx_K := o_ld rx_isR 0 (o_getf 13 45 (o_ld rx_isI 4 (o_ald 3 (o_ld rx_isR 0 (o_getf 13 45 (o_ld rx_isI 5 (o_ald 3 (o_c2 rx_eq (vX13_compareMethods_169 j) (vX13_compareMethods_274 j)))))))))
set_option maxRecDepth 20000 in
theorem wX13_compareMethods_152 (hZ : zO b e D A X) (j : Nat → rx_K) (hj : ∀ k pc, [2, 282][k]? = some pc → rx_OK (zV b e D A X) mX13_compareMethods 4 pc (j k)) : rx_OK (zV b e D A X) mX13_compareMethods 4 152 (vX13_compareMethods_152 j) := by
  unfold vX13_compareMethods_152
  refine s_aload_n hZ.1 dX13_compareMethods_152 rfl ?_
  refine yg13_45 dX13_compareMethods_153 zw4166 ?_
  refine s_iload hZ.1 dX13_compareMethods_156 ?_
  refine s_zald (tt := 3) rfl dX13_compareMethods_158 ?_
  refine s_aload_n hZ.1 dX13_compareMethods_159 rfl ?_
  refine yg13_45 dX13_compareMethods_160 zw4166 ?_
  refine s_iload hZ.1 dX13_compareMethods_163 ?_
  refine s_zald (tt := 3) rfl dX13_compareMethods_165 ?_
  exact s_icmp_ne dX13_compareMethods_166 (by decide) (wX13_compareMethods_274 hZ j hj) (wX13_compareMethods_169 hZ j hj)
noncomputable def vX13_compareMethods_134 (j : Nat → rx_K) : rx_K := o_ld rx_isR 0 (o_getf 13 53 (o_ld rx_isI 4 (o_ald 1 (o_ld rx_isR 0 (o_getf 13 53 (o_ld rx_isI 5 (o_ald 1 (o_bc (fun x y => lg_cmp x y) (o_c1 rx_eq (vX13_compareMethods_152 j) (vX13_compareMethods_274 j))))))))))
set_option maxRecDepth 20000 in
theorem wX13_compareMethods_134 (hZ : zO b e D A X) (j : Nat → rx_K) (hj : ∀ k pc, [2, 282][k]? = some pc → rx_OK (zV b e D A X) mX13_compareMethods 4 pc (j k)) : rx_OK (zV b e D A X) mX13_compareMethods 4 134 (vX13_compareMethods_134 j) := by
  unfold vX13_compareMethods_134
  refine s_aload_n hZ.1 dX13_compareMethods_134 rfl ?_
  refine yg13_53 dX13_compareMethods_135 zw4174 ?_
  refine s_iload hZ.1 dX13_compareMethods_138 ?_
  refine s_lald (tt := 1) rfl dX13_compareMethods_140 ?_
  refine s_aload_n hZ.1 dX13_compareMethods_141 rfl ?_
  refine yg13_53 dX13_compareMethods_142 zw4174 ?_
  refine s_iload hZ.1 dX13_compareMethods_145 ?_
  refine s_lald (tt := 1) rfl dX13_compareMethods_147 ?_
  refine s_lcmp dX13_compareMethods_148 ?_
  exact s_if_ne dX13_compareMethods_149 (by decide) (wX13_compareMethods_274 hZ j hj) (wX13_compareMethods_152 hZ j hj)
noncomputable def vX13_compareMethods_122 (j : Nat → rx_K) : rx_K := o_ld rx_isR 0 (o_const 256 (o_ld rx_isI 1 (o_ld rx_isI 2 (o_ld rx_isI 4 (o_ld rx_isI 5 (o_callV 5 13 FX13_differs ((vX13_compareMethods_134 j))))))))
set_option maxRecDepth 20000 in
theorem wX13_compareMethods_122 (hZ : zO b e D A X) (j : Nat → rx_K) (hj : ∀ k pc, [2, 282][k]? = some pc → rx_OK (zV b e D A X) mX13_compareMethods 4 pc (j k)) : rx_OK (zV b e D A X) mX13_compareMethods 4 122 (vX13_compareMethods_122 j) := by
  unfold vX13_compareMethods_122
  refine s_aload_n hZ.1 dX13_compareMethods_122 rfl ?_
  refine s_bipush dX13_compareMethods_123 (by decide +kernel) ?_
  refine s_iload_n hZ.1 dX13_compareMethods_125 rfl ?_
  refine s_iload_n hZ.1 dX13_compareMethods_126 rfl ?_
  refine s_iload hZ.1 dX13_compareMethods_127 ?_
  refine s_iload hZ.1 dX13_compareMethods_129 ?_
  refine s_callV hZ.1 (Met_X13_differs hZ) (Nat.le_of_ble_eq_true rfl) vy_X13_differs zcl13 zw3996 zw387 (Or.inl zw3994) dX13_compareMethods_131 ?_
  exact (wX13_compareMethods_134 hZ j hj)
noncomputable def vX13_compareMethods_105 (j : Nat → rx_K) : rx_K := o_ld rx_isR 0 (o_getf 13 45 (o_ld rx_isI 4 (o_ald 3 (o_ld rx_isR 0 (o_getf 13 45 (o_ld rx_isI 5 (o_ald 3 (o_c2 rx_eq (vX13_compareMethods_134 j) (vX13_compareMethods_122 j)))))))))
set_option maxRecDepth 20000 in
theorem wX13_compareMethods_105 (hZ : zO b e D A X) (j : Nat → rx_K) (hj : ∀ k pc, [2, 282][k]? = some pc → rx_OK (zV b e D A X) mX13_compareMethods 4 pc (j k)) : rx_OK (zV b e D A X) mX13_compareMethods 4 105 (vX13_compareMethods_105 j) := by
  unfold vX13_compareMethods_105
  refine s_aload_n hZ.1 dX13_compareMethods_105 rfl ?_
  refine yg13_45 dX13_compareMethods_106 zw4166 ?_
  refine s_iload hZ.1 dX13_compareMethods_109 ?_
  refine s_zald (tt := 3) rfl dX13_compareMethods_111 ?_
  refine s_aload_n hZ.1 dX13_compareMethods_112 rfl ?_
  refine yg13_45 dX13_compareMethods_113 zw4166 ?_
  refine s_iload hZ.1 dX13_compareMethods_116 ?_
  refine s_zald (tt := 3) rfl dX13_compareMethods_118 ?_
  exact s_icmp_eq dX13_compareMethods_119 (by decide) (wX13_compareMethods_134 hZ j hj) (wX13_compareMethods_122 hZ j hj)
noncomputable def vX13_compareMethods_93 (j : Nat → rx_K) : rx_K := o_ld rx_isR 0 (o_const 248 (o_ld rx_isI 1 (o_ld rx_isI 2 (o_ld rx_isI 4 (o_ld rx_isI 5 (o_callV 5 13 FX13_differs ((vX13_compareMethods_105 j))))))))
set_option maxRecDepth 20000 in
theorem wX13_compareMethods_93 (hZ : zO b e D A X) (j : Nat → rx_K) (hj : ∀ k pc, [2, 282][k]? = some pc → rx_OK (zV b e D A X) mX13_compareMethods 4 pc (j k)) : rx_OK (zV b e D A X) mX13_compareMethods 4 93 (vX13_compareMethods_93 j) := by
  unfold vX13_compareMethods_93
  refine s_aload_n hZ.1 dX13_compareMethods_93 rfl ?_
  refine s_bipush dX13_compareMethods_94 (by decide +kernel) ?_
  refine s_iload_n hZ.1 dX13_compareMethods_96 rfl ?_
  refine s_iload_n hZ.1 dX13_compareMethods_97 rfl ?_
  refine s_iload hZ.1 dX13_compareMethods_98 ?_
  refine s_iload hZ.1 dX13_compareMethods_100 ?_
  refine s_callV hZ.1 (Met_X13_differs hZ) (Nat.le_of_ble_eq_true rfl) vy_X13_differs zcl13 zw3996 zw387 (Or.inl zw3994) dX13_compareMethods_102 ?_
  exact (wX13_compareMethods_105 hZ j hj)
noncomputable def vX13_compareMethods_75 (j : Nat → rx_K) : rx_K := o_ld rx_isR 0 (o_getf 13 53 (o_ld rx_isI 4 (o_ald 1 (o_ld rx_isR 0 (o_getf 13 53 (o_ld rx_isI 5 (o_ald 1 (o_bc (fun x y => lg_cmp x y) (o_c1 rx_eq (vX13_compareMethods_105 j) (vX13_compareMethods_93 j))))))))))
set_option maxRecDepth 20000 in
theorem wX13_compareMethods_75 (hZ : zO b e D A X) (j : Nat → rx_K) (hj : ∀ k pc, [2, 282][k]? = some pc → rx_OK (zV b e D A X) mX13_compareMethods 4 pc (j k)) : rx_OK (zV b e D A X) mX13_compareMethods 4 75 (vX13_compareMethods_75 j) := by
  unfold vX13_compareMethods_75
  refine s_aload_n hZ.1 dX13_compareMethods_75 rfl ?_
  refine yg13_53 dX13_compareMethods_76 zw4174 ?_
  refine s_iload hZ.1 dX13_compareMethods_79 ?_
  refine s_lald (tt := 1) rfl dX13_compareMethods_81 ?_
  refine s_aload_n hZ.1 dX13_compareMethods_82 rfl ?_
  refine yg13_53 dX13_compareMethods_83 zw4174 ?_
  refine s_iload hZ.1 dX13_compareMethods_86 ?_
  refine s_lald (tt := 1) rfl dX13_compareMethods_88 ?_
  refine s_lcmp dX13_compareMethods_89 ?_
  exact s_if_eq dX13_compareMethods_90 (by decide) (wX13_compareMethods_105 hZ j hj) (wX13_compareMethods_93 hZ j hj)
noncomputable def vX13_compareMethods_60 (j : Nat → rx_K) : rx_K := o_ld rx_isR 0 (o_const 240 (o_ld rx_isI 1 (o_ld rx_isI 2 (o_ld rx_isI 4 (o_const 34359738352 (o_callV 5 13 FX13_differs ((vX13_compareMethods_274 j))))))))
set_option maxRecDepth 20000 in
theorem wX13_compareMethods_60 (hZ : zO b e D A X) (j : Nat → rx_K) (hj : ∀ k pc, [2, 282][k]? = some pc → rx_OK (zV b e D A X) mX13_compareMethods 4 pc (j k)) : rx_OK (zV b e D A X) mX13_compareMethods 4 60 (vX13_compareMethods_60 j) := by
  unfold vX13_compareMethods_60
  refine s_aload_n hZ.1 dX13_compareMethods_60 rfl ?_
  refine s_bipush dX13_compareMethods_61 (by decide +kernel) ?_
  refine s_iload_n hZ.1 dX13_compareMethods_63 rfl ?_
  refine s_iload_n hZ.1 dX13_compareMethods_64 rfl ?_
  refine s_iload hZ.1 dX13_compareMethods_65 ?_
  refine s_bipush dX13_compareMethods_67 (by decide +kernel) ?_
  refine s_callV hZ.1 (Met_X13_differs hZ) (Nat.le_of_ble_eq_true rfl) vy_X13_differs zcl13 zw3996 zw387 (Or.inl zw3994) dX13_compareMethods_69 ?_
  exact s_goto dX13_compareMethods_72 (by decide) (wX13_compareMethods_274 hZ j hj)
noncomputable def vX13_compareMethods_44 (j : Nat → rx_K) : rx_K := o_ld rx_isR 0 (o_ld rx_isI 2 (o_ld rx_isI 4 (o_callV 2 13 FX13_alike (o_st rx_isI 5 (o_ld rx_isI 5 (o_const 34359738352 (o_c2 rx_eq (vX13_compareMethods_60 j) (vX13_compareMethods_75 j))))))))
set_option maxRecDepth 20000 in
theorem wX13_compareMethods_44 (hZ : zO b e D A X) (j : Nat → rx_K) (hj : ∀ k pc, [2, 282][k]? = some pc → rx_OK (zV b e D A X) mX13_compareMethods 4 pc (j k)) : rx_OK (zV b e D A X) mX13_compareMethods 4 44 (vX13_compareMethods_44 j) := by
  unfold vX13_compareMethods_44
  refine s_aload_n hZ.1 dX13_compareMethods_44 rfl ?_
  refine s_iload_n hZ.1 dX13_compareMethods_45 rfl ?_
  refine s_iload hZ.1 dX13_compareMethods_46 ?_
  refine s_callV hZ.1 (Met_X13_alike hZ) (Nat.le_of_ble_eq_true rfl) vy_X13_alike zcl13 zw4028 zw395 (Or.inl zw4026) dX13_compareMethods_48 ?_
  refine s_istore hZ.1 dX13_compareMethods_51 (Nat.le_of_ble_eq_true rfl) ?_
  refine s_iload hZ.1 dX13_compareMethods_53 ?_
  refine s_bipush dX13_compareMethods_55 (by decide +kernel) ?_
  exact s_icmp_ne dX13_compareMethods_57 (by decide) (wX13_compareMethods_75 hZ j hj) (wX13_compareMethods_60 hZ j hj)
noncomputable def vX13_compareMethods_41 (j : Nat → rx_K) : rx_K := (vX13_compareMethods_274 j)
set_option maxRecDepth 20000 in
theorem wX13_compareMethods_41 (hZ : zO b e D A X) (j : Nat → rx_K) (hj : ∀ k pc, [2, 282][k]? = some pc → rx_OK (zV b e D A X) mX13_compareMethods 4 pc (j k)) : rx_OK (zV b e D A X) mX13_compareMethods 4 41 (vX13_compareMethods_41 j) := by
  unfold vX13_compareMethods_41
  exact s_goto dX13_compareMethods_41 (by decide) (wX13_compareMethods_274 hZ j hj)
noncomputable def vX13_compareMethods_31 (j : Nat → rx_K) : rx_K := o_ld rx_isR 0 (o_getf 13 49 (o_ld rx_isI 4 (o_ald 3 (o_c1 rx_eq (vX13_compareMethods_44 j) (vX13_compareMethods_41 j)))))
set_option maxRecDepth 20000 in
theorem wX13_compareMethods_31 (hZ : zO b e D A X) (j : Nat → rx_K) (hj : ∀ k pc, [2, 282][k]? = some pc → rx_OK (zV b e D A X) mX13_compareMethods 4 pc (j k)) : rx_OK (zV b e D A X) mX13_compareMethods 4 31 (vX13_compareMethods_31 j) := by
  unfold vX13_compareMethods_31
  refine s_aload_n hZ.1 dX13_compareMethods_31 rfl ?_
  refine yg13_49 dX13_compareMethods_32 zw4170 ?_
  refine s_iload hZ.1 dX13_compareMethods_35 ?_
  refine s_zald (tt := 3) rfl dX13_compareMethods_37 ?_
  exact s_if_eq dX13_compareMethods_38 (by decide) (wX13_compareMethods_44 hZ j hj) (wX13_compareMethods_41 hZ j hj)
noncomputable def vX13_compareMethods_12 (j : Nat → rx_K) : rx_K := o_ld rx_isI 1 (o_const 272 (o_bi (fun x y => x * y) (o_ld rx_isI 3 (o_bi (fun x y => x + y) (o_st rx_isI 4 (o_ld rx_isR 0 (o_getf 13 42 (o_ld rx_isI 4 (o_ald 0 (o_const 8 (o_c2 rx_eq (vX13_compareMethods_31 j) (vX13_compareMethods_274 j))))))))))))
set_option maxRecDepth 20000 in
theorem wX13_compareMethods_12 (hZ : zO b e D A X) (j : Nat → rx_K) (hj : ∀ k pc, [2, 282][k]? = some pc → rx_OK (zV b e D A X) mX13_compareMethods 4 pc (j k)) : rx_OK (zV b e D A X) mX13_compareMethods 4 12 (vX13_compareMethods_12 j) := by
  unfold vX13_compareMethods_12
  refine s_iload_n hZ.1 dX13_compareMethods_12 rfl ?_
  refine s_bipush dX13_compareMethods_13 (by decide +kernel) ?_
  refine s_imul dX13_compareMethods_15 ?_
  refine s_iload_n hZ.1 dX13_compareMethods_16 rfl ?_
  refine s_iadd dX13_compareMethods_17 ?_
  refine s_istore hZ.1 dX13_compareMethods_18 (Nat.le_of_ble_eq_true rfl) ?_
  refine s_aload_n hZ.1 dX13_compareMethods_20 rfl ?_
  refine yg13_42 dX13_compareMethods_21 zw4163 ?_
  refine s_iload hZ.1 dX13_compareMethods_24 ?_
  refine s_iald (tt := 0) rfl dX13_compareMethods_26 ?_
  refine s_iconst dX13_compareMethods_27 (by decide +kernel) ?_
  exact s_icmp_ne dX13_compareMethods_28 (by decide) (wX13_compareMethods_274 hZ j hj) (wX13_compareMethods_31 hZ j hj)
noncomputable def vX13_compareMethods_2 (j : Nat → rx_K) : rx_K := o_ld rx_isI 3 (o_ld rx_isR 0 (o_getf 13 41 (o_ld rx_isI 1 (o_ald 0 (o_c2 rx_lt (vX13_compareMethods_12 j) (vX13_compareMethods_280 j))))))
set_option maxRecDepth 20000 in
theorem wX13_compareMethods_2 (hZ : zO b e D A X) (j : Nat → rx_K) (hj : ∀ k pc, [2, 282][k]? = some pc → rx_OK (zV b e D A X) mX13_compareMethods 4 pc (j k)) : rx_OK (zV b e D A X) mX13_compareMethods 4 2 (vX13_compareMethods_2 j) := by
  unfold vX13_compareMethods_2
  refine s_iload_n hZ.1 dX13_compareMethods_2 rfl ?_
  refine s_aload_n hZ.1 dX13_compareMethods_3 rfl ?_
  refine yg13_41 dX13_compareMethods_4 zw4162 ?_
  refine s_iload_n hZ.1 dX13_compareMethods_7 rfl ?_
  refine s_iald (tt := 0) rfl dX13_compareMethods_8 ?_
  exact s_icmp_ge dX13_compareMethods_9 (by decide) (wX13_compareMethods_280 hZ j hj) (wX13_compareMethods_12 hZ j hj)
noncomputable def vX13_compareMethods_0 (j : Nat → rx_K) : rx_K := o_const 0 (o_st rx_isI 3 ((vX13_compareMethods_2 j)))
set_option maxRecDepth 20000 in
theorem wX13_compareMethods_0 (hZ : zO b e D A X) (j : Nat → rx_K) (hj : ∀ k pc, [2, 282][k]? = some pc → rx_OK (zV b e D A X) mX13_compareMethods 4 pc (j k)) : rx_OK (zV b e D A X) mX13_compareMethods 4 0 (vX13_compareMethods_0 j) := by
  unfold vX13_compareMethods_0
  refine s_iconst dX13_compareMethods_0 (by decide +kernel) ?_
  refine s_istore_n hZ.1 dX13_compareMethods_1 rfl (Nat.le_of_ble_eq_true rfl) ?_
  exact (wX13_compareMethods_2 hZ j hj)
noncomputable def vhX13_compareMethods (j : Nat → rx_K) : List rx_K := [vX13_compareMethods_2 j, vX13_compareMethods_282 j]
theorem vlX13_compareMethods (hZ : zO b e D A X) : ∀ n k pc, [2, 282][k]? = some pc → rx_OK (zV b e D A X) mX13_compareMethods 4 pc (rx_J (vhX13_compareMethods) n k) := rx_loop fun j hj k pc h => by
  match k, h with
  | 0, h =>
    have e9 := Option.some.inj (show some 2 = some pc from h)
    subst e9
    exact wX13_compareMethods_2 hZ j hj
  | 1, h =>
    have e9 := Option.some.inj (show some 282 = some pc from h)
    subst e9
    exact wX13_compareMethods_282 hZ j hj
  | _ + 2, h => exact absurd h (by simp)
noncomputable def FX13_compareMethods : List Nat → rx_H → Option (Nat × rx_H) := rx_ent 6 (vX13_compareMethods_0 (rx_J (vhX13_compareMethods) 4000000000))
theorem Met_X13_compareMethods (hZ : zO b e D A X) : rx_Met (zV b e D A X) 4 yX13_compareMethods mX13_compareMethods (FX13_compareMethods) := rx_entry hZ.1 (wX13_compareMethods_0 hZ _ (vlX13_compareMethods hZ 4000000000)) (by decide +kernel) rfl (fun h => by cases h)
abbrev mX13_isRest : rx_M := (RX13, cX13_isRest, 2, (some .boolean), false)
theorem vy_X13_isRest : rx_Y (zV b e D A X) yX13_isRest mX13_isRest 1 := ⟨zw4053, zw431, by decide, by decide +kernel, by decide +kernel, by decide +kernel⟩
noncomputable def vX13_isRest_44 : rx_K := o_ret1 rx_isZ
set_option maxRecDepth 20000 in
theorem wX13_isRest_44 (hZ : zO b e D A X) : rx_OK (zV b e D A X) mX13_isRest 0 44 vX13_isRest_44 := by
  unfold vX13_isRest_44
  exact s_zret rx_z_ok rfl dX13_isRest_44
noncomputable def vX13_isRest_43 : rx_K := o_const 0 (vX13_isRest_44)
set_option maxRecDepth 20000 in
theorem wX13_isRest_43 (hZ : zO b e D A X) : rx_OK (zV b e D A X) mX13_isRest 0 43 vX13_isRest_43 := by
  unfold vX13_isRest_43
  refine s_iconst dX13_isRest_43 (by decide +kernel) ?_
  exact (wX13_isRest_44 hZ)
noncomputable def vX13_isRest_39 : rx_K := o_const 8 (vX13_isRest_44)
set_option maxRecDepth 20000 in
theorem wX13_isRest_39 (hZ : zO b e D A X) : rx_OK (zV b e D A X) mX13_isRest 0 39 vX13_isRest_39 := by
  unfold vX13_isRest_39
  refine s_iconst dX13_isRest_39 (by decide +kernel) ?_
  exact s_goto dX13_isRest_40 (by decide) (wX13_isRest_44 hZ)
noncomputable def vX13_isRest_30 : rx_K := o_ld rx_isR 0 (o_getf 13 64 (o_ld rx_isI 1 (o_ald 3 (o_c1 rx_eq vX13_isRest_39 vX13_isRest_43))))
set_option maxRecDepth 20000 in
theorem wX13_isRest_30 (hZ : zO b e D A X) : rx_OK (zV b e D A X) mX13_isRest 0 30 vX13_isRest_30 := by
  unfold vX13_isRest_30
  refine s_aload_n hZ.1 dX13_isRest_30 rfl ?_
  refine yg13_64 dX13_isRest_31 zw4185 ?_
  refine s_iload_n hZ.1 dX13_isRest_34 rfl ?_
  refine s_zald (tt := 3) rfl dX13_isRest_35 ?_
  exact s_if_ne dX13_isRest_36 (by decide) (wX13_isRest_43 hZ) (wX13_isRest_39 hZ)
noncomputable def vX13_isRest_19 : rx_K := o_ld rx_isR 0 (o_getf 13 60 (o_ld rx_isI 1 (o_ald 0 (o_const 34359738352 (o_c2 rx_eq vX13_isRest_43 vX13_isRest_30)))))
set_option maxRecDepth 20000 in
theorem wX13_isRest_19 (hZ : zO b e D A X) : rx_OK (zV b e D A X) mX13_isRest 0 19 vX13_isRest_19 := by
  unfold vX13_isRest_19
  refine s_aload_n hZ.1 dX13_isRest_19 rfl ?_
  refine yg13_60 dX13_isRest_20 zw4181 ?_
  refine s_iload_n hZ.1 dX13_isRest_23 rfl ?_
  refine s_iald (tt := 0) rfl dX13_isRest_24 ?_
  refine s_bipush dX13_isRest_25 (by decide +kernel) ?_
  exact s_icmp_eq dX13_isRest_27 (by decide) (wX13_isRest_43 hZ) (wX13_isRest_30 hZ)
noncomputable def vX13_isRest_10 : rx_K := o_ld rx_isR 0 (o_getf 13 42 (o_ld rx_isI 1 (o_ald 0 (o_c1 rx_eq vX13_isRest_19 vX13_isRest_43))))
set_option maxRecDepth 20000 in
theorem wX13_isRest_10 (hZ : zO b e D A X) : rx_OK (zV b e D A X) mX13_isRest 0 10 vX13_isRest_10 := by
  unfold vX13_isRest_10
  refine s_aload_n hZ.1 dX13_isRest_10 rfl ?_
  refine yg13_42 dX13_isRest_11 zw4163 ?_
  refine s_iload_n hZ.1 dX13_isRest_14 rfl ?_
  refine s_iald (tt := 0) rfl dX13_isRest_15 ?_
  exact s_if_ne dX13_isRest_16 (by decide) (wX13_isRest_43 hZ) (wX13_isRest_19 hZ)
noncomputable def vX13_isRest_0 : rx_K := o_ld rx_isR 0 (o_getf 13 42 (o_ld rx_isI 1 (o_ald 0 (o_const 24 (o_c2 rx_eq vX13_isRest_39 vX13_isRest_10)))))
set_option maxRecDepth 20000 in
theorem wX13_isRest_0 (hZ : zO b e D A X) : rx_OK (zV b e D A X) mX13_isRest 0 0 vX13_isRest_0 := by
  unfold vX13_isRest_0
  refine s_aload_n hZ.1 dX13_isRest_0 rfl ?_
  refine yg13_42 dX13_isRest_1 zw4163 ?_
  refine s_iload_n hZ.1 dX13_isRest_4 rfl ?_
  refine s_iald (tt := 0) rfl dX13_isRest_5 ?_
  refine s_iconst dX13_isRest_6 (by decide +kernel) ?_
  exact s_icmp_eq dX13_isRest_7 (by decide) (wX13_isRest_39 hZ) (wX13_isRest_10 hZ)
noncomputable def FX13_isRest : List Nat → rx_H → Option (Nat × rx_H) := rx_ent 2 vX13_isRest_0
theorem Met_X13_isRest (hZ : zO b e D A X) : rx_Met (zV b e D A X) 0 yX13_isRest mX13_isRest (FX13_isRest) := rx_entry hZ.1 (wX13_isRest_0 hZ) (by decide +kernel) rfl (fun h => by cases h)
abbrev mX13_rest : rx_M := (RX13, cX13_rest, 7, (some .int), false)
theorem vy_X13_rest : rx_Y (zV b e D A X) yX13_rest mX13_rest 2 := ⟨zw4049, zw431, by decide, by decide +kernel, by decide +kernel, by decide +kernel⟩
noncomputable def vX13_rest_84 (j : Nat → rx_K) : rx_K := o_ld rx_isI 3 (o_ret1 rx_isI)
set_option maxRecDepth 20000 in
theorem wX13_rest_84 (hZ : zO b e D A X) (j : Nat → rx_K) (hj : ∀ k pc, [5, 34][k]? = some pc → rx_OK (zV b e D A X) mX13_rest 1 pc (j k)) : rx_OK (zV b e D A X) mX13_rest 1 84 (vX13_rest_84 j) := by
  unfold vX13_rest_84
  refine s_iload_n hZ.1 dX13_rest_84 rfl ?_
  exact s_iret hZ.1 rfl dX13_rest_85
noncomputable def vX13_rest_78 (j : Nat → rx_K) : rx_K := o_inc 4 (1) ((j 0))
set_option maxRecDepth 20000 in
theorem wX13_rest_78 (hZ : zO b e D A X) (j : Nat → rx_K) (hj : ∀ k pc, [5, 34][k]? = some pc → rx_OK (zV b e D A X) mX13_rest 1 pc (j k)) : rx_OK (zV b e D A X) mX13_rest 1 78 (vX13_rest_78 j) := by
  unfold vX13_rest_78
  refine s_iinc hZ.1 dX13_rest_78 (Nat.le_of_ble_eq_true rfl) ?_
  exact s_goto dX13_rest_81 (by decide) (hj 0 5 rfl)
noncomputable def vX13_rest_55 (j : Nat → rx_K) : rx_K := o_ld rx_isR 2 (o_ld rx_isI 3 (o_inc 3 (1) (o_ld rx_isI 1 (o_const 96 (o_bin (fun x y => x / y) (o_const 5616 (o_bi (fun x y => x * y) (o_ld rx_isI 6 (o_bi (fun x y => x + y) (o_ast 0 (fun v => v) rx_isI (o_inc 6 (1) ((j 1)))))))))))))
set_option maxRecDepth 20000 in
theorem wX13_rest_55 (hZ : zO b e D A X) (j : Nat → rx_K) (hj : ∀ k pc, [5, 34][k]? = some pc → rx_OK (zV b e D A X) mX13_rest 1 pc (j k)) : rx_OK (zV b e D A X) mX13_rest 1 55 (vX13_rest_55 j) := by
  unfold vX13_rest_55
  refine s_aload_n hZ.1 dX13_rest_55 rfl ?_
  refine s_iload_n hZ.1 dX13_rest_56 rfl ?_
  refine s_iinc hZ.1 dX13_rest_57 (Nat.le_of_ble_eq_true rfl) ?_
  refine s_iload_n hZ.1 dX13_rest_60 rfl ?_
  refine s_bipush dX13_rest_61 (by decide +kernel) ?_
  refine s_idiv dX13_rest_63 ?_
  refine s_sipush dX13_rest_64 (by decide +kernel) ?_
  refine s_imul dX13_rest_67 ?_
  refine s_iload hZ.1 dX13_rest_68 ?_
  refine s_iadd dX13_rest_70 ?_
  refine s_iast hZ.1 (tt := 0) rfl dX13_rest_71 ?_
  refine s_iinc hZ.1 dX13_rest_72 (Nat.le_of_ble_eq_true rfl) ?_
  exact s_goto dX13_rest_75 (by decide) (hj 1 34 rfl)
noncomputable def vX13_rest_43 (j : Nat → rx_K) : rx_K := o_ld rx_isI 6 (o_ld rx_isR 0 (o_getf 13 63 (o_ld rx_isI 5 (o_ald 0 (o_c2 rx_lt (vX13_rest_55 j) (vX13_rest_78 j))))))
set_option maxRecDepth 20000 in
theorem wX13_rest_43 (hZ : zO b e D A X) (j : Nat → rx_K) (hj : ∀ k pc, [5, 34][k]? = some pc → rx_OK (zV b e D A X) mX13_rest 1 pc (j k)) : rx_OK (zV b e D A X) mX13_rest 1 43 (vX13_rest_43 j) := by
  unfold vX13_rest_43
  refine s_iload hZ.1 dX13_rest_43 ?_
  refine s_aload_n hZ.1 dX13_rest_45 rfl ?_
  refine yg13_63 dX13_rest_46 zw4184 ?_
  refine s_iload hZ.1 dX13_rest_49 ?_
  refine s_iald (tt := 0) rfl dX13_rest_51 ?_
  exact s_icmp_ge dX13_rest_52 (by decide) (wX13_rest_78 hZ j hj) (wX13_rest_55 hZ j hj)
noncomputable def vX13_rest_34 (j : Nat → rx_K) : rx_K := o_ld rx_isR 0 (o_ld rx_isI 5 (o_callV 1 13 FX13_isRest (o_c1 rx_eq (vX13_rest_78 j) (vX13_rest_43 j))))
set_option maxRecDepth 20000 in
theorem wX13_rest_34 (hZ : zO b e D A X) (j : Nat → rx_K) (hj : ∀ k pc, [5, 34][k]? = some pc → rx_OK (zV b e D A X) mX13_rest 1 pc (j k)) : rx_OK (zV b e D A X) mX13_rest 1 34 (vX13_rest_34 j) := by
  unfold vX13_rest_34
  refine s_aload_n hZ.1 dX13_rest_34 rfl ?_
  refine s_iload hZ.1 dX13_rest_35 ?_
  refine s_callV hZ.1 (Met_X13_isRest hZ) (Nat.le_of_ble_eq_true rfl) vy_X13_isRest zcl13 zw4052 zw401 (Or.inl zw4050) dX13_rest_37 ?_
  exact s_if_eq dX13_rest_40 (by decide) (wX13_rest_78 hZ j hj) (wX13_rest_43 hZ j hj)
noncomputable def vX13_rest_16 (j : Nat → rx_K) : rx_K := o_ld rx_isI 1 (o_const 272 (o_bi (fun x y => x * y) (o_ld rx_isI 4 (o_bi (fun x y => x + y) (o_st rx_isI 5 (o_ld rx_isR 0 (o_getf 13 62 (o_ld rx_isI 5 (o_ald 0 (o_st rx_isI 6 ((vX13_rest_34 j))))))))))))
set_option maxRecDepth 20000 in
theorem wX13_rest_16 (hZ : zO b e D A X) (j : Nat → rx_K) (hj : ∀ k pc, [5, 34][k]? = some pc → rx_OK (zV b e D A X) mX13_rest 1 pc (j k)) : rx_OK (zV b e D A X) mX13_rest 1 16 (vX13_rest_16 j) := by
  unfold vX13_rest_16
  refine s_iload_n hZ.1 dX13_rest_16 rfl ?_
  refine s_bipush dX13_rest_17 (by decide +kernel) ?_
  refine s_imul dX13_rest_19 ?_
  refine s_iload hZ.1 dX13_rest_20 ?_
  refine s_iadd dX13_rest_22 ?_
  refine s_istore hZ.1 dX13_rest_23 (Nat.le_of_ble_eq_true rfl) ?_
  refine s_aload_n hZ.1 dX13_rest_25 rfl ?_
  refine yg13_62 dX13_rest_26 zw4183 ?_
  refine s_iload hZ.1 dX13_rest_29 ?_
  refine s_iald (tt := 0) rfl dX13_rest_31 ?_
  refine s_istore hZ.1 dX13_rest_32 (Nat.le_of_ble_eq_true rfl) ?_
  exact (wX13_rest_34 hZ j hj)
noncomputable def vX13_rest_5 (j : Nat → rx_K) : rx_K := o_ld rx_isI 4 (o_ld rx_isR 0 (o_getf 13 41 (o_ld rx_isI 1 (o_ald 0 (o_c2 rx_lt (vX13_rest_16 j) (vX13_rest_84 j))))))
set_option maxRecDepth 20000 in
theorem wX13_rest_5 (hZ : zO b e D A X) (j : Nat → rx_K) (hj : ∀ k pc, [5, 34][k]? = some pc → rx_OK (zV b e D A X) mX13_rest 1 pc (j k)) : rx_OK (zV b e D A X) mX13_rest 1 5 (vX13_rest_5 j) := by
  unfold vX13_rest_5
  refine s_iload hZ.1 dX13_rest_5 ?_
  refine s_aload_n hZ.1 dX13_rest_7 rfl ?_
  refine yg13_41 dX13_rest_8 zw4162 ?_
  refine s_iload_n hZ.1 dX13_rest_11 rfl ?_
  refine s_iald (tt := 0) rfl dX13_rest_12 ?_
  exact s_icmp_ge dX13_rest_13 (by decide) (wX13_rest_84 hZ j hj) (wX13_rest_16 hZ j hj)
noncomputable def vX13_rest_0 (j : Nat → rx_K) : rx_K := o_const 0 (o_st rx_isI 3 (o_const 0 (o_st rx_isI 4 ((vX13_rest_5 j)))))
set_option maxRecDepth 20000 in
theorem wX13_rest_0 (hZ : zO b e D A X) (j : Nat → rx_K) (hj : ∀ k pc, [5, 34][k]? = some pc → rx_OK (zV b e D A X) mX13_rest 1 pc (j k)) : rx_OK (zV b e D A X) mX13_rest 1 0 (vX13_rest_0 j) := by
  unfold vX13_rest_0
  refine s_iconst dX13_rest_0 (by decide +kernel) ?_
  refine s_istore_n hZ.1 dX13_rest_1 rfl (Nat.le_of_ble_eq_true rfl) ?_
  refine s_iconst dX13_rest_2 (by decide +kernel) ?_
  refine s_istore hZ.1 dX13_rest_3 (Nat.le_of_ble_eq_true rfl) ?_
  exact (wX13_rest_5 hZ j hj)
noncomputable def vhX13_rest (j : Nat → rx_K) : List rx_K := [vX13_rest_5 j, vX13_rest_34 j]
theorem vlX13_rest (hZ : zO b e D A X) : ∀ n k pc, [5, 34][k]? = some pc → rx_OK (zV b e D A X) mX13_rest 1 pc (rx_J (vhX13_rest) n k) := rx_loop fun j hj k pc h => by
  match k, h with
  | 0, h =>
    have e9 := Option.some.inj (show some 5 = some pc from h)
    subst e9
    exact wX13_rest_5 hZ j hj
  | 1, h =>
    have e9 := Option.some.inj (show some 34 = some pc from h)
    subst e9
    exact wX13_rest_34 hZ j hj
  | _ + 2, h => exact absurd h (by simp)
noncomputable def FX13_rest : List Nat → rx_H → Option (Nat × rx_H) := rx_ent 7 (vX13_rest_0 (rx_J (vhX13_rest) 4000000000))
theorem Met_X13_rest (hZ : zO b e D A X) : rx_Met (zV b e D A X) 1 yX13_rest mX13_rest (FX13_rest) := rx_entry hZ.1 (wX13_rest_0 hZ _ (vlX13_rest hZ 4000000000)) (by decide +kernel) rfl (fun h => by cases h)
abbrev mX13_sameRest : rx_M := (RX13, cX13_sameRest, 6, (some .boolean), false)
theorem vy_X13_sameRest : rx_Y (zV b e D A X) yX13_sameRest mX13_sameRest 2 := ⟨zw4045, zw431, by decide, by decide +kernel, by decide +kernel, by decide +kernel⟩
noncomputable def vX13_sameRest_70 (j : Nat → rx_K) : rx_K := o_ld rx_isI 4 (o_ret1 rx_isZ)
set_option maxRecDepth 20000 in
theorem wX13_sameRest_70 (hZ : zO b e D A X) (j : Nat → rx_K) (hj : ∀ k pc, [33][k]? = some pc → rx_OK (zV b e D A X) mX13_sameRest 2 pc (j k)) : rx_OK (zV b e D A X) mX13_sameRest 2 70 (vX13_sameRest_70 j) := by
  unfold vX13_sameRest_70
  refine s_iload hZ.1 dX13_sameRest_70 ?_
  exact s_zret rx_z_ok rfl dX13_sameRest_72
noncomputable def vX13_sameRest_44 (j : Nat → rx_K) : rx_K := o_ld rx_isR 0 (o_ld rx_isR 0 (o_getf 13 176 (o_ld rx_isI 5 (o_ald 0 (o_ld rx_isR 0 (o_getf 13 177 (o_ld rx_isI 5 (o_ald 0 (o_callV 2 13 FX13_sameToken (o_st rx_isI 4 (o_inc 5 (1) ((j 0)))))))))))))
set_option maxRecDepth 20000 in
theorem wX13_sameRest_44 (hZ : zO b e D A X) (j : Nat → rx_K) (hj : ∀ k pc, [33][k]? = some pc → rx_OK (zV b e D A X) mX13_sameRest 2 pc (j k)) : rx_OK (zV b e D A X) mX13_sameRest 2 44 (vX13_sameRest_44 j) := by
  unfold vX13_sameRest_44
  refine s_aload_n hZ.1 dX13_sameRest_44 rfl ?_
  refine s_aload_n hZ.1 dX13_sameRest_45 rfl ?_
  refine yg13_176 dX13_sameRest_46 zw4296 ?_
  refine s_iload hZ.1 dX13_sameRest_49 ?_
  refine s_iald (tt := 0) rfl dX13_sameRest_51 ?_
  refine s_aload_n hZ.1 dX13_sameRest_52 rfl ?_
  refine yg13_177 dX13_sameRest_53 zw4297 ?_
  refine s_iload hZ.1 dX13_sameRest_56 ?_
  refine s_iald (tt := 0) rfl dX13_sameRest_58 ?_
  refine s_callV hZ.1 (Met_X13_sameToken hZ) (Nat.le_of_ble_eq_true rfl) vy_X13_sameToken zcl13 zw4036 zw397 (Or.inl zw4034) dX13_sameRest_59 ?_
  refine s_istore hZ.1 dX13_sameRest_62 (Nat.le_of_ble_eq_true rfl) ?_
  refine s_iinc hZ.1 dX13_sameRest_64 (Nat.le_of_ble_eq_true rfl) ?_
  exact s_goto dX13_sameRest_67 (by decide) (hj 0 33 rfl)
noncomputable def vX13_sameRest_39 (j : Nat → rx_K) : rx_K := o_ld rx_isI 4 (o_c1 rx_eq (vX13_sameRest_70 j) (vX13_sameRest_44 j))
set_option maxRecDepth 20000 in
theorem wX13_sameRest_39 (hZ : zO b e D A X) (j : Nat → rx_K) (hj : ∀ k pc, [33][k]? = some pc → rx_OK (zV b e D A X) mX13_sameRest 2 pc (j k)) : rx_OK (zV b e D A X) mX13_sameRest 2 39 (vX13_sameRest_39 j) := by
  unfold vX13_sameRest_39
  refine s_iload hZ.1 dX13_sameRest_39 ?_
  exact s_if_eq dX13_sameRest_41 (by decide) (wX13_sameRest_70 hZ j hj) (wX13_sameRest_44 hZ j hj)
noncomputable def vX13_sameRest_33 (j : Nat → rx_K) : rx_K := o_ld rx_isI 5 (o_ld rx_isI 3 (o_c2 rx_lt (vX13_sameRest_39 j) (vX13_sameRest_70 j)))
set_option maxRecDepth 20000 in
theorem wX13_sameRest_33 (hZ : zO b e D A X) (j : Nat → rx_K) (hj : ∀ k pc, [33][k]? = some pc → rx_OK (zV b e D A X) mX13_sameRest 2 pc (j k)) : rx_OK (zV b e D A X) mX13_sameRest 2 33 (vX13_sameRest_33 j) := by
  unfold vX13_sameRest_33
  refine s_iload hZ.1 dX13_sameRest_33 ?_
  refine s_iload_n hZ.1 dX13_sameRest_35 rfl ?_
  exact s_icmp_ge dX13_sameRest_36 (by decide) (wX13_sameRest_70 hZ j hj) (wX13_sameRest_39 hZ j hj)
noncomputable def vX13_sameRest_28 (j : Nat → rx_K) : rx_K := o_st rx_isI 4 (o_const 0 (o_st rx_isI 5 ((vX13_sameRest_33 j))))
set_option maxRecDepth 20000 in
theorem wX13_sameRest_28 (hZ : zO b e D A X) (j : Nat → rx_K) (hj : ∀ k pc, [33][k]? = some pc → rx_OK (zV b e D A X) mX13_sameRest 2 pc (j k)) : rx_OK (zV b e D A X) mX13_sameRest 2 28 (vX13_sameRest_28 j) := by
  unfold vX13_sameRest_28
  refine s_istore hZ.1 dX13_sameRest_28 (Nat.le_of_ble_eq_true rfl) ?_
  refine s_iconst dX13_sameRest_30 (by decide +kernel) ?_
  refine s_istore hZ.1 dX13_sameRest_31 (Nat.le_of_ble_eq_true rfl) ?_
  exact (wX13_sameRest_33 hZ j hj)
noncomputable def vX13_sameRest_27 (j : Nat → rx_K) : rx_K := o_const 0 ((vX13_sameRest_28 j))
set_option maxRecDepth 20000 in
theorem wX13_sameRest_27 (hZ : zO b e D A X) (j : Nat → rx_K) (hj : ∀ k pc, [33][k]? = some pc → rx_OK (zV b e D A X) mX13_sameRest 2 pc (j k)) : rx_OK (zV b e D A X) mX13_sameRest 2 27 (vX13_sameRest_27 j) := by
  unfold vX13_sameRest_27
  refine s_iconst dX13_sameRest_27 (by decide +kernel) ?_
  exact (wX13_sameRest_28 hZ j hj)
noncomputable def vX13_sameRest_23 (j : Nat → rx_K) : rx_K := o_const 8 ((vX13_sameRest_28 j))
set_option maxRecDepth 20000 in
theorem wX13_sameRest_23 (hZ : zO b e D A X) (j : Nat → rx_K) (hj : ∀ k pc, [33][k]? = some pc → rx_OK (zV b e D A X) mX13_sameRest 2 pc (j k)) : rx_OK (zV b e D A X) mX13_sameRest 2 23 (vX13_sameRest_23 j) := by
  unfold vX13_sameRest_23
  refine s_iconst dX13_sameRest_23 (by decide +kernel) ?_
  exact s_goto dX13_sameRest_24 (by decide) (wX13_sameRest_28 hZ j hj)
noncomputable def vX13_sameRest_0 (j : Nat → rx_K) : rx_K := o_ld rx_isR 0 (o_ld rx_isI 1 (o_ld rx_isR 0 (o_getf 13 176 (o_callV 2 13 FX13_rest (o_st rx_isI 3 (o_ld rx_isR 0 (o_ld rx_isI 2 (o_ld rx_isR 0 (o_getf 13 177 (o_callV 2 13 FX13_rest (o_ld rx_isI 3 (o_c2 rx_eq (vX13_sameRest_23 j) (vX13_sameRest_27 j)))))))))))))
set_option maxRecDepth 20000 in
theorem wX13_sameRest_0 (hZ : zO b e D A X) (j : Nat → rx_K) (hj : ∀ k pc, [33][k]? = some pc → rx_OK (zV b e D A X) mX13_sameRest 2 pc (j k)) : rx_OK (zV b e D A X) mX13_sameRest 2 0 (vX13_sameRest_0 j) := by
  unfold vX13_sameRest_0
  refine s_aload_n hZ.1 dX13_sameRest_0 rfl ?_
  refine s_iload_n hZ.1 dX13_sameRest_1 rfl ?_
  refine s_aload_n hZ.1 dX13_sameRest_2 rfl ?_
  refine yg13_176 dX13_sameRest_3 zw4296 ?_
  refine s_callV hZ.1 (Met_X13_rest hZ) (Nat.le_of_ble_eq_true rfl) vy_X13_rest zcl13 zw4048 zw400 (Or.inl zw4046) dX13_sameRest_6 ?_
  refine s_istore_n hZ.1 dX13_sameRest_9 rfl (Nat.le_of_ble_eq_true rfl) ?_
  refine s_aload_n hZ.1 dX13_sameRest_10 rfl ?_
  refine s_iload_n hZ.1 dX13_sameRest_11 rfl ?_
  refine s_aload_n hZ.1 dX13_sameRest_12 rfl ?_
  refine yg13_177 dX13_sameRest_13 zw4297 ?_
  refine s_callV hZ.1 (Met_X13_rest hZ) (Nat.le_of_ble_eq_true rfl) vy_X13_rest zcl13 zw4048 zw400 (Or.inl zw4046) dX13_sameRest_16 ?_
  refine s_iload_n hZ.1 dX13_sameRest_19 rfl ?_
  exact s_icmp_ne dX13_sameRest_20 (by decide) (wX13_sameRest_27 hZ j hj) (wX13_sameRest_23 hZ j hj)
noncomputable def vhX13_sameRest (j : Nat → rx_K) : List rx_K := [vX13_sameRest_33 j]
theorem vlX13_sameRest (hZ : zO b e D A X) : ∀ n k pc, [33][k]? = some pc → rx_OK (zV b e D A X) mX13_sameRest 2 pc (rx_J (vhX13_sameRest) n k) := rx_loop fun j hj k pc h => by
  match k, h with
  | 0, h =>
    have e9 := Option.some.inj (show some 33 = some pc from h)
    subst e9
    exact wX13_sameRest_33 hZ j hj
  | _ + 1, h => exact absurd h (by simp)
noncomputable def FX13_sameRest : List Nat → rx_H → Option (Nat × rx_H) := rx_ent 6 (vX13_sameRest_0 (rx_J (vhX13_sameRest) 4000000000))
theorem Met_X13_sameRest (hZ : zO b e D A X) : rx_Met (zV b e D A X) 2 yX13_sameRest mX13_sameRest (FX13_sameRest) := rx_entry hZ.1 (wX13_sameRest_0 hZ _ (vlX13_sameRest hZ 4000000000)) (by decide +kernel) rfl (fun h => by cases h)
abbrev mX13_compare : rx_M := (RX13, cX13_compare, 6, none, false)
theorem vy_X13_compare : rx_Y (zV b e D A X) yX13_compare mX13_compare 2 := ⟨zw3993, zw431, by decide, by decide +kernel, by decide +kernel, by decide +kernel⟩
noncomputable def vX13_compare_213 (j : Nat → rx_K) : rx_K := o_ret0
set_option maxRecDepth 20000 in
theorem wX13_compare_213 (hZ : zO b e D A X) (j : Nat → rx_K) (hj : ∀ k pc, [7, 158][k]? = some pc → rx_OK (zV b e D A X) mX13_compare 5 pc (j k)) : rx_OK (zV b e D A X) mX13_compare 5 213 (vX13_compare_213 j) := by
  unfold vX13_compare_213
  exact s_vret rfl dX13_compare_213
noncomputable def vX13_compare_207 (j : Nat → rx_K) : rx_K := o_inc 3 (1) ((j 1))
set_option maxRecDepth 20000 in
theorem wX13_compare_207 (hZ : zO b e D A X) (j : Nat → rx_K) (hj : ∀ k pc, [7, 158][k]? = some pc → rx_OK (zV b e D A X) mX13_compare 5 pc (j k)) : rx_OK (zV b e D A X) mX13_compare 5 207 (vX13_compare_207 j) := by
  unfold vX13_compare_207
  refine s_iinc hZ.1 dX13_compare_207 (Nat.le_of_ble_eq_true rfl) ?_
  exact s_goto dX13_compare_210 (by decide) (hj 1 158 rfl)
noncomputable def vX13_compare_193 (j : Nat → rx_K) : rx_K := o_ld rx_isR 0 (o_const 560 (o_const 34359738352 (o_ld rx_isI 4 (o_const 34359738352 (o_const 34359738352 (o_callV 5 13 FX13_differs ((vX13_compare_207 j))))))))
set_option maxRecDepth 20000 in
theorem wX13_compare_193 (hZ : zO b e D A X) (j : Nat → rx_K) (hj : ∀ k pc, [7, 158][k]? = some pc → rx_OK (zV b e D A X) mX13_compare 5 pc (j k)) : rx_OK (zV b e D A X) mX13_compare 5 193 (vX13_compare_193 j) := by
  unfold vX13_compare_193
  refine s_aload_n hZ.1 dX13_compare_193 rfl ?_
  refine s_bipush dX13_compare_194 (by decide +kernel) ?_
  refine s_bipush dX13_compare_196 (by decide +kernel) ?_
  refine s_iload hZ.1 dX13_compare_198 ?_
  refine s_bipush dX13_compare_200 (by decide +kernel) ?_
  refine s_bipush dX13_compare_202 (by decide +kernel) ?_
  refine s_callV hZ.1 (Met_X13_differs hZ) (Nat.le_of_ble_eq_true rfl) vy_X13_differs zcl13 zw3996 zw387 (Or.inl zw3994) dX13_compare_204 ?_
  exact (wX13_compare_207 hZ j hj)
noncomputable def vX13_compare_168 (j : Nat → rx_K) : rx_K := o_ld rx_isI 2 (o_const 96 (o_bi (fun x y => x * y) (o_ld rx_isI 3 (o_bi (fun x y => x + y) (o_st rx_isI 4 (o_ld rx_isR 0 (o_ld rx_isI 1 (o_ld rx_isR 0 (o_getf 13 24 (o_ld rx_isI 4 (o_ald 1 (o_callV 2 13 FX13_inSlot (o_const 34359738352 (o_c2 rx_eq (vX13_compare_193 j) (vX13_compare_207 j)))))))))))))))
set_option maxRecDepth 20000 in
theorem wX13_compare_168 (hZ : zO b e D A X) (j : Nat → rx_K) (hj : ∀ k pc, [7, 158][k]? = some pc → rx_OK (zV b e D A X) mX13_compare 5 pc (j k)) : rx_OK (zV b e D A X) mX13_compare 5 168 (vX13_compare_168 j) := by
  unfold vX13_compare_168
  refine s_iload_n hZ.1 dX13_compare_168 rfl ?_
  refine s_bipush dX13_compare_169 (by decide +kernel) ?_
  refine s_imul dX13_compare_171 ?_
  refine s_iload_n hZ.1 dX13_compare_172 rfl ?_
  refine s_iadd dX13_compare_173 ?_
  refine s_istore hZ.1 dX13_compare_174 (Nat.le_of_ble_eq_true rfl) ?_
  refine s_aload_n hZ.1 dX13_compare_176 rfl ?_
  refine s_iload_n hZ.1 dX13_compare_177 rfl ?_
  refine s_aload_n hZ.1 dX13_compare_178 rfl ?_
  refine yg13_24 dX13_compare_179 zw4145 ?_
  refine s_iload hZ.1 dX13_compare_182 ?_
  refine s_lald (tt := 1) rfl dX13_compare_184 ?_
  refine s_callV hZ.1 (Met_X13_inSlot hZ) (Nat.le_of_ble_eq_true rfl) vy_X13_inSlot zcl13 zw3174 zw225 (Or.inl zw3172) dX13_compare_185 ?_
  refine s_bipush dX13_compare_188 (by decide +kernel) ?_
  exact s_icmp_ne dX13_compare_190 (by decide) (wX13_compare_207 hZ j hj) (wX13_compare_193 hZ j hj)
noncomputable def vX13_compare_158 (j : Nat → rx_K) : rx_K := o_ld rx_isI 3 (o_ld rx_isR 0 (o_getf 13 23 (o_ld rx_isI 2 (o_ald 0 (o_c2 rx_lt (vX13_compare_168 j) (vX13_compare_213 j))))))
set_option maxRecDepth 20000 in
theorem wX13_compare_158 (hZ : zO b e D A X) (j : Nat → rx_K) (hj : ∀ k pc, [7, 158][k]? = some pc → rx_OK (zV b e D A X) mX13_compare 5 pc (j k)) : rx_OK (zV b e D A X) mX13_compare 5 158 (vX13_compare_158 j) := by
  unfold vX13_compare_158
  refine s_iload_n hZ.1 dX13_compare_158 rfl ?_
  refine s_aload_n hZ.1 dX13_compare_159 rfl ?_
  refine yg13_23 dX13_compare_160 zw4144 ?_
  refine s_iload_n hZ.1 dX13_compare_163 rfl ?_
  refine s_iald (tt := 0) rfl dX13_compare_164 ?_
  exact s_icmp_ge dX13_compare_165 (by decide) (wX13_compare_213 hZ j hj) (wX13_compare_168 hZ j hj)
noncomputable def vX13_compare_156 (j : Nat → rx_K) : rx_K := o_const 0 (o_st rx_isI 3 ((vX13_compare_158 j)))
set_option maxRecDepth 20000 in
theorem wX13_compare_156 (hZ : zO b e D A X) (j : Nat → rx_K) (hj : ∀ k pc, [7, 158][k]? = some pc → rx_OK (zV b e D A X) mX13_compare 5 pc (j k)) : rx_OK (zV b e D A X) mX13_compare 5 156 (vX13_compare_156 j) := by
  unfold vX13_compare_156
  refine s_iconst dX13_compare_156 (by decide +kernel) ?_
  refine s_istore_n hZ.1 dX13_compare_157 rfl (Nat.le_of_ble_eq_true rfl) ?_
  exact (wX13_compare_158 hZ j hj)
noncomputable def vX13_compare_150 (j : Nat → rx_K) : rx_K := o_inc 3 (1) ((j 0))
set_option maxRecDepth 20000 in
theorem wX13_compare_150 (hZ : zO b e D A X) (j : Nat → rx_K) (hj : ∀ k pc, [7, 158][k]? = some pc → rx_OK (zV b e D A X) mX13_compare 5 pc (j k)) : rx_OK (zV b e D A X) mX13_compare 5 150 (vX13_compare_150 j) := by
  unfold vX13_compare_150
  refine s_iinc hZ.1 dX13_compare_150 (Nat.le_of_ble_eq_true rfl) ?_
  exact s_goto dX13_compare_153 (by decide) (hj 0 7 rfl)
noncomputable def vX13_compare_136 (j : Nat → rx_K) : rx_K := o_ld rx_isR 0 (o_const 480 (o_ld rx_isI 4 (o_ld rx_isI 5 (o_const 34359738352 (o_const 34359738352 (o_callV 5 13 FX13_differs ((vX13_compare_150 j))))))))
set_option maxRecDepth 20000 in
theorem wX13_compare_136 (hZ : zO b e D A X) (j : Nat → rx_K) (hj : ∀ k pc, [7, 158][k]? = some pc → rx_OK (zV b e D A X) mX13_compare 5 pc (j k)) : rx_OK (zV b e D A X) mX13_compare 5 136 (vX13_compare_136 j) := by
  unfold vX13_compare_136
  refine s_aload_n hZ.1 dX13_compare_136 rfl ?_
  refine s_bipush dX13_compare_137 (by decide +kernel) ?_
  refine s_iload hZ.1 dX13_compare_139 ?_
  refine s_iload hZ.1 dX13_compare_141 ?_
  refine s_bipush dX13_compare_143 (by decide +kernel) ?_
  refine s_bipush dX13_compare_145 (by decide +kernel) ?_
  refine s_callV hZ.1 (Met_X13_differs hZ) (Nat.le_of_ble_eq_true rfl) vy_X13_differs zcl13 zw3996 zw387 (Or.inl zw3994) dX13_compare_147 ?_
  exact (wX13_compare_150 hZ j hj)
noncomputable def vX13_compare_93 (j : Nat → rx_K) : rx_K := o_ld rx_isR 0 (o_ld rx_isI 4 (o_ld rx_isI 5 (o_callV 2 13 FX13_compareHeads (o_ld rx_isR 0 (o_ld rx_isI 4 (o_ld rx_isI 5 (o_callV 2 13 FX13_compareFields (o_ld rx_isR 0 (o_ld rx_isI 4 (o_ld rx_isI 5 (o_callV 2 13 FX13_compareMethods (o_ld rx_isR 0 (o_ld rx_isI 4 (o_ld rx_isI 5 (o_callV 2 13 FX13_compareMakers (o_ld rx_isR 0 (o_ld rx_isI 4 (o_ld rx_isI 5 (o_callV 2 13 FX13_sameRest (o_c1 rx_eq (vX13_compare_136 j) (vX13_compare_150 j)))))))))))))))))))))
set_option maxRecDepth 20000 in
theorem wX13_compare_93 (hZ : zO b e D A X) (j : Nat → rx_K) (hj : ∀ k pc, [7, 158][k]? = some pc → rx_OK (zV b e D A X) mX13_compare 5 pc (j k)) : rx_OK (zV b e D A X) mX13_compare 5 93 (vX13_compare_93 j) := by
  unfold vX13_compare_93
  refine s_aload_n hZ.1 dX13_compare_93 rfl ?_
  refine s_iload hZ.1 dX13_compare_94 ?_
  refine s_iload hZ.1 dX13_compare_96 ?_
  refine s_callV hZ.1 (Met_X13_compareHeads hZ) (Nat.le_of_ble_eq_true rfl) vy_X13_compareHeads zcl13 zw4004 zw389 (Or.inl zw4002) dX13_compare_98 ?_
  refine s_aload_n hZ.1 dX13_compare_101 rfl ?_
  refine s_iload hZ.1 dX13_compare_102 ?_
  refine s_iload hZ.1 dX13_compare_104 ?_
  refine s_callV hZ.1 (Met_X13_compareFields hZ) (Nat.le_of_ble_eq_true rfl) vy_X13_compareFields zcl13 zw4012 zw391 (Or.inl zw4010) dX13_compare_106 ?_
  refine s_aload_n hZ.1 dX13_compare_109 rfl ?_
  refine s_iload hZ.1 dX13_compare_110 ?_
  refine s_iload hZ.1 dX13_compare_112 ?_
  refine s_callV hZ.1 (Met_X13_compareMethods hZ) (Nat.le_of_ble_eq_true rfl) vy_X13_compareMethods zcl13 zw4024 zw394 (Or.inl zw4022) dX13_compare_114 ?_
  refine s_aload_n hZ.1 dX13_compare_117 rfl ?_
  refine s_iload hZ.1 dX13_compare_118 ?_
  refine s_iload hZ.1 dX13_compare_120 ?_
  refine s_callV hZ.1 (Met_X13_compareMakers hZ) (Nat.le_of_ble_eq_true rfl) vy_X13_compareMakers zcl13 zw4040 zw398 (Or.inl zw4038) dX13_compare_122 ?_
  refine s_aload_n hZ.1 dX13_compare_125 rfl ?_
  refine s_iload hZ.1 dX13_compare_126 ?_
  refine s_iload hZ.1 dX13_compare_128 ?_
  refine s_callV hZ.1 (Met_X13_sameRest hZ) (Nat.le_of_ble_eq_true rfl) vy_X13_sameRest zcl13 zw4044 zw399 (Or.inl zw4042) dX13_compare_130 ?_
  exact s_if_ne dX13_compare_133 (by decide) (wX13_compare_150 hZ j hj) (wX13_compare_136 hZ j hj)
noncomputable def vX13_compare_77 (j : Nat → rx_K) : rx_K := o_ld rx_isR 0 (o_const 16 (o_ld rx_isI 4 (o_ld rx_isI 5 (o_const 34359738352 (o_const 34359738352 (o_callV 5 13 FX13_differs ((vX13_compare_150 j))))))))
set_option maxRecDepth 20000 in
theorem wX13_compare_77 (hZ : zO b e D A X) (j : Nat → rx_K) (hj : ∀ k pc, [7, 158][k]? = some pc → rx_OK (zV b e D A X) mX13_compare 5 pc (j k)) : rx_OK (zV b e D A X) mX13_compare 5 77 (vX13_compare_77 j) := by
  unfold vX13_compare_77
  refine s_aload_n hZ.1 dX13_compare_77 rfl ?_
  refine s_iconst dX13_compare_78 (by decide +kernel) ?_
  refine s_iload hZ.1 dX13_compare_79 ?_
  refine s_iload hZ.1 dX13_compare_81 ?_
  refine s_bipush dX13_compare_83 (by decide +kernel) ?_
  refine s_bipush dX13_compare_85 (by decide +kernel) ?_
  refine s_callV hZ.1 (Met_X13_differs hZ) (Nat.le_of_ble_eq_true rfl) vy_X13_differs zcl13 zw3996 zw387 (Or.inl zw3994) dX13_compare_87 ?_
  exact s_goto dX13_compare_90 (by decide) (wX13_compare_150 hZ j hj)
noncomputable def vX13_compare_62 (j : Nat → rx_K) : rx_K := o_ld rx_isR 0 (o_ld rx_isI 4 (o_callV 1 13 FX13_isFace (o_ld rx_isR 0 (o_ld rx_isI 5 (o_callV 1 13 FX13_isFace (o_c2 rx_eq (vX13_compare_93 j) (vX13_compare_77 j)))))))
set_option maxRecDepth 20000 in
theorem wX13_compare_62 (hZ : zO b e D A X) (j : Nat → rx_K) (hj : ∀ k pc, [7, 158][k]? = some pc → rx_OK (zV b e D A X) mX13_compare 5 pc (j k)) : rx_OK (zV b e D A X) mX13_compare 5 62 (vX13_compare_62 j) := by
  unfold vX13_compare_62
  refine s_aload_n hZ.1 dX13_compare_62 rfl ?_
  refine s_iload hZ.1 dX13_compare_63 ?_
  refine s_callV hZ.1 (Met_X13_isFace hZ) (Nat.le_of_ble_eq_true rfl) vy_X13_isFace zcl13 zw3192 zw227 (Or.inl zw3190) dX13_compare_65 ?_
  refine s_aload_n hZ.1 dX13_compare_68 rfl ?_
  refine s_iload hZ.1 dX13_compare_69 ?_
  refine s_callV hZ.1 (Met_X13_isFace hZ) (Nat.le_of_ble_eq_true rfl) vy_X13_isFace zcl13 zw3192 zw227 (Or.inl zw3190) dX13_compare_71 ?_
  exact s_icmp_eq dX13_compare_74 (by decide) (wX13_compare_93 hZ j hj) (wX13_compare_77 hZ j hj)
noncomputable def vX13_compare_46 (j : Nat → rx_K) : rx_K := o_ld rx_isR 0 (o_const 8 (o_ld rx_isI 4 (o_const 34359738352 (o_const 34359738352 (o_const 34359738352 (o_callV 5 13 FX13_differs ((vX13_compare_150 j))))))))
set_option maxRecDepth 20000 in
theorem wX13_compare_46 (hZ : zO b e D A X) (j : Nat → rx_K) (hj : ∀ k pc, [7, 158][k]? = some pc → rx_OK (zV b e D A X) mX13_compare 5 pc (j k)) : rx_OK (zV b e D A X) mX13_compare 5 46 (vX13_compare_46 j) := by
  unfold vX13_compare_46
  refine s_aload_n hZ.1 dX13_compare_46 rfl ?_
  refine s_iconst dX13_compare_47 (by decide +kernel) ?_
  refine s_iload hZ.1 dX13_compare_48 ?_
  refine s_bipush dX13_compare_50 (by decide +kernel) ?_
  refine s_bipush dX13_compare_52 (by decide +kernel) ?_
  refine s_bipush dX13_compare_54 (by decide +kernel) ?_
  refine s_callV hZ.1 (Met_X13_differs hZ) (Nat.le_of_ble_eq_true rfl) vy_X13_differs zcl13 zw3996 zw387 (Or.inl zw3994) dX13_compare_56 ?_
  exact s_goto dX13_compare_59 (by decide) (wX13_compare_150 hZ j hj)
noncomputable def vX13_compare_17 (j : Nat → rx_K) : rx_K := o_ld rx_isI 1 (o_const 96 (o_bi (fun x y => x * y) (o_ld rx_isI 3 (o_bi (fun x y => x + y) (o_st rx_isI 4 (o_ld rx_isR 0 (o_ld rx_isI 2 (o_ld rx_isR 0 (o_getf 13 24 (o_ld rx_isI 4 (o_ald 1 (o_callV 2 13 FX13_inSlot (o_st rx_isI 5 (o_ld rx_isI 5 (o_const 34359738352 (o_c2 rx_eq (vX13_compare_46 j) (vX13_compare_62 j)))))))))))))))))
set_option maxRecDepth 20000 in
theorem wX13_compare_17 (hZ : zO b e D A X) (j : Nat → rx_K) (hj : ∀ k pc, [7, 158][k]? = some pc → rx_OK (zV b e D A X) mX13_compare 5 pc (j k)) : rx_OK (zV b e D A X) mX13_compare 5 17 (vX13_compare_17 j) := by
  unfold vX13_compare_17
  refine s_iload_n hZ.1 dX13_compare_17 rfl ?_
  refine s_bipush dX13_compare_18 (by decide +kernel) ?_
  refine s_imul dX13_compare_20 ?_
  refine s_iload_n hZ.1 dX13_compare_21 rfl ?_
  refine s_iadd dX13_compare_22 ?_
  refine s_istore hZ.1 dX13_compare_23 (Nat.le_of_ble_eq_true rfl) ?_
  refine s_aload_n hZ.1 dX13_compare_25 rfl ?_
  refine s_iload_n hZ.1 dX13_compare_26 rfl ?_
  refine s_aload_n hZ.1 dX13_compare_27 rfl ?_
  refine yg13_24 dX13_compare_28 zw4145 ?_
  refine s_iload hZ.1 dX13_compare_31 ?_
  refine s_lald (tt := 1) rfl dX13_compare_33 ?_
  refine s_callV hZ.1 (Met_X13_inSlot hZ) (Nat.le_of_ble_eq_true rfl) vy_X13_inSlot zcl13 zw3174 zw225 (Or.inl zw3172) dX13_compare_34 ?_
  refine s_istore hZ.1 dX13_compare_37 (Nat.le_of_ble_eq_true rfl) ?_
  refine s_iload hZ.1 dX13_compare_39 ?_
  refine s_bipush dX13_compare_41 (by decide +kernel) ?_
  exact s_icmp_ne dX13_compare_43 (by decide) (wX13_compare_62 hZ j hj) (wX13_compare_46 hZ j hj)
noncomputable def vX13_compare_7 (j : Nat → rx_K) : rx_K := o_ld rx_isI 3 (o_ld rx_isR 0 (o_getf 13 23 (o_ld rx_isI 1 (o_ald 0 (o_c2 rx_lt (vX13_compare_17 j) (vX13_compare_156 j))))))
set_option maxRecDepth 20000 in
theorem wX13_compare_7 (hZ : zO b e D A X) (j : Nat → rx_K) (hj : ∀ k pc, [7, 158][k]? = some pc → rx_OK (zV b e D A X) mX13_compare 5 pc (j k)) : rx_OK (zV b e D A X) mX13_compare 5 7 (vX13_compare_7 j) := by
  unfold vX13_compare_7
  refine s_iload_n hZ.1 dX13_compare_7 rfl ?_
  refine s_aload_n hZ.1 dX13_compare_8 rfl ?_
  refine yg13_23 dX13_compare_9 zw4144 ?_
  refine s_iload_n hZ.1 dX13_compare_12 rfl ?_
  refine s_iald (tt := 0) rfl dX13_compare_13 ?_
  exact s_icmp_ge dX13_compare_14 (by decide) (wX13_compare_156 hZ j hj) (wX13_compare_17 hZ j hj)
noncomputable def vX13_compare_0 (j : Nat → rx_K) : rx_K := o_ld rx_isR 0 (o_const 0 (o_putf rx_isI 13 175 (o_const 0 (o_st rx_isI 3 ((vX13_compare_7 j))))))
set_option maxRecDepth 20000 in
theorem wX13_compare_0 (hZ : zO b e D A X) (j : Nat → rx_K) (hj : ∀ k pc, [7, 158][k]? = some pc → rx_OK (zV b e D A X) mX13_compare 5 pc (j k)) : rx_OK (zV b e D A X) mX13_compare 5 0 (vX13_compare_0 j) := by
  unfold vX13_compare_0
  refine s_aload_n hZ.1 dX13_compare_0 rfl ?_
  refine s_iconst dX13_compare_1 (by decide +kernel) ?_
  refine yp13_175 hZ.1 dX13_compare_2 zw4295 ?_
  refine s_iconst dX13_compare_5 (by decide +kernel) ?_
  refine s_istore_n hZ.1 dX13_compare_6 rfl (Nat.le_of_ble_eq_true rfl) ?_
  exact (wX13_compare_7 hZ j hj)
noncomputable def vhX13_compare (j : Nat → rx_K) : List rx_K := [vX13_compare_7 j, vX13_compare_158 j]
theorem vlX13_compare (hZ : zO b e D A X) : ∀ n k pc, [7, 158][k]? = some pc → rx_OK (zV b e D A X) mX13_compare 5 pc (rx_J (vhX13_compare) n k) := rx_loop fun j hj k pc h => by
  match k, h with
  | 0, h =>
    have e9 := Option.some.inj (show some 7 = some pc from h)
    subst e9
    exact wX13_compare_7 hZ j hj
  | 1, h =>
    have e9 := Option.some.inj (show some 158 = some pc from h)
    subst e9
    exact wX13_compare_158 hZ j hj
  | _ + 2, h => exact absurd h (by simp)
noncomputable def FX13_compare : List Nat → rx_H → Option (Nat × rx_H) := rx_ent 6 (vX13_compare_0 (rx_J (vhX13_compare) 4000000000))
theorem Met_X13_compare (hZ : zO b e D A X) : rx_Met (zV b e D A X) 5 yX13_compare mX13_compare (FX13_compare) := rx_entry hZ.1 (wX13_compare_0 hZ _ (vlX13_compare hZ 4000000000)) (by decide +kernel) rfl (fun h => by cases h)
abbrev mX13_differ : rx_M := (RX13, cX13_differ, 6, (some .int), false)
theorem vy_X13_differ : rx_Y (zV b e D A X) yX13_differ mX13_differ 3 := ⟨zw3989, zw431, by decide, by decide +kernel, by decide +kernel, by decide +kernel⟩
noncomputable def vX13_differ_32 : rx_K := o_ld rx_isR 0 (o_ld rx_isI 4 (o_ld rx_isI 5 (o_callV 2 13 FX13_compare (o_ld rx_isR 0 (o_getf 13 175 (o_ret1 rx_isI))))))
set_option maxRecDepth 20000 in
theorem wX13_differ_32 (hZ : zO b e D A X) : rx_OK (zV b e D A X) mX13_differ 6 32 vX13_differ_32 := by
  unfold vX13_differ_32
  refine s_aload_n hZ.1 dX13_differ_32 rfl ?_
  refine s_iload hZ.1 dX13_differ_33 ?_
  refine s_iload hZ.1 dX13_differ_35 ?_
  refine s_callV hZ.1 (Met_X13_compare hZ) (Nat.le_of_ble_eq_true rfl) vy_X13_compare zcl13 zw3992 zw386 (Or.inl zw3990) dX13_differ_37 ?_
  refine s_aload_n hZ.1 dX13_differ_40 rfl ?_
  refine yg13_175 dX13_differ_41 zw4295 ?_
  exact s_iret hZ.1 rfl dX13_differ_44
noncomputable def vX13_differ_30 : rx_K := o_const 34359738360 (o_ret1 rx_isI)
set_option maxRecDepth 20000 in
theorem wX13_differ_30 (hZ : zO b e D A X) : rx_OK (zV b e D A X) mX13_differ 6 30 vX13_differ_30 := by
  unfold vX13_differ_30
  refine s_iconst dX13_differ_30 (by decide +kernel) ?_
  exact s_iret hZ.1 rfl dX13_differ_31
noncomputable def vX13_differ_23 : rx_K := o_ld rx_isI 5 (o_const 34359738352 (o_c2 rx_eq vX13_differ_30 vX13_differ_32))
set_option maxRecDepth 20000 in
theorem wX13_differ_23 (hZ : zO b e D A X) : rx_OK (zV b e D A X) mX13_differ 6 23 vX13_differ_23 := by
  unfold vX13_differ_23
  refine s_iload hZ.1 dX13_differ_23 ?_
  refine s_bipush dX13_differ_25 (by decide +kernel) ?_
  exact s_icmp_ne dX13_differ_27 (by decide) (wX13_differ_32 hZ) (wX13_differ_30 hZ)
noncomputable def vX13_differ_0 : rx_K := o_ld rx_isR 0 (o_ld rx_isI 1 (o_ld rx_isI 2 (o_callV 2 13 FX13_slotAt (o_st rx_isI 4 (o_ld rx_isR 0 (o_ld rx_isI 1 (o_ld rx_isI 3 (o_callV 2 13 FX13_slotAt (o_st rx_isI 5 (o_ld rx_isI 4 (o_const 34359738352 (o_c2 rx_eq vX13_differ_30 vX13_differ_23))))))))))))
set_option maxRecDepth 20000 in
theorem wX13_differ_0 (hZ : zO b e D A X) : rx_OK (zV b e D A X) mX13_differ 6 0 vX13_differ_0 := by
  unfold vX13_differ_0
  refine s_aload_n hZ.1 dX13_differ_0 rfl ?_
  refine s_iload_n hZ.1 dX13_differ_1 rfl ?_
  refine s_iload_n hZ.1 dX13_differ_2 rfl ?_
  refine s_callV hZ.1 (Met_X13_slotAt hZ) (Nat.le_of_ble_eq_true rfl) vy_X13_slotAt zcl13 zw3585 zw317 (Or.inl zw3583) dX13_differ_3 ?_
  refine s_istore hZ.1 dX13_differ_6 (Nat.le_of_ble_eq_true rfl) ?_
  refine s_aload_n hZ.1 dX13_differ_8 rfl ?_
  refine s_iload_n hZ.1 dX13_differ_9 rfl ?_
  refine s_iload_n hZ.1 dX13_differ_10 rfl ?_
  refine s_callV hZ.1 (Met_X13_slotAt hZ) (Nat.le_of_ble_eq_true rfl) vy_X13_slotAt zcl13 zw3585 zw317 (Or.inl zw3583) dX13_differ_11 ?_
  refine s_istore hZ.1 dX13_differ_14 (Nat.le_of_ble_eq_true rfl) ?_
  refine s_iload hZ.1 dX13_differ_16 ?_
  refine s_bipush dX13_differ_18 (by decide +kernel) ?_
  exact s_icmp_eq dX13_differ_20 (by decide) (wX13_differ_30 hZ) (wX13_differ_23 hZ)
noncomputable def FX13_differ : List Nat → rx_H → Option (Nat × rx_H) := rx_ent 6 vX13_differ_0
theorem Met_X13_differ (hZ : zO b e D A X) : rx_Met (zV b e D A X) 6 yX13_differ mX13_differ (FX13_differ) := rx_entry hZ.1 (wX13_differ_0 hZ) (by decide +kernel) rfl (fun h => by cases h)
abbrev mX13_change : rx_M := (RX13, cX13_change, 3, (some .int), false)
theorem vy_X13_change : rx_Y (zV b e D A X) yX13_change mX13_change 2 := ⟨zw4057, zw431, by decide, by decide +kernel, by decide +kernel, by decide +kernel⟩
noncomputable def vX13_change_35 : rx_K := o_ret1 rx_isI
set_option maxRecDepth 20000 in
theorem wX13_change_35 (hZ : zO b e D A X) : rx_OK (zV b e D A X) mX13_change 0 35 vX13_change_35 := by
  unfold vX13_change_35
  exact s_iret hZ.1 rfl dX13_change_35
noncomputable def vX13_change_25 : rx_K := o_ld rx_isR 0 (o_getf 13 174 (o_const 40 (o_ld rx_isI 1 (o_bi (fun x y => x * y) (o_ld rx_isI 2 (o_bi (fun x y => x + y) (o_ald 0 (vX13_change_35))))))))
set_option maxRecDepth 20000 in
theorem wX13_change_25 (hZ : zO b e D A X) : rx_OK (zV b e D A X) mX13_change 0 25 vX13_change_25 := by
  unfold vX13_change_25
  refine s_aload_n hZ.1 dX13_change_25 rfl ?_
  refine yg13_174 dX13_change_26 zw4294 ?_
  refine s_iconst dX13_change_29 (by decide +kernel) ?_
  refine s_iload_n hZ.1 dX13_change_30 rfl ?_
  refine s_imul dX13_change_31 ?_
  refine s_iload_n hZ.1 dX13_change_32 rfl ?_
  refine s_iadd dX13_change_33 ?_
  refine s_iald (tt := 0) rfl dX13_change_34 ?_
  exact (wX13_change_35 hZ)
noncomputable def vX13_change_21 : rx_K := o_const 34359738360 (vX13_change_35)
set_option maxRecDepth 20000 in
theorem wX13_change_21 (hZ : zO b e D A X) : rx_OK (zV b e D A X) mX13_change 0 21 vX13_change_21 := by
  unfold vX13_change_21
  refine s_iconst dX13_change_21 (by decide +kernel) ?_
  exact s_goto dX13_change_22 (by decide) (wX13_change_35 hZ)
noncomputable def vX13_change_16 : rx_K := o_ld rx_isI 2 (o_const 32 (o_c2 (fun h x y => rx_lt h y x) vX13_change_21 vX13_change_25))
set_option maxRecDepth 20000 in
theorem wX13_change_16 (hZ : zO b e D A X) : rx_OK (zV b e D A X) mX13_change 0 16 vX13_change_16 := by
  unfold vX13_change_16
  refine s_iload_n hZ.1 dX13_change_16 rfl ?_
  refine s_iconst dX13_change_17 (by decide +kernel) ?_
  exact s_icmp_le dX13_change_18 (by decide) (wX13_change_25 hZ) (wX13_change_21 hZ)
noncomputable def vX13_change_12 : rx_K := o_ld rx_isI 2 (o_c1 rx_lt vX13_change_21 vX13_change_16)
set_option maxRecDepth 20000 in
theorem wX13_change_12 (hZ : zO b e D A X) : rx_OK (zV b e D A X) mX13_change 0 12 vX13_change_12 := by
  unfold vX13_change_12
  refine s_iload_n hZ.1 dX13_change_12 rfl ?_
  exact s_if_lt dX13_change_13 (by decide) (wX13_change_21 hZ) (wX13_change_16 hZ)
noncomputable def vX13_change_4 : rx_K := o_ld rx_isI 1 (o_ld rx_isR 0 (o_getf 13 175 (o_c2 rx_lt vX13_change_12 vX13_change_21)))
set_option maxRecDepth 20000 in
theorem wX13_change_4 (hZ : zO b e D A X) : rx_OK (zV b e D A X) mX13_change 0 4 vX13_change_4 := by
  unfold vX13_change_4
  refine s_iload_n hZ.1 dX13_change_4 rfl ?_
  refine s_aload_n hZ.1 dX13_change_5 rfl ?_
  refine yg13_175 dX13_change_6 zw4295 ?_
  exact s_icmp_ge dX13_change_9 (by decide) (wX13_change_21 hZ) (wX13_change_12 hZ)
noncomputable def vX13_change_0 : rx_K := o_ld rx_isI 1 (o_c1 rx_lt vX13_change_21 vX13_change_4)
set_option maxRecDepth 20000 in
theorem wX13_change_0 (hZ : zO b e D A X) : rx_OK (zV b e D A X) mX13_change 0 0 vX13_change_0 := by
  unfold vX13_change_0
  refine s_iload_n hZ.1 dX13_change_0 rfl ?_
  exact s_if_lt dX13_change_1 (by decide) (wX13_change_21 hZ) (wX13_change_4 hZ)
noncomputable def FX13_change : List Nat → rx_H → Option (Nat × rx_H) := rx_ent 3 vX13_change_0
theorem Met_X13_change (hZ : zO b e D A X) : rx_Met (zV b e D A X) 0 yX13_change mX13_change (FX13_change) := rx_entry hZ.1 (wX13_change_0 hZ) (by decide +kernel) rfl (fun h => by cases h)
end ZM70

section ZM4
variable {b : Nat} {e : Nat → Value} {D : va_G} {A : Nat → ClassId} {X : State → Prop}
abbrev mX13_given : rx_M := (RX13, cX13_given, 4, none, false)
noncomputable def bX13_given_165 (j : Nat → rx_K) : rx_K := q_ld q_isR 0 (o_const 58744 (o_callV 1 13 fX13_newMember (q_ld q_isR 0 (q_getf 13 42 (o_const 58744 (o_const 8 (q_ast 0 (fun v => v) q_isI (o_ret0))))))))
set_option maxRecDepth 20000 in
theorem kX13_given_165 (hZ : zO b e D A X) (j : Nat → rx_K) (hj : ∀ k pc, [10][k]? = some pc → rx_OK (zV b e D A X) mX13_given 5 pc (j k)) : rx_OK (zV b e D A X) mX13_given 5 165 (bX13_given_165 j) := by
  unfold bX13_given_165
  refine rx_by (e_ldR _ _) (s_aload_n hZ.1 dX13_given_165 rfl ?_)
  refine s_sipush dX13_given_166 (by decide +kernel) ?_
  refine s_callV hZ.1 (met_X13_newMember hZ) (by decide) zy_X13_newMember zcl13 zw3062 zw199 (Or.inl zw3060) dX13_given_169 ?_
  refine rx_by (e_ldR _ _) (s_aload_n hZ.1 dX13_given_172 rfl ?_)
  refine rx_by (e_getf _ _ _) (s_getf zcl13 (Nat.le_of_ble_eq_true rfl) dX13_given_173 zw4169 ?_)
  refine s_sipush dX13_given_176 (by decide +kernel) ?_
  refine s_iconst dX13_given_179 (by decide +kernel) ?_
  refine rx_by (e_astI _ _ _) (s_iast hZ.1 (tt := 0) rfl dX13_given_180 ?_)
  exact s_vret rfl dX13_given_181
noncomputable def bX13_given_153 (j : Nat → rx_K) : rx_K := q_ld q_isI 2 (o_dup2 (q_ald 0 (o_const 8 (q_bi q_Fadd (q_ast 0 (fun v => v) q_isI (q_inc 1 8 ((j 0))))))))
set_option maxRecDepth 20000 in
theorem kX13_given_153 (hZ : zO b e D A X) (j : Nat → rx_K) (hj : ∀ k pc, [10][k]? = some pc → rx_OK (zV b e D A X) mX13_given 5 pc (j k)) : rx_OK (zV b e D A X) mX13_given 5 153 (bX13_given_153 j) := by
  unfold bX13_given_153
  refine rx_by (e_ldI _ _) (s_iload_n hZ.1 dX13_given_153 rfl ?_)
  refine s_dup2 hZ.1 dX13_given_154 ?_
  refine rx_by (e_ald _ _) (s_iald (tt := 0) rfl dX13_given_155 ?_)
  refine s_iconst dX13_given_156 (by decide +kernel) ?_
  refine rx_by (e_add _) (s_iadd dX13_given_157 ?_)
  refine rx_by (e_astI _ _ _) (s_iast hZ.1 (tt := 0) rfl dX13_given_158 ?_)
  refine rx_by (e_inc (by decide +kernel) _) (s_iinc hZ.1 dX13_given_159 (Nat.le_of_ble_eq_true rfl) ?_)
  exact s_goto dX13_given_162 (by decide) (hj 0 10 rfl)
noncomputable def bX13_given_118 (j : Nat → rx_K) : rx_K := q_ld q_isI 2 (o_const 272 (q_bi q_Fmul (q_ld q_isR 0 (q_getf 13 41 (q_ld q_isI 2 (q_ald 0 (q_bi q_Fadd (q_st q_isI 3 (q_ld q_isR 0 (q_ld q_isI 3 (o_callV 1 13 fX13_newMember (q_ld q_isR 0 (q_getf 13 42 (q_ld q_isI 3 (o_const 16 (q_ast 0 (fun v => v) q_isI (q_ld q_isR 0 (q_getf 13 44 (q_ld q_isI 3 (o_const 24 (q_ast 0 (fun v => v) q_isI (q_ld q_isR 0 (q_getf 13 41 ((bX13_given_153 j)))))))))))))))))))))))))
set_option maxRecDepth 20000 in
theorem kX13_given_118 (hZ : zO b e D A X) (j : Nat → rx_K) (hj : ∀ k pc, [10][k]? = some pc → rx_OK (zV b e D A X) mX13_given 5 pc (j k)) : rx_OK (zV b e D A X) mX13_given 5 118 (bX13_given_118 j) := by
  unfold bX13_given_118
  refine rx_by (e_ldI _ _) (s_iload_n hZ.1 dX13_given_118 rfl ?_)
  refine s_bipush dX13_given_119 (by decide +kernel) ?_
  refine rx_by (e_mul _) (s_imul dX13_given_121 ?_)
  refine rx_by (e_ldR _ _) (s_aload_n hZ.1 dX13_given_122 rfl ?_)
  refine rx_by (e_getf _ _ _) (s_getf zcl13 (Nat.le_of_ble_eq_true rfl) dX13_given_123 zw4168 ?_)
  refine rx_by (e_ldI _ _) (s_iload_n hZ.1 dX13_given_126 rfl ?_)
  refine rx_by (e_ald _ _) (s_iald (tt := 0) rfl dX13_given_127 ?_)
  refine rx_by (e_add _) (s_iadd dX13_given_128 ?_)
  refine rx_by (e_stI _ _) (s_istore_n hZ.1 dX13_given_129 rfl (Nat.le_of_ble_eq_true rfl) ?_)
  refine rx_by (e_ldR _ _) (s_aload_n hZ.1 dX13_given_130 rfl ?_)
  refine rx_by (e_ldI _ _) (s_iload_n hZ.1 dX13_given_131 rfl ?_)
  refine s_callV hZ.1 (met_X13_newMember hZ) (by decide) zy_X13_newMember zcl13 zw3062 zw199 (Or.inl zw3060) dX13_given_132 ?_
  refine rx_by (e_ldR _ _) (s_aload_n hZ.1 dX13_given_135 rfl ?_)
  refine rx_by (e_getf _ _ _) (s_getf zcl13 (Nat.le_of_ble_eq_true rfl) dX13_given_136 zw4169 ?_)
  refine rx_by (e_ldI _ _) (s_iload_n hZ.1 dX13_given_139 rfl ?_)
  refine s_iconst dX13_given_140 (by decide +kernel) ?_
  refine rx_by (e_astI _ _ _) (s_iast hZ.1 (tt := 0) rfl dX13_given_141 ?_)
  refine rx_by (e_ldR _ _) (s_aload_n hZ.1 dX13_given_142 rfl ?_)
  refine rx_by (e_getf _ _ _) (s_getf zcl13 (Nat.le_of_ble_eq_true rfl) dX13_given_143 zw4171 ?_)
  refine rx_by (e_ldI _ _) (s_iload_n hZ.1 dX13_given_146 rfl ?_)
  refine s_iconst dX13_given_147 (by decide +kernel) ?_
  refine rx_by (e_astI _ _ _) (s_iast hZ.1 (tt := 0) rfl dX13_given_148 ?_)
  refine rx_by (e_ldR _ _) (s_aload_n hZ.1 dX13_given_149 rfl ?_)
  refine rx_by (e_getf _ _ _) (s_getf zcl13 (Nat.le_of_ble_eq_true rfl) dX13_given_150 zw4168 ?_)
  exact (kX13_given_153 hZ j hj)
noncomputable def bX13_given_103 (j : Nat → rx_K) : rx_K := q_getf 13 53 (q_ld q_isI 3 (o_const 17 (q_ast 1 (fun v => v) q_isL (q_ld q_isR 0 (q_getf 13 41 (q_ld q_isI 2 (o_const 8 (q_ast 0 (fun v => v) q_isI ((bX13_given_118 j))))))))))
set_option maxRecDepth 20000 in
theorem kX13_given_103 (hZ : zO b e D A X) (j : Nat → rx_K) (hj : ∀ k pc, [10][k]? = some pc → rx_OK (zV b e D A X) mX13_given 5 pc (j k)) : rx_OK (zV b e D A X) mX13_given 5 103 (bX13_given_103 j) := by
  unfold bX13_given_103
  refine rx_by (e_getf _ _ _) (s_getf zcl13 (Nat.le_of_ble_eq_true rfl) dX13_given_103 zw4180 ?_)
  refine rx_by (e_ldI _ _) (s_iload_n hZ.1 dX13_given_106 rfl ?_)
  refine s_ldc2 dX13_given_107 zw3072 (by decide +kernel) ?_
  refine rx_by (e_ast _ _ _ _) (s_last (tt := 1) rfl dX13_given_110 ?_)
  refine rx_by (e_ldR _ _) (s_aload_n hZ.1 dX13_given_111 rfl ?_)
  refine rx_by (e_getf _ _ _) (s_getf zcl13 (Nat.le_of_ble_eq_true rfl) dX13_given_112 zw4168 ?_)
  refine rx_by (e_ldI _ _) (s_iload_n hZ.1 dX13_given_115 rfl ?_)
  refine s_iconst dX13_given_116 (by decide +kernel) ?_
  refine rx_by (e_astI _ _ _) (s_iast hZ.1 (tt := 0) rfl dX13_given_117 ?_)
  exact (kX13_given_118 hZ j hj)
noncomputable def bX13_given_66 (j : Nat → rx_K) : rx_K := q_ld q_isI 2 (o_const 272 (q_bi q_Fmul (q_st q_isI 3 (q_ld q_isR 0 (q_ld q_isI 3 (o_callV 1 13 fX13_newMember (q_ld q_isR 0 (q_getf 13 42 (q_ld q_isI 3 (o_const 0 (q_ast 0 (fun v => v) q_isI (q_ld q_isR 0 (q_getf 13 44 (q_ld q_isI 3 (o_const 24 (q_ast 0 (fun v => v) q_isI (q_ld q_isR 0 (q_getf 13 51 (q_ld q_isI 3 (o_const 84 (o_callS 1 fX13_nameOf (q_ast 1 (fun v => v) q_isL (q_ld q_isR 0 ((bX13_given_103 j)))))))))))))))))))))))))
set_option maxRecDepth 20000 in
theorem kX13_given_66 (hZ : zO b e D A X) (j : Nat → rx_K) (hj : ∀ k pc, [10][k]? = some pc → rx_OK (zV b e D A X) mX13_given 5 pc (j k)) : rx_OK (zV b e D A X) mX13_given 5 66 (bX13_given_66 j) := by
  unfold bX13_given_66
  refine rx_by (e_ldI _ _) (s_iload_n hZ.1 dX13_given_66 rfl ?_)
  refine s_bipush dX13_given_67 (by decide +kernel) ?_
  refine rx_by (e_mul _) (s_imul dX13_given_69 ?_)
  refine rx_by (e_stI _ _) (s_istore_n hZ.1 dX13_given_70 rfl (Nat.le_of_ble_eq_true rfl) ?_)
  refine rx_by (e_ldR _ _) (s_aload_n hZ.1 dX13_given_71 rfl ?_)
  refine rx_by (e_ldI _ _) (s_iload_n hZ.1 dX13_given_72 rfl ?_)
  refine s_callV hZ.1 (met_X13_newMember hZ) (by decide) zy_X13_newMember zcl13 zw3062 zw199 (Or.inl zw3060) dX13_given_73 ?_
  refine rx_by (e_ldR _ _) (s_aload_n hZ.1 dX13_given_76 rfl ?_)
  refine rx_by (e_getf _ _ _) (s_getf zcl13 (Nat.le_of_ble_eq_true rfl) dX13_given_77 zw4169 ?_)
  refine rx_by (e_ldI _ _) (s_iload_n hZ.1 dX13_given_80 rfl ?_)
  refine s_iconst dX13_given_81 (by decide +kernel) ?_
  refine rx_by (e_astI _ _ _) (s_iast hZ.1 (tt := 0) rfl dX13_given_82 ?_)
  refine rx_by (e_ldR _ _) (s_aload_n hZ.1 dX13_given_83 rfl ?_)
  refine rx_by (e_getf _ _ _) (s_getf zcl13 (Nat.le_of_ble_eq_true rfl) dX13_given_84 zw4171 ?_)
  refine rx_by (e_ldI _ _) (s_iload_n hZ.1 dX13_given_87 rfl ?_)
  refine s_iconst dX13_given_88 (by decide +kernel) ?_
  refine rx_by (e_astI _ _ _) (s_iast hZ.1 (tt := 0) rfl dX13_given_89 ?_)
  refine rx_by (e_ldR _ _) (s_aload_n hZ.1 dX13_given_90 rfl ?_)
  refine rx_by (e_getf _ _ _) (s_getf zcl13 (Nat.le_of_ble_eq_true rfl) dX13_given_91 zw4178 ?_)
  refine rx_by (e_ldI _ _) (s_iload_n hZ.1 dX13_given_94 rfl ?_)
  refine s_ldcwS hZ.2.s10 dX13_given_95 ?_
  refine s_callS hZ.1 (met_X13_nameOf hZ) (by decide) zy_X13_nameOf zw2996 (Or.inl zw2995) dX13_given_98 ?_
  refine rx_by (e_ast _ _ _ _) (s_last (tt := 1) rfl dX13_given_101 ?_)
  refine rx_by (e_ldR _ _) (s_aload_n hZ.1 dX13_given_102 rfl ?_)
  exact (kX13_given_103 hZ j hj)
noncomputable def bX13_given_39 (j : Nat → rx_K) : rx_K := q_ast 1 (fun v => v) q_isL (q_ld q_isR 0 (q_getf 13 26 (q_ld q_isI 2 (o_const 8 (q_ast 3 (fun v => v) rx_isZ (q_ld q_isR 0 (q_getf 13 27 (q_ld q_isI 2 (o_const 0 (q_ast 0 (fun v => v) q_isI (q_ld q_isR 0 (q_getf 13 41 (q_ld q_isI 2 (o_const 0 (q_ast 0 (fun v => v) q_isI (q_ld q_isI 1 (o_const 8 (q_eq2 (bX13_given_66 j) (bX13_given_118 j)))))))))))))))))))
set_option maxRecDepth 20000 in
theorem kX13_given_39 (hZ : zO b e D A X) (j : Nat → rx_K) (hj : ∀ k pc, [10][k]? = some pc → rx_OK (zV b e D A X) mX13_given 5 pc (j k)) : rx_OK (zV b e D A X) mX13_given 5 39 (bX13_given_39 j) := by
  unfold bX13_given_39
  refine rx_by (e_ast _ _ _ _) (s_last (tt := 1) rfl dX13_given_39 ?_)
  refine rx_by (e_ldR _ _) (s_aload_n hZ.1 dX13_given_40 rfl ?_)
  refine rx_by (e_getf _ _ _) (s_getf zcl13 (Nat.le_of_ble_eq_true rfl) dX13_given_41 zw4153 ?_)
  refine rx_by (e_ldI _ _) (s_iload_n hZ.1 dX13_given_44 rfl ?_)
  refine s_iconst dX13_given_45 (by decide +kernel) ?_
  refine rx_by (e_ast _ _ _ _) (s_zast (tt := 3) rfl dX13_given_46 ?_)
  refine rx_by (e_ldR _ _) (s_aload_n hZ.1 dX13_given_47 rfl ?_)
  refine rx_by (e_getf _ _ _) (s_getf zcl13 (Nat.le_of_ble_eq_true rfl) dX13_given_48 zw4154 ?_)
  refine rx_by (e_ldI _ _) (s_iload_n hZ.1 dX13_given_51 rfl ?_)
  refine s_iconst dX13_given_52 (by decide +kernel) ?_
  refine rx_by (e_astI _ _ _) (s_iast hZ.1 (tt := 0) rfl dX13_given_53 ?_)
  refine rx_by (e_ldR _ _) (s_aload_n hZ.1 dX13_given_54 rfl ?_)
  refine rx_by (e_getf _ _ _) (s_getf zcl13 (Nat.le_of_ble_eq_true rfl) dX13_given_55 zw4168 ?_)
  refine rx_by (e_ldI _ _) (s_iload_n hZ.1 dX13_given_58 rfl ?_)
  refine s_iconst dX13_given_59 (by decide +kernel) ?_
  refine rx_by (e_astI _ _ _) (s_iast hZ.1 (tt := 0) rfl dX13_given_60 ?_)
  refine rx_by (e_ldI _ _) (s_iload_n hZ.1 dX13_given_61 rfl ?_)
  refine s_iconst dX13_given_62 (by decide +kernel) ?_
  exact rx_by (e_eq2 _ _) (s_icmp_ne dX13_given_63 (by decide) (kX13_given_118 hZ j hj) (kX13_given_66 hZ j hj))
noncomputable def bX13_given_36 (j : Nat → rx_K) : rx_K := o_const 18446744073765230689 ((bX13_given_39 j))
set_option maxRecDepth 20000 in
theorem kX13_given_36 (hZ : zO b e D A X) (j : Nat → rx_K) (hj : ∀ k pc, [10][k]? = some pc → rx_OK (zV b e D A X) mX13_given 5 pc (j k)) : rx_OK (zV b e D A X) mX13_given 5 36 (bX13_given_36 j) := by
  unfold bX13_given_36
  refine s_ldc2 dX13_given_36 zw3195 (by decide +kernel) ?_
  exact (kX13_given_39 hZ j hj)
noncomputable def bX13_given_30 (j : Nat → rx_K) : rx_K := o_const 18446744073764969673 ((bX13_given_39 j))
set_option maxRecDepth 20000 in
theorem kX13_given_30 (hZ : zO b e D A X) (j : Nat → rx_K) (hj : ∀ k pc, [10][k]? = some pc → rx_OK (zV b e D A X) mX13_given 5 pc (j k)) : rx_OK (zV b e D A X) mX13_given 5 30 (bX13_given_30 j) := by
  unfold bX13_given_30
  refine s_ldc2 dX13_given_30 zw3194 (by decide +kernel) ?_
  exact s_goto dX13_given_33 (by decide) (kX13_given_39 hZ j hj)
noncomputable def bX13_given_15 (j : Nat → rx_K) : rx_K := o_const 1632 (q_ld q_isI 1 (q_bi q_Fadd (q_st q_isI 2 (q_ld q_isR 0 (q_getf 13 24 (q_ld q_isI 2 (q_ld q_isI 1 (q_eq1 (bX13_given_30 j) (bX13_given_36 j)))))))))
set_option maxRecDepth 20000 in
theorem kX13_given_15 (hZ : zO b e D A X) (j : Nat → rx_K) (hj : ∀ k pc, [10][k]? = some pc → rx_OK (zV b e D A X) mX13_given 5 pc (j k)) : rx_OK (zV b e D A X) mX13_given 5 15 (bX13_given_15 j) := by
  unfold bX13_given_15
  refine s_sipush dX13_given_15 (by decide +kernel) ?_
  refine rx_by (e_ldI _ _) (s_iload_n hZ.1 dX13_given_18 rfl ?_)
  refine rx_by (e_add _) (s_iadd dX13_given_19 ?_)
  refine rx_by (e_stI _ _) (s_istore_n hZ.1 dX13_given_20 rfl (Nat.le_of_ble_eq_true rfl) ?_)
  refine rx_by (e_ldR _ _) (s_aload_n hZ.1 dX13_given_21 rfl ?_)
  refine rx_by (e_getf _ _ _) (s_getf zcl13 (Nat.le_of_ble_eq_true rfl) dX13_given_22 zw4151 ?_)
  refine rx_by (e_ldI _ _) (s_iload_n hZ.1 dX13_given_25 rfl ?_)
  refine rx_by (e_ldI _ _) (s_iload_n hZ.1 dX13_given_26 rfl ?_)
  exact rx_by (e_eq1 _ _) (s_if_ne dX13_given_27 (by decide) (kX13_given_36 hZ j hj) (kX13_given_30 hZ j hj))
noncomputable def bX13_given_10 (j : Nat → rx_K) : rx_K := q_ld q_isI 1 (o_const 16 (q_lt2 (bX13_given_15 j) (bX13_given_165 j)))
set_option maxRecDepth 20000 in
theorem kX13_given_10 (hZ : zO b e D A X) (j : Nat → rx_K) (hj : ∀ k pc, [10][k]? = some pc → rx_OK (zV b e D A X) mX13_given 5 pc (j k)) : rx_OK (zV b e D A X) mX13_given 5 10 (bX13_given_10 j) := by
  unfold bX13_given_10
  refine rx_by (e_ldI _ _) (s_iload_n hZ.1 dX13_given_10 rfl ?_)
  refine s_iconst dX13_given_11 (by decide +kernel) ?_
  exact rx_by (e_lt2 _ _) (s_icmp_ge dX13_given_12 (by decide) (kX13_given_165 hZ j hj) (kX13_given_15 hZ j hj))
noncomputable def bX13_given_0 (j : Nat → rx_K) : rx_K := q_ld q_isR 0 (q_getf 13 23 (o_const 136 (o_const 16 (q_ast 0 (fun v => v) q_isI (o_const 0 (q_st q_isI 1 ((bX13_given_10 j))))))))
set_option maxRecDepth 20000 in
theorem kX13_given_0 (hZ : zO b e D A X) (j : Nat → rx_K) (hj : ∀ k pc, [10][k]? = some pc → rx_OK (zV b e D A X) mX13_given 5 pc (j k)) : rx_OK (zV b e D A X) mX13_given 5 0 (bX13_given_0 j) := by
  unfold bX13_given_0
  refine rx_by (e_ldR _ _) (s_aload_n hZ.1 dX13_given_0 rfl ?_)
  refine rx_by (e_getf _ _ _) (s_getf zcl13 (Nat.le_of_ble_eq_true rfl) dX13_given_1 zw4150 ?_)
  refine s_bipush dX13_given_4 (by decide +kernel) ?_
  refine s_iconst dX13_given_6 (by decide +kernel) ?_
  refine rx_by (e_astI _ _ _) (s_iast hZ.1 (tt := 0) rfl dX13_given_7 ?_)
  refine s_iconst dX13_given_8 (by decide +kernel) ?_
  refine rx_by (e_stI _ _) (s_istore_n hZ.1 dX13_given_9 rfl (Nat.le_of_ble_eq_true rfl) ?_)
  exact (kX13_given_10 hZ j hj)
noncomputable def hX13_given (j : Nat → rx_K) : List rx_K := [bX13_given_10 j]
theorem lX13_given (hZ : zO b e D A X) : ∀ n k pc, [10][k]? = some pc → rx_OK (zV b e D A X) mX13_given 5 pc (rx_J hX13_given n k) := rx_loop fun j hj k pc h => by
  match k, h with
  | 0, h =>
    have e9 := Option.some.inj (show some 10 = some pc from h)
    subst e9
    exact kX13_given_10 hZ j hj
  | _ + 1, h => exact absurd h (by simp)
noncomputable def fX13_given : List Nat → rx_H → Option (Nat × rx_H) := rx_ent 4 (bX13_given_0 (rx_J hX13_given 1000000))
theorem met_X13_given (hZ : zO b e D A X) : rx_Met (zV b e D A X) 5 yX13_given mX13_given fX13_given := rx_entry hZ.1 (kX13_given_0 hZ _ (lX13_given hZ 1000000)) (by decide +kernel) rfl (fun h => by cases h)
theorem zy_X13_given : rx_Y (zV b e D A X) yX13_given mX13_given 0 := ⟨zw4125, zw431, by decide, by decide +kernel, by decide +kernel, by decide +kernel⟩
abbrev mX13_intoWorld : rx_M := (RX13, cX13_intoWorld, 2, none, false)
noncomputable def bX13_intoWorld_0 : rx_K := q_ld q_isR 0 (q_getf 13 130 (q_ld q_isR 0 (q_getf 13 129 (q_ld q_isI 1 (q_ast 0 (fun v => v) q_isI (q_ld q_isR 0 (q_getf 13 131 (q_ld q_isI 1 (q_ld q_isR 0 (q_getf 13 129 (q_ast 0 (fun v => v) q_isI (q_ld q_isR 0 (q_dup (q_getf 13 129 (o_const 8 (q_bi q_Fadd (q_putf q_isI 13 129 (o_ret0))))))))))))))))))
set_option maxRecDepth 20000 in
theorem kX13_intoWorld_0 (hZ : zO b e D A X) : rx_OK (zV b e D A X) mX13_intoWorld 0 0 bX13_intoWorld_0 := by
  unfold bX13_intoWorld_0
  refine rx_by (e_ldR _ _) (s_aload_n hZ.1 dX13_intoWorld_0 rfl ?_)
  refine rx_by (e_getf _ _ _) (s_getf zcl13 (Nat.le_of_ble_eq_true rfl) dX13_intoWorld_1 zw4256 ?_)
  refine rx_by (e_ldR _ _) (s_aload_n hZ.1 dX13_intoWorld_4 rfl ?_)
  refine rx_by (e_getf _ _ _) (s_getf zcl13 (Nat.le_of_ble_eq_true rfl) dX13_intoWorld_5 zw4255 ?_)
  refine rx_by (e_ldI _ _) (s_iload_n hZ.1 dX13_intoWorld_8 rfl ?_)
  refine rx_by (e_astI _ _ _) (s_iast hZ.1 (tt := 0) rfl dX13_intoWorld_9 ?_)
  refine rx_by (e_ldR _ _) (s_aload_n hZ.1 dX13_intoWorld_10 rfl ?_)
  refine rx_by (e_getf _ _ _) (s_getf zcl13 (Nat.le_of_ble_eq_true rfl) dX13_intoWorld_11 zw4257 ?_)
  refine rx_by (e_ldI _ _) (s_iload_n hZ.1 dX13_intoWorld_14 rfl ?_)
  refine rx_by (e_ldR _ _) (s_aload_n hZ.1 dX13_intoWorld_15 rfl ?_)
  refine rx_by (e_getf _ _ _) (s_getf zcl13 (Nat.le_of_ble_eq_true rfl) dX13_intoWorld_16 zw4255 ?_)
  refine rx_by (e_astI _ _ _) (s_iast hZ.1 (tt := 0) rfl dX13_intoWorld_19 ?_)
  refine rx_by (e_ldR _ _) (s_aload_n hZ.1 dX13_intoWorld_20 rfl ?_)
  refine rx_by (e_dup _) (s_dup hZ.1 dX13_intoWorld_21 ?_)
  refine rx_by (e_getf _ _ _) (s_getf zcl13 (Nat.le_of_ble_eq_true rfl) dX13_intoWorld_22 zw4255 ?_)
  refine s_iconst dX13_intoWorld_25 (by decide +kernel) ?_
  refine rx_by (e_add _) (s_iadd dX13_intoWorld_26 ?_)
  refine rx_by (e_putf _ _ _ _) (s_putf hZ.1 zcl13 (Nat.le_of_ble_eq_true rfl) (Or.inl rfl) dX13_intoWorld_27 zw4255 c_int ?_)
  exact s_vret rfl dX13_intoWorld_30
noncomputable def fX13_intoWorld : List Nat → rx_H → Option (Nat × rx_H) := rx_ent 2 bX13_intoWorld_0
theorem met_X13_intoWorld (hZ : zO b e D A X) : rx_Met (zV b e D A X) 0 yX13_intoWorld mX13_intoWorld fX13_intoWorld := rx_entry hZ.1 (kX13_intoWorld_0 hZ) (by decide +kernel) rfl (fun h => by cases h)
theorem zy_X13_intoWorld : rx_Y (zV b e D A X) yX13_intoWorld mX13_intoWorld 1 := ⟨zw3616, zw431, by decide, by decide +kernel, by decide +kernel, by decide +kernel⟩
abbrev mX13_numberWorld : rx_M := (RX13, cX13_numberWorld, 4, none, false)
noncomputable def bX13_numberWorld_120 (j : Nat → rx_K) : rx_K := o_ret0
set_option maxRecDepth 20000 in
theorem kX13_numberWorld_120 (hZ : zO b e D A X) (j : Nat → rx_K) (hj : ∀ k pc, [2, 44][k]? = some pc → rx_OK (zV b e D A X) mX13_numberWorld 1 pc (j k)) : rx_OK (zV b e D A X) mX13_numberWorld 1 120 (bX13_numberWorld_120 j) := by
  unfold bX13_numberWorld_120
  exact s_vret rfl dX13_numberWorld_120
noncomputable def bX13_numberWorld_114 (j : Nat → rx_K) : rx_K := q_inc 1 8 ((j 1))
set_option maxRecDepth 20000 in
theorem kX13_numberWorld_114 (hZ : zO b e D A X) (j : Nat → rx_K) (hj : ∀ k pc, [2, 44][k]? = some pc → rx_OK (zV b e D A X) mX13_numberWorld 1 pc (j k)) : rx_OK (zV b e D A X) mX13_numberWorld 1 114 (bX13_numberWorld_114 j) := by
  unfold bX13_numberWorld_114
  refine rx_by (e_inc (by decide +kernel) _) (s_iinc hZ.1 dX13_numberWorld_114 (Nat.le_of_ble_eq_true rfl) ?_)
  exact s_goto dX13_numberWorld_117 (by decide) (hj 1 44 rfl)
noncomputable def bX13_numberWorld_49 (j : Nat → rx_K) : rx_K := o_const 0 (q_st q_isI 2 (q_ld q_isR 0 (q_getf 13 90 (q_ld q_isI 1 (q_ald 0 (o_const 34359738352 (q_eq2 (bX13_numberWorld_114 j) o_none)))))))
set_option maxRecDepth 20000 in
theorem kX13_numberWorld_49 (hZ : zO b e D A X) (j : Nat → rx_K) (hj : ∀ k pc, [2, 44][k]? = some pc → rx_OK (zV b e D A X) mX13_numberWorld 1 pc (j k)) : rx_OK (zV b e D A X) mX13_numberWorld 1 49 (bX13_numberWorld_49 j) := by
  unfold bX13_numberWorld_49
  refine s_iconst dX13_numberWorld_49 (by decide +kernel) ?_
  refine rx_by (e_stI _ _) (s_istore_n hZ.1 dX13_numberWorld_50 rfl (Nat.le_of_ble_eq_true rfl) ?_)
  refine rx_by (e_ldR _ _) (s_aload_n hZ.1 dX13_numberWorld_51 rfl ?_)
  refine rx_by (e_getf _ _ _) (s_getf zcl13 (Nat.le_of_ble_eq_true rfl) dX13_numberWorld_52 zw4217 ?_)
  refine rx_by (e_ldI _ _) (s_iload_n hZ.1 dX13_numberWorld_55 rfl ?_)
  refine rx_by (e_ald _ _) (s_iald (tt := 0) rfl dX13_numberWorld_56 ?_)
  refine s_bipush dX13_numberWorld_57 (by decide +kernel) ?_
  exact rx_by (e_eq2 _ _) (s_icmp_eq dX13_numberWorld_59 (by decide) (kX13_numberWorld_114 hZ j hj) (s_none (pc := 62)))
noncomputable def bX13_numberWorld_44 (j : Nat → rx_K) : rx_K := q_ld q_isI 1 (o_const 40 (q_lt2 (bX13_numberWorld_49 j) (bX13_numberWorld_120 j)))
set_option maxRecDepth 20000 in
theorem kX13_numberWorld_44 (hZ : zO b e D A X) (j : Nat → rx_K) (hj : ∀ k pc, [2, 44][k]? = some pc → rx_OK (zV b e D A X) mX13_numberWorld 1 pc (j k)) : rx_OK (zV b e D A X) mX13_numberWorld 1 44 (bX13_numberWorld_44 j) := by
  unfold bX13_numberWorld_44
  refine rx_by (e_ldI _ _) (s_iload_n hZ.1 dX13_numberWorld_44 rfl ?_)
  refine s_iconst dX13_numberWorld_45 (by decide +kernel) ?_
  exact rx_by (e_lt2 _ _) (s_icmp_ge dX13_numberWorld_46 (by decide) (kX13_numberWorld_120 hZ j hj) (kX13_numberWorld_49 hZ j hj))
noncomputable def bX13_numberWorld_23 (j : Nat → rx_K) : rx_K := q_ld q_isR 0 (o_const 0 (q_putf q_isI 13 129 (q_ld q_isR 0 (o_const 1632 (o_callV 1 13 fX13_intoWorld (q_ld q_isR 0 (o_const 1640 (o_callV 1 13 fX13_intoWorld (o_const 0 (q_st q_isI 1 ((bX13_numberWorld_44 j))))))))))))
set_option maxRecDepth 20000 in
theorem kX13_numberWorld_23 (hZ : zO b e D A X) (j : Nat → rx_K) (hj : ∀ k pc, [2, 44][k]? = some pc → rx_OK (zV b e D A X) mX13_numberWorld 1 pc (j k)) : rx_OK (zV b e D A X) mX13_numberWorld 1 23 (bX13_numberWorld_23 j) := by
  unfold bX13_numberWorld_23
  refine rx_by (e_ldR _ _) (s_aload_n hZ.1 dX13_numberWorld_23 rfl ?_)
  refine s_iconst dX13_numberWorld_24 (by decide +kernel) ?_
  refine rx_by (e_putf _ _ _ _) (s_putf hZ.1 zcl13 (Nat.le_of_ble_eq_true rfl) (Or.inl rfl) dX13_numberWorld_25 zw4255 c_int ?_)
  refine rx_by (e_ldR _ _) (s_aload_n hZ.1 dX13_numberWorld_28 rfl ?_)
  refine s_sipush dX13_numberWorld_29 (by decide +kernel) ?_
  refine s_callV hZ.1 (met_X13_intoWorld hZ) (by decide) zy_X13_intoWorld zcl13 zw3615 zw321 (Or.inl zw3613) dX13_numberWorld_32 ?_
  refine rx_by (e_ldR _ _) (s_aload_n hZ.1 dX13_numberWorld_35 rfl ?_)
  refine s_sipush dX13_numberWorld_36 (by decide +kernel) ?_
  refine s_callV hZ.1 (met_X13_intoWorld hZ) (by decide) zy_X13_intoWorld zcl13 zw3615 zw321 (Or.inl zw3613) dX13_numberWorld_39 ?_
  refine s_iconst dX13_numberWorld_42 (by decide +kernel) ?_
  refine rx_by (e_stI _ _) (s_istore_n hZ.1 dX13_numberWorld_43 rfl (Nat.le_of_ble_eq_true rfl) ?_)
  exact (kX13_numberWorld_44 hZ j hj)
noncomputable def bX13_numberWorld_9 (j : Nat → rx_K) : rx_K := q_ld q_isR 0 (q_getf 13 131 (q_ld q_isI 1 (o_const 34359738352 (q_ast 0 (fun v => v) q_isI (q_inc 1 8 ((j 0)))))))
set_option maxRecDepth 20000 in
theorem kX13_numberWorld_9 (hZ : zO b e D A X) (j : Nat → rx_K) (hj : ∀ k pc, [2, 44][k]? = some pc → rx_OK (zV b e D A X) mX13_numberWorld 1 pc (j k)) : rx_OK (zV b e D A X) mX13_numberWorld 1 9 (bX13_numberWorld_9 j) := by
  unfold bX13_numberWorld_9
  refine rx_by (e_ldR _ _) (s_aload_n hZ.1 dX13_numberWorld_9 rfl ?_)
  refine rx_by (e_getf _ _ _) (s_getf zcl13 (Nat.le_of_ble_eq_true rfl) dX13_numberWorld_10 zw4257 ?_)
  refine rx_by (e_ldI _ _) (s_iload_n hZ.1 dX13_numberWorld_13 rfl ?_)
  refine s_bipush dX13_numberWorld_14 (by decide +kernel) ?_
  refine rx_by (e_astI _ _ _) (s_iast hZ.1 (tt := 0) rfl dX13_numberWorld_16 ?_)
  refine rx_by (e_inc (by decide +kernel) _) (s_iinc hZ.1 dX13_numberWorld_17 (Nat.le_of_ble_eq_true rfl) ?_)
  exact s_goto dX13_numberWorld_20 (by decide) (hj 0 2 rfl)
noncomputable def bX13_numberWorld_2 (j : Nat → rx_K) : rx_K := q_ld q_isI 1 (o_const 1728 (q_lt2 (bX13_numberWorld_9 j) (bX13_numberWorld_23 j)))
set_option maxRecDepth 20000 in
theorem kX13_numberWorld_2 (hZ : zO b e D A X) (j : Nat → rx_K) (hj : ∀ k pc, [2, 44][k]? = some pc → rx_OK (zV b e D A X) mX13_numberWorld 1 pc (j k)) : rx_OK (zV b e D A X) mX13_numberWorld 1 2 (bX13_numberWorld_2 j) := by
  unfold bX13_numberWorld_2
  refine rx_by (e_ldI _ _) (s_iload_n hZ.1 dX13_numberWorld_2 rfl ?_)
  refine s_sipush dX13_numberWorld_3 (by decide +kernel) ?_
  exact rx_by (e_lt2 _ _) (s_icmp_ge dX13_numberWorld_6 (by decide) (kX13_numberWorld_23 hZ j hj) (kX13_numberWorld_9 hZ j hj))
noncomputable def bX13_numberWorld_0 (j : Nat → rx_K) : rx_K := o_const 0 (q_st q_isI 1 ((bX13_numberWorld_2 j)))
set_option maxRecDepth 20000 in
theorem kX13_numberWorld_0 (hZ : zO b e D A X) (j : Nat → rx_K) (hj : ∀ k pc, [2, 44][k]? = some pc → rx_OK (zV b e D A X) mX13_numberWorld 1 pc (j k)) : rx_OK (zV b e D A X) mX13_numberWorld 1 0 (bX13_numberWorld_0 j) := by
  unfold bX13_numberWorld_0
  refine s_iconst dX13_numberWorld_0 (by decide +kernel) ?_
  refine rx_by (e_stI _ _) (s_istore_n hZ.1 dX13_numberWorld_1 rfl (Nat.le_of_ble_eq_true rfl) ?_)
  exact (kX13_numberWorld_2 hZ j hj)
noncomputable def hX13_numberWorld (j : Nat → rx_K) : List rx_K := [bX13_numberWorld_2 j, bX13_numberWorld_44 j]
theorem lX13_numberWorld (hZ : zO b e D A X) : ∀ n k pc, [2, 44][k]? = some pc → rx_OK (zV b e D A X) mX13_numberWorld 1 pc (rx_J hX13_numberWorld n k) := rx_loop fun j hj k pc h => by
  match k, h with
  | 0, h =>
    have e9 := Option.some.inj (show some 2 = some pc from h)
    subst e9
    exact kX13_numberWorld_2 hZ j hj
  | 1, h =>
    have e9 := Option.some.inj (show some 44 = some pc from h)
    subst e9
    exact kX13_numberWorld_44 hZ j hj
  | _ + 2, h => exact absurd h (by simp)
noncomputable def fX13_numberWorld : List Nat → rx_H → Option (Nat × rx_H) := rx_ent 4 (bX13_numberWorld_0 (rx_J hX13_numberWorld 1000000))
theorem met_X13_numberWorld (hZ : zO b e D A X) : rx_Met (zV b e D A X) 1 yX13_numberWorld mX13_numberWorld fX13_numberWorld := rx_entry hZ.1 (kX13_numberWorld_0 hZ _ (lX13_numberWorld hZ 1000000)) (by decide +kernel) rfl (fun h => by cases h)
theorem zy_X13_numberWorld : rx_Y (zV b e D A X) yX13_numberWorld mX13_numberWorld 0 := ⟨zw3612, zw431, by decide, by decide +kernel, by decide +kernel, by decide +kernel⟩
abbrev mX13_clearSet : rx_M := (RX13, cX13_clearSet, 3, none, false)
noncomputable def bX13_clearSet_41 (j : Nat → rx_K) : rx_K := o_ret0
set_option maxRecDepth 20000 in
theorem kX13_clearSet_41 (hZ : zO b e D A X) (j : Nat → rx_K) (hj : ∀ k pc, [2][k]? = some pc → rx_OK (zV b e D A X) mX13_clearSet 0 pc (j k)) : rx_OK (zV b e D A X) mX13_clearSet 0 41 (bX13_clearSet_41 j) := by
  unfold bX13_clearSet_41
  exact s_vret rfl dX13_clearSet_41
noncomputable def bX13_clearSet_25 (j : Nat → rx_K) : rx_K := q_ast 0 (fun v => v) q_isI (q_ld q_isR 0 (q_getf 13 133 (q_ld q_isI 1 (q_ld q_isI 2 (q_bi q_Fadd (o_const 0 (q_ast 0 (fun v => v) q_isI (q_inc 2 8 ((j 0))))))))))
set_option maxRecDepth 20000 in
theorem kX13_clearSet_25 (hZ : zO b e D A X) (j : Nat → rx_K) (hj : ∀ k pc, [2][k]? = some pc → rx_OK (zV b e D A X) mX13_clearSet 0 pc (j k)) : rx_OK (zV b e D A X) mX13_clearSet 0 25 (bX13_clearSet_25 j) := by
  unfold bX13_clearSet_25
  refine rx_by (e_astI _ _ _) (s_iast hZ.1 (tt := 0) rfl dX13_clearSet_25 ?_)
  refine rx_by (e_ldR _ _) (s_aload_n hZ.1 dX13_clearSet_26 rfl ?_)
  refine rx_by (e_getf _ _ _) (s_getf zcl13 (Nat.le_of_ble_eq_true rfl) dX13_clearSet_27 zw4259 ?_)
  refine rx_by (e_ldI _ _) (s_iload_n hZ.1 dX13_clearSet_30 rfl ?_)
  refine rx_by (e_ldI _ _) (s_iload_n hZ.1 dX13_clearSet_31 rfl ?_)
  refine rx_by (e_add _) (s_iadd dX13_clearSet_32 ?_)
  refine s_iconst dX13_clearSet_33 (by decide +kernel) ?_
  refine rx_by (e_astI _ _ _) (s_iast hZ.1 (tt := 0) rfl dX13_clearSet_34 ?_)
  refine rx_by (e_inc (by decide +kernel) _) (s_iinc hZ.1 dX13_clearSet_35 (Nat.le_of_ble_eq_true rfl) ?_)
  exact s_goto dX13_clearSet_38 (by decide) (hj 0 2 rfl)
noncomputable def bX13_clearSet_24 (j : Nat → rx_K) : rx_K := o_const 0 ((bX13_clearSet_25 j))
set_option maxRecDepth 20000 in
theorem kX13_clearSet_24 (hZ : zO b e D A X) (j : Nat → rx_K) (hj : ∀ k pc, [2][k]? = some pc → rx_OK (zV b e D A X) mX13_clearSet 0 pc (j k)) : rx_OK (zV b e D A X) mX13_clearSet 0 24 (bX13_clearSet_24 j) := by
  unfold bX13_clearSet_24
  refine s_iconst dX13_clearSet_24 (by decide +kernel) ?_
  exact (kX13_clearSet_25 hZ j hj)
noncomputable def bX13_clearSet_20 (j : Nat → rx_K) : rx_K := o_const 32 ((bX13_clearSet_25 j))
set_option maxRecDepth 20000 in
theorem kX13_clearSet_20 (hZ : zO b e D A X) (j : Nat → rx_K) (hj : ∀ k pc, [2][k]? = some pc → rx_OK (zV b e D A X) mX13_clearSet 0 pc (j k)) : rx_OK (zV b e D A X) mX13_clearSet 0 20 (bX13_clearSet_20 j) := by
  unfold bX13_clearSet_20
  refine s_iconst dX13_clearSet_20 (by decide +kernel) ?_
  exact s_goto dX13_clearSet_21 (by decide) (kX13_clearSet_25 hZ j hj)
noncomputable def bX13_clearSet_8 (j : Nat → rx_K) : rx_K := q_ld q_isR 0 (q_getf 13 132 (q_ld q_isI 1 (q_ld q_isI 2 (q_bi q_Fadd (q_ld q_isI 2 (o_const 16 (q_lt2 (bX13_clearSet_20 j) (bX13_clearSet_24 j))))))))
set_option maxRecDepth 20000 in
theorem kX13_clearSet_8 (hZ : zO b e D A X) (j : Nat → rx_K) (hj : ∀ k pc, [2][k]? = some pc → rx_OK (zV b e D A X) mX13_clearSet 0 pc (j k)) : rx_OK (zV b e D A X) mX13_clearSet 0 8 (bX13_clearSet_8 j) := by
  unfold bX13_clearSet_8
  refine rx_by (e_ldR _ _) (s_aload_n hZ.1 dX13_clearSet_8 rfl ?_)
  refine rx_by (e_getf _ _ _) (s_getf zcl13 (Nat.le_of_ble_eq_true rfl) dX13_clearSet_9 zw4258 ?_)
  refine rx_by (e_ldI _ _) (s_iload_n hZ.1 dX13_clearSet_12 rfl ?_)
  refine rx_by (e_ldI _ _) (s_iload_n hZ.1 dX13_clearSet_13 rfl ?_)
  refine rx_by (e_add _) (s_iadd dX13_clearSet_14 ?_)
  refine rx_by (e_ldI _ _) (s_iload_n hZ.1 dX13_clearSet_15 rfl ?_)
  refine s_iconst dX13_clearSet_16 (by decide +kernel) ?_
  exact rx_by (e_lt2 _ _) (s_icmp_ge dX13_clearSet_17 (by decide) (kX13_clearSet_24 hZ j hj) (kX13_clearSet_20 hZ j hj))
noncomputable def bX13_clearSet_2 (j : Nat → rx_K) : rx_K := q_ld q_isI 2 (o_const 512 (q_lt2 (bX13_clearSet_8 j) (bX13_clearSet_41 j)))
set_option maxRecDepth 20000 in
theorem kX13_clearSet_2 (hZ : zO b e D A X) (j : Nat → rx_K) (hj : ∀ k pc, [2][k]? = some pc → rx_OK (zV b e D A X) mX13_clearSet 0 pc (j k)) : rx_OK (zV b e D A X) mX13_clearSet 0 2 (bX13_clearSet_2 j) := by
  unfold bX13_clearSet_2
  refine rx_by (e_ldI _ _) (s_iload_n hZ.1 dX13_clearSet_2 rfl ?_)
  refine s_bipush dX13_clearSet_3 (by decide +kernel) ?_
  exact rx_by (e_lt2 _ _) (s_icmp_ge dX13_clearSet_5 (by decide) (kX13_clearSet_41 hZ j hj) (kX13_clearSet_8 hZ j hj))
noncomputable def bX13_clearSet_0 (j : Nat → rx_K) : rx_K := o_const 0 (q_st q_isI 2 ((bX13_clearSet_2 j)))
set_option maxRecDepth 20000 in
theorem kX13_clearSet_0 (hZ : zO b e D A X) (j : Nat → rx_K) (hj : ∀ k pc, [2][k]? = some pc → rx_OK (zV b e D A X) mX13_clearSet 0 pc (j k)) : rx_OK (zV b e D A X) mX13_clearSet 0 0 (bX13_clearSet_0 j) := by
  unfold bX13_clearSet_0
  refine s_iconst dX13_clearSet_0 (by decide +kernel) ?_
  refine rx_by (e_stI _ _) (s_istore_n hZ.1 dX13_clearSet_1 rfl (Nat.le_of_ble_eq_true rfl) ?_)
  exact (kX13_clearSet_2 hZ j hj)
noncomputable def hX13_clearSet (j : Nat → rx_K) : List rx_K := [bX13_clearSet_2 j]
theorem lX13_clearSet (hZ : zO b e D A X) : ∀ n k pc, [2][k]? = some pc → rx_OK (zV b e D A X) mX13_clearSet 0 pc (rx_J hX13_clearSet n k) := rx_loop fun j hj k pc h => by
  match k, h with
  | 0, h =>
    have e9 := Option.some.inj (show some 2 = some pc from h)
    subst e9
    exact kX13_clearSet_2 hZ j hj
  | _ + 1, h => exact absurd h (by simp)
noncomputable def fX13_clearSet : List Nat → rx_H → Option (Nat × rx_H) := rx_ent 3 (bX13_clearSet_0 (rx_J hX13_clearSet 1000000))
theorem met_X13_clearSet (hZ : zO b e D A X) : rx_Met (zV b e D A X) 0 yX13_clearSet mX13_clearSet fX13_clearSet := rx_entry hZ.1 (kX13_clearSet_0 hZ _ (lX13_clearSet hZ 1000000)) (by decide +kernel) rfl (fun h => by cases h)
theorem zy_X13_clearSet : rx_Y (zV b e D A X) yX13_clearSet mX13_clearSet 1 := ⟨zw3620, zw431, by decide, by decide +kernel, by decide +kernel, by decide +kernel⟩
abbrev mX13_settle : rx_M := (RX13, cX13_settle, 2, none, false)
noncomputable def bX13_settle_51 (j : Nat → rx_K) : rx_K := o_ret0
set_option maxRecDepth 20000 in
theorem kX13_settle_51 (hZ : zO b e D A X) (j : Nat → rx_K) (hj : ∀ k pc, [31][k]? = some pc → rx_OK (zV b e D A X) mX13_settle 2 pc (j k)) : rx_OK (zV b e D A X) mX13_settle 2 51 (bX13_settle_51 j) := by
  unfold bX13_settle_51
  exact s_vret rfl dX13_settle_51
noncomputable def bX13_settle_38 (j : Nat → rx_K) : rx_K := q_ld q_isR 0 (q_getf 13 148 (q_ld q_isI 1 (o_const 0 (q_ast 0 (fun v => v) q_isI (q_inc 1 8 ((j 0)))))))
set_option maxRecDepth 20000 in
theorem kX13_settle_38 (hZ : zO b e D A X) (j : Nat → rx_K) (hj : ∀ k pc, [31][k]? = some pc → rx_OK (zV b e D A X) mX13_settle 2 pc (j k)) : rx_OK (zV b e D A X) mX13_settle 2 38 (bX13_settle_38 j) := by
  unfold bX13_settle_38
  refine rx_by (e_ldR _ _) (s_aload_n hZ.1 dX13_settle_38 rfl ?_)
  refine rx_by (e_getf _ _ _) (s_getf zcl13 (Nat.le_of_ble_eq_true rfl) dX13_settle_39 zw4274 ?_)
  refine rx_by (e_ldI _ _) (s_iload_n hZ.1 dX13_settle_42 rfl ?_)
  refine s_iconst dX13_settle_43 (by decide +kernel) ?_
  refine rx_by (e_astI _ _ _) (s_iast hZ.1 (tt := 0) rfl dX13_settle_44 ?_)
  refine rx_by (e_inc (by decide +kernel) _) (s_iinc hZ.1 dX13_settle_45 (Nat.le_of_ble_eq_true rfl) ?_)
  exact s_goto dX13_settle_48 (by decide) (hj 0 31 rfl)
noncomputable def bX13_settle_31 (j : Nat → rx_K) : rx_K := q_ld q_isI 1 (o_const 58752 (q_lt2 (bX13_settle_38 j) (bX13_settle_51 j)))
set_option maxRecDepth 20000 in
theorem kX13_settle_31 (hZ : zO b e D A X) (j : Nat → rx_K) (hj : ∀ k pc, [31][k]? = some pc → rx_OK (zV b e D A X) mX13_settle 2 pc (j k)) : rx_OK (zV b e D A X) mX13_settle 2 31 (bX13_settle_31 j) := by
  unfold bX13_settle_31
  refine rx_by (e_ldI _ _) (s_iload_n hZ.1 dX13_settle_31 rfl ?_)
  refine s_sipush dX13_settle_32 (by decide +kernel) ?_
  exact rx_by (e_lt2 _ _) (s_icmp_ge dX13_settle_35 (by decide) (kX13_settle_51 hZ j hj) (kX13_settle_38 hZ j hj))
noncomputable def bX13_settle_0 (j : Nat → rx_K) : rx_K := q_ld q_isR 0 (o_callV 0 13 fX13_numberWorld (q_ld q_isR 0 (o_const 0 (q_putf q_isI 13 145 (q_ld q_isR 0 (o_const 0 (o_callV 1 13 fX13_clearSet (q_ld q_isR 0 (o_const 0 (q_putf q_isI 13 136 (q_ld q_isR 0 (o_const 0 (q_putf q_isI 13 151 (q_ld q_isR 0 (o_const 0 (q_putf q_isI 13 153 (o_const 0 (q_st q_isI 1 ((bX13_settle_31 j))))))))))))))))))))
set_option maxRecDepth 20000 in
theorem kX13_settle_0 (hZ : zO b e D A X) (j : Nat → rx_K) (hj : ∀ k pc, [31][k]? = some pc → rx_OK (zV b e D A X) mX13_settle 2 pc (j k)) : rx_OK (zV b e D A X) mX13_settle 2 0 (bX13_settle_0 j) := by
  unfold bX13_settle_0
  refine rx_by (e_ldR _ _) (s_aload_n hZ.1 dX13_settle_0 rfl ?_)
  refine s_callV hZ.1 (met_X13_numberWorld hZ) (by decide) zy_X13_numberWorld zcl13 zw3611 zw320 (Or.inl zw3609) dX13_settle_1 ?_
  refine rx_by (e_ldR _ _) (s_aload_n hZ.1 dX13_settle_4 rfl ?_)
  refine s_iconst dX13_settle_5 (by decide +kernel) ?_
  refine rx_by (e_putf _ _ _ _) (s_putf hZ.1 zcl13 (Nat.le_of_ble_eq_true rfl) (Or.inl rfl) dX13_settle_6 zw4271 c_int ?_)
  refine rx_by (e_ldR _ _) (s_aload_n hZ.1 dX13_settle_9 rfl ?_)
  refine s_iconst dX13_settle_10 (by decide +kernel) ?_
  refine s_callV hZ.1 (met_X13_clearSet hZ) (by decide) zy_X13_clearSet zcl13 zw3619 zw322 (Or.inl zw3617) dX13_settle_11 ?_
  refine rx_by (e_ldR _ _) (s_aload_n hZ.1 dX13_settle_14 rfl ?_)
  refine s_iconst dX13_settle_15 (by decide +kernel) ?_
  refine rx_by (e_putf _ _ _ _) (s_putf hZ.1 zcl13 (Nat.le_of_ble_eq_true rfl) (Or.inl rfl) dX13_settle_16 zw4262 c_int ?_)
  refine rx_by (e_ldR _ _) (s_aload_n hZ.1 dX13_settle_19 rfl ?_)
  refine s_iconst dX13_settle_20 (by decide +kernel) ?_
  refine rx_by (e_putf _ _ _ _) (s_putf hZ.1 zcl13 (Nat.le_of_ble_eq_true rfl) (Or.inl rfl) dX13_settle_21 zw4277 c_int ?_)
  refine rx_by (e_ldR _ _) (s_aload_n hZ.1 dX13_settle_24 rfl ?_)
  refine s_iconst dX13_settle_25 (by decide +kernel) ?_
  refine rx_by (e_putf _ _ _ _) (s_putf hZ.1 zcl13 (Nat.le_of_ble_eq_true rfl) (Or.inl rfl) dX13_settle_26 zw4279 c_int ?_)
  refine s_iconst dX13_settle_29 (by decide +kernel) ?_
  refine rx_by (e_stI _ _) (s_istore_n hZ.1 dX13_settle_30 rfl (Nat.le_of_ble_eq_true rfl) ?_)
  exact (kX13_settle_31 hZ j hj)
noncomputable def hX13_settle (j : Nat → rx_K) : List rx_K := [bX13_settle_31 j]
theorem lX13_settle (hZ : zO b e D A X) : ∀ n k pc, [31][k]? = some pc → rx_OK (zV b e D A X) mX13_settle 2 pc (rx_J hX13_settle n k) := rx_loop fun j hj k pc h => by
  match k, h with
  | 0, h =>
    have e9 := Option.some.inj (show some 31 = some pc from h)
    subst e9
    exact kX13_settle_31 hZ j hj
  | _ + 1, h => exact absurd h (by simp)
noncomputable def fX13_settle : List Nat → rx_H → Option (Nat × rx_H) := rx_ent 2 (bX13_settle_0 (rx_J hX13_settle 1000000))
theorem met_X13_settle (hZ : zO b e D A X) : rx_Met (zV b e D A X) 2 yX13_settle mX13_settle fX13_settle := rx_entry hZ.1 (kX13_settle_0 hZ _ (lX13_settle hZ 1000000)) (by decide +kernel) rfl (fun h => by cases h)
theorem zy_X13_settle : rx_Y (zV b e D A X) yX13_settle mX13_settle 0 := ⟨zw3608, zw431, by decide, by decide +kernel, by decide +kernel, by decide +kernel⟩
end ZM4

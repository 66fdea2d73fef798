section ZM58
variable {b : Nat} {e : Nat → Value} {D : va_G} {A : Nat → ClassId} {X : State → Prop}
abbrev mX13_make : rx_M := (RX13, cX13_make, 3, (some .int), false)
theorem vy_X13_make : rx_Y (zV b e D A X) yX13_make mX13_make 1 := ⟨zw2929, zw431, by decide, by decide +kernel, by decide +kernel, by decide +kernel⟩
noncomputable def vX13_make_207 (j : Nat → rx_K) : rx_K := o_const 8 (o_bi (fun x y => x + y) (o_putf rx_isI 13 10 (o_ld rx_isR 0 (o_getf 13 9 (o_ld rx_isI 1 (o_ald 0 (o_const 8 (o_bi (fun x y => x - y) (o_ret1 rx_isI)))))))))
set_option maxRecDepth 20000 in
theorem wX13_make_207 (hZ : zO b e D A X) (j : Nat → rx_K) (hj : ∀ k pc, [43][k]? = some pc → rx_OK (zV b e D A X) mX13_make 579 pc (j k)) : rx_OK (zV b e D A X) mX13_make 579 207 (vX13_make_207 j) := by
  unfold vX13_make_207
  refine s_iconst dX13_make_207 (by decide +kernel) ?_
  refine s_iadd dX13_make_208 ?_
  refine yp13_10 hZ.1 dX13_make_209 zw4131 ?_
  refine s_aload_n hZ.1 dX13_make_212 rfl ?_
  refine yg13_9 dX13_make_213 zw4130 ?_
  refine s_iload_n hZ.1 dX13_make_216 rfl ?_
  refine s_iald (tt := 0) rfl dX13_make_217 ?_
  refine s_iconst dX13_make_218 (by decide +kernel) ?_
  refine s_isub dX13_make_219 ?_
  exact s_iret hZ.1 rfl dX13_make_220
noncomputable def vX13_make_172 (j : Nat → rx_K) : rx_K := o_ld rx_isR 0 (o_getf 13 8 (o_const 64 (o_ld rx_isI 1 (o_bi (fun x y => x * y) (o_ld rx_isR 0 (o_getf 13 9 (o_ld rx_isI 1 (o_ald 0 (o_bi (fun x y => x + y) (o_ld rx_isR 0 (o_getf 13 19 (o_ast 0 (fun v => v) rx_isI (o_ld rx_isR 0 (o_getf 13 9 (o_ld rx_isI 1 (o_dup2 (o_ald 0 (o_const 8 (o_bi (fun x y => x + y) (o_ast 0 (fun v => v) rx_isI (o_ld rx_isR 0 (o_dup (o_getf 13 10 ((vX13_make_207 j)))))))))))))))))))))))))
set_option maxRecDepth 20000 in
theorem wX13_make_172 (hZ : zO b e D A X) (j : Nat → rx_K) (hj : ∀ k pc, [43][k]? = some pc → rx_OK (zV b e D A X) mX13_make 579 pc (j k)) : rx_OK (zV b e D A X) mX13_make 579 172 (vX13_make_172 j) := by
  unfold vX13_make_172
  refine s_aload_n hZ.1 dX13_make_172 rfl ?_
  refine yg13_8 dX13_make_173 zw4129 ?_
  refine s_bipush dX13_make_176 (by decide +kernel) ?_
  refine s_iload_n hZ.1 dX13_make_178 rfl ?_
  refine s_imul dX13_make_179 ?_
  refine s_aload_n hZ.1 dX13_make_180 rfl ?_
  refine yg13_9 dX13_make_181 zw4130 ?_
  refine s_iload_n hZ.1 dX13_make_184 rfl ?_
  refine s_iald (tt := 0) rfl dX13_make_185 ?_
  refine s_iadd dX13_make_186 ?_
  refine s_aload_n hZ.1 dX13_make_187 rfl ?_
  refine yg13_19 dX13_make_188 zw4140 ?_
  refine s_iast hZ.1 (tt := 0) rfl dX13_make_191 ?_
  refine s_aload_n hZ.1 dX13_make_192 rfl ?_
  refine yg13_9 dX13_make_193 zw4130 ?_
  refine s_iload_n hZ.1 dX13_make_196 rfl ?_
  refine s_dup2 hZ.1 dX13_make_197 ?_
  refine s_iald (tt := 0) rfl dX13_make_198 ?_
  refine s_iconst dX13_make_199 (by decide +kernel) ?_
  refine s_iadd dX13_make_200 ?_
  refine s_iast hZ.1 (tt := 0) rfl dX13_make_201 ?_
  refine s_aload_n hZ.1 dX13_make_202 rfl ?_
  refine s_dup hZ.1 dX13_make_203 ?_
  refine yg13_10 dX13_make_204 zw4131 ?_
  exact (wX13_make_207 hZ j hj)
noncomputable def vX13_make_164 (j : Nat → rx_K) : rx_K := o_const 34359738288 (o_ld rx_isR 0 (o_getf 13 20 (o_bi (fun x y => x - y) (o_ret1 rx_isI))))
set_option maxRecDepth 20000 in
theorem wX13_make_164 (hZ : zO b e D A X) (j : Nat → rx_K) (hj : ∀ k pc, [43][k]? = some pc → rx_OK (zV b e D A X) mX13_make 579 pc (j k)) : rx_OK (zV b e D A X) mX13_make 579 164 (vX13_make_164 j) := by
  unfold vX13_make_164
  refine s_bipush dX13_make_164 (by decide +kernel) ?_
  refine s_aload_n hZ.1 dX13_make_166 rfl ?_
  refine yg13_20 dX13_make_167 zw4141 ?_
  refine s_isub dX13_make_170 ?_
  exact s_iret hZ.1 rfl dX13_make_171
noncomputable def vX13_make_154 (j : Nat → rx_K) : rx_K := o_putf rx_isI 13 128 (o_ld rx_isR 0 (o_getf 13 20 (o_c1 rx_eq (vX13_make_172 j) (vX13_make_164 j))))
set_option maxRecDepth 20000 in
theorem wX13_make_154 (hZ : zO b e D A X) (j : Nat → rx_K) (hj : ∀ k pc, [43][k]? = some pc → rx_OK (zV b e D A X) mX13_make 579 pc (j k)) : rx_OK (zV b e D A X) mX13_make 579 154 (vX13_make_154 j) := by
  unfold vX13_make_154
  refine yp13_128 hZ.1 dX13_make_154 zw4248 ?_
  refine s_aload_n hZ.1 dX13_make_157 rfl ?_
  refine yg13_20 dX13_make_158 zw4141 ?_
  exact s_if_eq dX13_make_161 (by decide) (wX13_make_172 hZ j hj) (wX13_make_164 hZ j hj)
noncomputable def vX13_make_150 (j : Nat → rx_K) : rx_K := o_ld rx_isR 0 (o_getf 13 21 ((vX13_make_154 j)))
set_option maxRecDepth 20000 in
theorem wX13_make_150 (hZ : zO b e D A X) (j : Nat → rx_K) (hj : ∀ k pc, [43][k]? = some pc → rx_OK (zV b e D A X) mX13_make 579 pc (j k)) : rx_OK (zV b e D A X) mX13_make 579 150 (vX13_make_150 j) := by
  unfold vX13_make_150
  refine s_aload_n hZ.1 dX13_make_150 rfl ?_
  refine yg13_21 dX13_make_151 zw4142 ?_
  exact (wX13_make_154 hZ j hj)
noncomputable def vX13_make_145 (j : Nat → rx_K) : rx_K := o_const 34359738352 ((vX13_make_154 j))
set_option maxRecDepth 20000 in
theorem wX13_make_145 (hZ : zO b e D A X) (j : Nat → rx_K) (hj : ∀ k pc, [43][k]? = some pc → rx_OK (zV b e D A X) mX13_make 579 pc (j k)) : rx_OK (zV b e D A X) mX13_make 579 145 (vX13_make_145 j) := by
  unfold vX13_make_145
  refine s_bipush dX13_make_145 (by decide +kernel) ?_
  exact s_goto dX13_make_147 (by decide) (wX13_make_154 hZ j hj)
noncomputable def vX13_make_137 (j : Nat → rx_K) : rx_K := o_ld rx_isR 0 (o_ld rx_isR 0 (o_getf 13 20 (o_c1 rx_eq (vX13_make_145 j) (vX13_make_150 j))))
set_option maxRecDepth 20000 in
theorem wX13_make_137 (hZ : zO b e D A X) (j : Nat → rx_K) (hj : ∀ k pc, [43][k]? = some pc → rx_OK (zV b e D A X) mX13_make 579 pc (j k)) : rx_OK (zV b e D A X) mX13_make 579 137 (vX13_make_137 j) := by
  unfold vX13_make_137
  refine s_aload_n hZ.1 dX13_make_137 rfl ?_
  refine s_aload_n hZ.1 dX13_make_138 rfl ?_
  refine yg13_20 dX13_make_139 zw4141 ?_
  exact s_if_ne dX13_make_142 (by decide) (wX13_make_150 hZ j hj) (wX13_make_145 hZ j hj)
noncomputable def vX13_make_133 (j : Nat → rx_K) : rx_K := o_ld rx_isR 0 (o_callV 0 13 FX13_judgeAll ((vX13_make_137 j)))
set_option maxRecDepth 20000 in
theorem wX13_make_133 (hZ : zO b e D A X) (j : Nat → rx_K) (hj : ∀ k pc, [43][k]? = some pc → rx_OK (zV b e D A X) mX13_make 579 pc (j k)) : rx_OK (zV b e D A X) mX13_make 579 133 (vX13_make_133 j) := by
  unfold vX13_make_133
  refine s_aload_n hZ.1 dX13_make_133 rfl ?_
  refine s_callV hZ.1 (Met_X13_judgeAll hZ) (Nat.le_of_ble_eq_true rfl) vy_X13_judgeAll zcl13 zw3162 zw222 (Or.inl zw3160) dX13_make_134 ?_
  exact (wX13_make_137 hZ j hj)
noncomputable def vX13_make_122 (j : Nat → rx_K) : rx_K := o_ld rx_isR 0 (o_callV 0 13 FX13_parse (o_ld rx_isR 0 (o_getf 13 20 (o_c1 rx_eq (vX13_make_133 j) (vX13_make_137 j)))))
set_option maxRecDepth 20000 in
theorem wX13_make_122 (hZ : zO b e D A X) (j : Nat → rx_K) (hj : ∀ k pc, [43][k]? = some pc → rx_OK (zV b e D A X) mX13_make 579 pc (j k)) : rx_OK (zV b e D A X) mX13_make 579 122 (vX13_make_122 j) := by
  unfold vX13_make_122
  refine s_aload_n hZ.1 dX13_make_122 rfl ?_
  refine s_callV hZ.1 (Met_X13_parse hZ) (Nat.le_of_ble_eq_true rfl) vy_X13_parse zcl13 zw2966 zw182 (Or.inl zw2964) dX13_make_123 ?_
  refine s_aload_n hZ.1 dX13_make_126 rfl ?_
  refine yg13_20 dX13_make_127 zw4141 ?_
  exact s_if_ne dX13_make_130 (by decide) (wX13_make_137 hZ j hj) (wX13_make_133 hZ j hj)
noncomputable def vX13_make_79 (j : Nat → rx_K) : rx_K := o_ld rx_isR 0 (o_getf 13 6 (o_ld rx_isR 0 (o_getf 13 19 (o_ld rx_isR 0 (o_getf 13 1 (o_ast 0 (fun v => v) rx_isI (o_ld rx_isR 0 (o_getf 13 7 (o_ld rx_isR 0 (o_getf 13 19 (o_ld rx_isI 1 (o_ast 0 (fun v => v) rx_isI (o_ld rx_isR 0 (o_const 0 (o_putf rx_isI 13 1 (o_ld rx_isR 0 (o_const 0 (o_putf rx_isI 13 20 (o_ld rx_isR 0 (o_const 34359738352 (o_putf rx_isI 13 21 (o_ld rx_isR 0 (o_callV 0 13 FX13_tokenize ((vX13_make_122 j)))))))))))))))))))))))))
set_option maxRecDepth 20000 in
theorem wX13_make_79 (hZ : zO b e D A X) (j : Nat → rx_K) (hj : ∀ k pc, [43][k]? = some pc → rx_OK (zV b e D A X) mX13_make 579 pc (j k)) : rx_OK (zV b e D A X) mX13_make 579 79 (vX13_make_79 j) := by
  unfold vX13_make_79
  refine s_aload_n hZ.1 dX13_make_79 rfl ?_
  refine yg13_6 dX13_make_80 zw4127 ?_
  refine s_aload_n hZ.1 dX13_make_83 rfl ?_
  refine yg13_19 dX13_make_84 zw4140 ?_
  refine s_aload_n hZ.1 dX13_make_87 rfl ?_
  refine yg13_1 dX13_make_88 zw4122 ?_
  refine s_iast hZ.1 (tt := 0) rfl dX13_make_91 ?_
  refine s_aload_n hZ.1 dX13_make_92 rfl ?_
  refine yg13_7 dX13_make_93 zw4128 ?_
  refine s_aload_n hZ.1 dX13_make_96 rfl ?_
  refine yg13_19 dX13_make_97 zw4140 ?_
  refine s_iload_n hZ.1 dX13_make_100 rfl ?_
  refine s_iast hZ.1 (tt := 0) rfl dX13_make_101 ?_
  refine s_aload_n hZ.1 dX13_make_102 rfl ?_
  refine s_iconst dX13_make_103 (by decide +kernel) ?_
  refine yp13_1 hZ.1 dX13_make_104 zw4122 ?_
  refine s_aload_n hZ.1 dX13_make_107 rfl ?_
  refine s_iconst dX13_make_108 (by decide +kernel) ?_
  refine yp13_20 hZ.1 dX13_make_109 zw4141 ?_
  refine s_aload_n hZ.1 dX13_make_112 rfl ?_
  refine s_bipush dX13_make_113 (by decide +kernel) ?_
  refine yp13_21 hZ.1 dX13_make_115 zw4142 ?_
  refine s_aload_n hZ.1 dX13_make_118 rfl ?_
  refine s_callV hZ.1 (Met_X13_tokenize hZ) (Nat.le_of_ble_eq_true rfl) vy_X13_tokenize zcl13 zw2936 zw177 (Or.inl zw2934) dX13_make_119 ?_
  exact (wX13_make_122 hZ j hj)
noncomputable def vX13_make_51 (j : Nat → rx_K) : rx_K := o_ld rx_isR 0 (o_getf 13 5 (o_ld rx_isR 0 (o_getf 13 19 (o_const 32000 (o_bi (fun x y => x * y) (o_ld rx_isI 2 (o_bi (fun x y => x + y) (o_ld rx_isR 0 (o_getf 13 0 (o_ld rx_isI 2 (o_ald 0 (o_ui (fun x => x.toInt8.toInt32) (o_ast 2 rx_nb rx_isB (o_inc 2 (1) ((j 0))))))))))))))))
set_option maxRecDepth 20000 in
theorem wX13_make_51 (hZ : zO b e D A X) (j : Nat → rx_K) (hj : ∀ k pc, [43][k]? = some pc → rx_OK (zV b e D A X) mX13_make 579 pc (j k)) : rx_OK (zV b e D A X) mX13_make 579 51 (vX13_make_51 j) := by
  unfold vX13_make_51
  refine s_aload_n hZ.1 dX13_make_51 rfl ?_
  refine yg13_5 dX13_make_52 zw4126 ?_
  refine s_aload_n hZ.1 dX13_make_55 rfl ?_
  refine yg13_19 dX13_make_56 zw4140 ?_
  refine s_sipush dX13_make_59 (by decide +kernel) ?_
  refine s_imul dX13_make_62 ?_
  refine s_iload_n hZ.1 dX13_make_63 rfl ?_
  refine s_iadd dX13_make_64 ?_
  refine s_aload_n hZ.1 dX13_make_65 rfl ?_
  refine yg13_0 dX13_make_66 zw4121 ?_
  refine s_iload_n hZ.1 dX13_make_69 rfl ?_
  refine s_iald (tt := 0) rfl dX13_make_70 ?_
  refine s_i2b dX13_make_71 ?_
  refine s_bast (tt := 2) rfl dX13_make_72 ?_
  refine s_iinc hZ.1 dX13_make_73 (Nat.le_of_ble_eq_true rfl) ?_
  exact s_goto dX13_make_76 (by decide) (hj 0 43 rfl)
noncomputable def vX13_make_43 (j : Nat → rx_K) : rx_K := o_ld rx_isI 2 (o_ld rx_isR 0 (o_getf 13 1 (o_c2 rx_lt (vX13_make_51 j) (vX13_make_79 j))))
set_option maxRecDepth 20000 in
theorem wX13_make_43 (hZ : zO b e D A X) (j : Nat → rx_K) (hj : ∀ k pc, [43][k]? = some pc → rx_OK (zV b e D A X) mX13_make 579 pc (j k)) : rx_OK (zV b e D A X) mX13_make 579 43 (vX13_make_43 j) := by
  unfold vX13_make_43
  refine s_iload_n hZ.1 dX13_make_43 rfl ?_
  refine s_aload_n hZ.1 dX13_make_44 rfl ?_
  refine yg13_1 dX13_make_45 zw4122 ?_
  exact s_icmp_ge dX13_make_48 (by decide) (wX13_make_79 hZ j hj) (wX13_make_51 hZ j hj)
noncomputable def vX13_make_33 (j : Nat → rx_K) : rx_K := o_ld rx_isR 0 (o_ld rx_isR 0 (o_getf 13 10 (o_putf rx_isI 13 19 (o_const 0 (o_st rx_isI 2 ((vX13_make_43 j)))))))
set_option maxRecDepth 20000 in
theorem wX13_make_33 (hZ : zO b e D A X) (j : Nat → rx_K) (hj : ∀ k pc, [43][k]? = some pc → rx_OK (zV b e D A X) mX13_make 579 pc (j k)) : rx_OK (zV b e D A X) mX13_make 579 33 (vX13_make_33 j) := by
  unfold vX13_make_33
  refine s_aload_n hZ.1 dX13_make_33 rfl ?_
  refine s_aload_n hZ.1 dX13_make_34 rfl ?_
  refine yg13_10 dX13_make_35 zw4131 ?_
  refine yp13_19 hZ.1 dX13_make_38 zw4140 ?_
  refine s_iconst dX13_make_41 (by decide +kernel) ?_
  refine s_istore_n hZ.1 dX13_make_42 rfl (Nat.le_of_ble_eq_true rfl) ?_
  exact (wX13_make_43 hZ j hj)
noncomputable def vX13_make_30 (j : Nat → rx_K) : rx_K := o_const 34359738344 (o_ret1 rx_isI)
set_option maxRecDepth 20000 in
theorem wX13_make_30 (hZ : zO b e D A X) (j : Nat → rx_K) (hj : ∀ k pc, [43][k]? = some pc → rx_OK (zV b e D A X) mX13_make 579 pc (j k)) : rx_OK (zV b e D A X) mX13_make 579 30 (vX13_make_30 j) := by
  unfold vX13_make_30
  refine s_bipush dX13_make_30 (by decide +kernel) ?_
  exact s_iret hZ.1 rfl dX13_make_32
noncomputable def vX13_make_21 (j : Nat → rx_K) : rx_K := o_ld rx_isR 0 (o_getf 13 10 (o_const 128 (o_c2 rx_eq (vX13_make_30 j) (vX13_make_33 j))))
set_option maxRecDepth 20000 in
theorem wX13_make_21 (hZ : zO b e D A X) (j : Nat → rx_K) (hj : ∀ k pc, [43][k]? = some pc → rx_OK (zV b e D A X) mX13_make 579 pc (j k)) : rx_OK (zV b e D A X) mX13_make 579 21 (vX13_make_21 j) := by
  unfold vX13_make_21
  refine s_aload_n hZ.1 dX13_make_21 rfl ?_
  refine yg13_10 dX13_make_22 zw4131 ?_
  refine s_bipush dX13_make_25 (by decide +kernel) ?_
  exact s_icmp_ne dX13_make_27 (by decide) (wX13_make_33 hZ j hj) (wX13_make_30 hZ j hj)
noncomputable def vX13_make_10 (j : Nat → rx_K) : rx_K := o_ld rx_isR 0 (o_getf 13 9 (o_ld rx_isI 1 (o_ald 0 (o_const 64 (o_c2 rx_eq (vX13_make_30 j) (vX13_make_21 j))))))
set_option maxRecDepth 20000 in
theorem wX13_make_10 (hZ : zO b e D A X) (j : Nat → rx_K) (hj : ∀ k pc, [43][k]? = some pc → rx_OK (zV b e D A X) mX13_make 579 pc (j k)) : rx_OK (zV b e D A X) mX13_make 579 10 (vX13_make_10 j) := by
  unfold vX13_make_10
  refine s_aload_n hZ.1 dX13_make_10 rfl ?_
  refine yg13_9 dX13_make_11 zw4130 ?_
  refine s_iload_n hZ.1 dX13_make_14 rfl ?_
  refine s_iald (tt := 0) rfl dX13_make_15 ?_
  refine s_bipush dX13_make_16 (by decide +kernel) ?_
  exact s_icmp_eq dX13_make_18 (by decide) (wX13_make_30 hZ j hj) (wX13_make_21 hZ j hj)
noncomputable def vX13_make_8 (j : Nat → rx_K) : rx_K := o_const 34359738360 (o_ret1 rx_isI)
set_option maxRecDepth 20000 in
theorem wX13_make_8 (hZ : zO b e D A X) (j : Nat → rx_K) (hj : ∀ k pc, [43][k]? = some pc → rx_OK (zV b e D A X) mX13_make 579 pc (j k)) : rx_OK (zV b e D A X) mX13_make 579 8 (vX13_make_8 j) := by
  unfold vX13_make_8
  refine s_iconst dX13_make_8 (by decide +kernel) ?_
  exact s_iret hZ.1 rfl dX13_make_9
noncomputable def vX13_make_0 (j : Nat → rx_K) : rx_K := o_ld rx_isR 0 (o_ld rx_isI 1 (o_callV 1 13 FX13_isLib (o_c1 rx_eq (vX13_make_8 j) (vX13_make_10 j))))
set_option maxRecDepth 20000 in
theorem wX13_make_0 (hZ : zO b e D A X) (j : Nat → rx_K) (hj : ∀ k pc, [43][k]? = some pc → rx_OK (zV b e D A X) mX13_make 579 pc (j k)) : rx_OK (zV b e D A X) mX13_make 579 0 (vX13_make_0 j) := by
  unfold vX13_make_0
  refine s_aload_n hZ.1 dX13_make_0 rfl ?_
  refine s_iload_n hZ.1 dX13_make_1 rfl ?_
  refine s_callV hZ.1 (Met_X13_isLib hZ) (Nat.le_of_ble_eq_true rfl) vy_X13_isLib zcl13 zw2932 zw176 (Or.inl zw2930) dX13_make_2 ?_
  exact s_if_ne dX13_make_5 (by decide) (wX13_make_10 hZ j hj) (wX13_make_8 hZ j hj)
noncomputable def vhX13_make (j : Nat → rx_K) : List rx_K := [vX13_make_43 j]
theorem vlX13_make (hZ : zO b e D A X) : ∀ n k pc, [43][k]? = some pc → rx_OK (zV b e D A X) mX13_make 579 pc (rx_J (vhX13_make) n k) := rx_loop fun j hj k pc h => by
  match k, h with
  | 0, h =>
    have e9 := Option.some.inj (show some 43 = some pc from h)
    subst e9
    exact wX13_make_43 hZ j hj
  | _ + 1, h => exact absurd h (by simp)
noncomputable def FX13_make : List Nat → rx_H → Option (Nat × rx_H) := rx_ent 3 (vX13_make_0 (rx_J (vhX13_make) 4000000000))
theorem Met_X13_make (hZ : zO b e D A X) : rx_Met (zV b e D A X) 579 yX13_make mX13_make (FX13_make) := rx_entry hZ.1 (wX13_make_0 hZ _ (vlX13_make hZ 4000000000)) (by decide +kernel) rfl (fun h => by cases h)
abbrev mX13_slotAt : rx_M := (RX13, cX13_slotAt, 3, (some .int), false)
theorem vy_X13_slotAt : rx_Y (zV b e D A X) yX13_slotAt mX13_slotAt 2 := ⟨zw3586, zw431, by decide, by decide +kernel, by decide +kernel, by decide +kernel⟩
noncomputable def vX13_slotAt_38 : rx_K := o_ret1 rx_isI
set_option maxRecDepth 20000 in
theorem wX13_slotAt_38 (hZ : zO b e D A X) : rx_OK (zV b e D A X) mX13_slotAt 1 38 vX13_slotAt_38 := by
  unfold vX13_slotAt_38
  exact s_iret hZ.1 rfl dX13_slotAt_38
noncomputable def vX13_slotAt_36 : rx_K := o_const 34359738352 (vX13_slotAt_38)
set_option maxRecDepth 20000 in
theorem wX13_slotAt_36 (hZ : zO b e D A X) : rx_OK (zV b e D A X) mX13_slotAt 1 36 vX13_slotAt_36 := by
  unfold vX13_slotAt_36
  refine s_bipush dX13_slotAt_36 (by decide +kernel) ?_
  exact (wX13_slotAt_38 hZ)
noncomputable def vX13_slotAt_22 : rx_K := o_ld rx_isR 0 (o_getf 13 8 (o_const 64 (o_ld rx_isI 1 (o_bi (fun x y => x * y) (o_ld rx_isI 2 (o_bi (fun x y => x + y) (o_ald 0 (vX13_slotAt_38))))))))
set_option maxRecDepth 20000 in
theorem wX13_slotAt_22 (hZ : zO b e D A X) : rx_OK (zV b e D A X) mX13_slotAt 1 22 vX13_slotAt_22 := by
  unfold vX13_slotAt_22
  refine s_aload_n hZ.1 dX13_slotAt_22 rfl ?_
  refine yg13_8 dX13_slotAt_23 zw4129 ?_
  refine s_bipush dX13_slotAt_26 (by decide +kernel) ?_
  refine s_iload_n hZ.1 dX13_slotAt_28 rfl ?_
  refine s_imul dX13_slotAt_29 ?_
  refine s_iload_n hZ.1 dX13_slotAt_30 rfl ?_
  refine s_iadd dX13_slotAt_31 ?_
  refine s_iald (tt := 0) rfl dX13_slotAt_32 ?_
  exact s_goto dX13_slotAt_33 (by decide) (wX13_slotAt_38 hZ)
noncomputable def vX13_slotAt_12 : rx_K := o_ld rx_isI 2 (o_ld rx_isR 0 (o_getf 13 9 (o_ld rx_isI 1 (o_ald 0 (o_c2 rx_lt vX13_slotAt_22 vX13_slotAt_36)))))
set_option maxRecDepth 20000 in
theorem wX13_slotAt_12 (hZ : zO b e D A X) : rx_OK (zV b e D A X) mX13_slotAt 1 12 vX13_slotAt_12 := by
  unfold vX13_slotAt_12
  refine s_iload_n hZ.1 dX13_slotAt_12 rfl ?_
  refine s_aload_n hZ.1 dX13_slotAt_13 rfl ?_
  refine yg13_9 dX13_slotAt_14 zw4130 ?_
  refine s_iload_n hZ.1 dX13_slotAt_17 rfl ?_
  refine s_iald (tt := 0) rfl dX13_slotAt_18 ?_
  exact s_icmp_ge dX13_slotAt_19 (by decide) (wX13_slotAt_36 hZ) (wX13_slotAt_22 hZ)
noncomputable def vX13_slotAt_8 : rx_K := o_ld rx_isI 2 (o_c1 rx_lt vX13_slotAt_36 vX13_slotAt_12)
set_option maxRecDepth 20000 in
theorem wX13_slotAt_8 (hZ : zO b e D A X) : rx_OK (zV b e D A X) mX13_slotAt 1 8 vX13_slotAt_8 := by
  unfold vX13_slotAt_8
  refine s_iload_n hZ.1 dX13_slotAt_8 rfl ?_
  exact s_if_lt dX13_slotAt_9 (by decide) (wX13_slotAt_36 hZ) (wX13_slotAt_12 hZ)
noncomputable def vX13_slotAt_0 : rx_K := o_ld rx_isR 0 (o_ld rx_isI 1 (o_callV 1 13 FX13_isLib (o_c1 rx_eq vX13_slotAt_36 vX13_slotAt_8)))
set_option maxRecDepth 20000 in
theorem wX13_slotAt_0 (hZ : zO b e D A X) : rx_OK (zV b e D A X) mX13_slotAt 1 0 vX13_slotAt_0 := by
  unfold vX13_slotAt_0
  refine s_aload_n hZ.1 dX13_slotAt_0 rfl ?_
  refine s_iload_n hZ.1 dX13_slotAt_1 rfl ?_
  refine s_callV hZ.1 (Met_X13_isLib hZ) (Nat.le_of_ble_eq_true rfl) vy_X13_isLib zcl13 zw2932 zw176 (Or.inl zw2930) dX13_slotAt_2 ?_
  exact s_if_eq dX13_slotAt_5 (by decide) (wX13_slotAt_36 hZ) (wX13_slotAt_8 hZ)
noncomputable def FX13_slotAt : List Nat → rx_H → Option (Nat × rx_H) := rx_ent 3 vX13_slotAt_0
theorem Met_X13_slotAt (hZ : zO b e D A X) : rx_Met (zV b e D A X) 1 yX13_slotAt mX13_slotAt (FX13_slotAt) := rx_entry hZ.1 (wX13_slotAt_0 hZ) (by decide +kernel) rfl (fun h => by cases h)
abbrev mX13_place : rx_M := (RX13, cX13_place, 1, (some .int), false)
theorem vy_X13_place : rx_Y (zV b e D A X) yX13_place mX13_place 0 := ⟨zw3574, zw431, by decide, by decide +kernel, by decide +kernel, by decide +kernel⟩
noncomputable def vX13_place_0 : rx_K := o_ld rx_isR 0 (o_getf 13 128 (o_ret1 rx_isI))
set_option maxRecDepth 20000 in
theorem wX13_place_0 (hZ : zO b e D A X) : rx_OK (zV b e D A X) mX13_place 0 0 vX13_place_0 := by
  unfold vX13_place_0
  refine s_aload_n hZ.1 dX13_place_0 rfl ?_
  refine yg13_128 dX13_place_1 zw4248 ?_
  exact s_iret hZ.1 rfl dX13_place_4
noncomputable def FX13_place : List Nat → rx_H → Option (Nat × rx_H) := rx_ent 1 vX13_place_0
theorem Met_X13_place (hZ : zO b e D A X) : rx_Met (zV b e D A X) 0 yX13_place mX13_place (FX13_place) := rx_entry hZ.1 (wX13_place_0 hZ) (by decide +kernel) rfl (fun h => by cases h)
abbrev mX13_builds : rx_M := (RX13, cX13_builds, 2, (some .int), false)
theorem vy_X13_builds : rx_Y (zV b e D A X) yX13_builds mX13_builds 1 := ⟨zw3578, zw431, by decide, by decide +kernel, by decide +kernel, by decide +kernel⟩
noncomputable def vX13_builds_18 : rx_K := o_ret1 rx_isI
set_option maxRecDepth 20000 in
theorem wX13_builds_18 (hZ : zO b e D A X) : rx_OK (zV b e D A X) mX13_builds 1 18 vX13_builds_18 := by
  unfold vX13_builds_18
  exact s_iret hZ.1 rfl dX13_builds_18
noncomputable def vX13_builds_17 : rx_K := o_const 34359738360 (vX13_builds_18)
set_option maxRecDepth 20000 in
theorem wX13_builds_17 (hZ : zO b e D A X) : rx_OK (zV b e D A X) mX13_builds 1 17 vX13_builds_17 := by
  unfold vX13_builds_17
  refine s_iconst dX13_builds_17 (by decide +kernel) ?_
  exact (wX13_builds_18 hZ)
noncomputable def vX13_builds_8 : rx_K := o_ld rx_isR 0 (o_getf 13 9 (o_ld rx_isI 1 (o_ald 0 (vX13_builds_18))))
set_option maxRecDepth 20000 in
theorem wX13_builds_8 (hZ : zO b e D A X) : rx_OK (zV b e D A X) mX13_builds 1 8 vX13_builds_8 := by
  unfold vX13_builds_8
  refine s_aload_n hZ.1 dX13_builds_8 rfl ?_
  refine yg13_9 dX13_builds_9 zw4130 ?_
  refine s_iload_n hZ.1 dX13_builds_12 rfl ?_
  refine s_iald (tt := 0) rfl dX13_builds_13 ?_
  exact s_goto dX13_builds_14 (by decide) (wX13_builds_18 hZ)
noncomputable def vX13_builds_0 : rx_K := o_ld rx_isR 0 (o_ld rx_isI 1 (o_callV 1 13 FX13_isLib (o_c1 rx_eq vX13_builds_17 vX13_builds_8)))
set_option maxRecDepth 20000 in
theorem wX13_builds_0 (hZ : zO b e D A X) : rx_OK (zV b e D A X) mX13_builds 1 0 vX13_builds_0 := by
  unfold vX13_builds_0
  refine s_aload_n hZ.1 dX13_builds_0 rfl ?_
  refine s_iload_n hZ.1 dX13_builds_1 rfl ?_
  refine s_callV hZ.1 (Met_X13_isLib hZ) (Nat.le_of_ble_eq_true rfl) vy_X13_isLib zcl13 zw2932 zw176 (Or.inl zw2930) dX13_builds_2 ?_
  exact s_if_eq dX13_builds_5 (by decide) (wX13_builds_17 hZ) (wX13_builds_8 hZ)
noncomputable def FX13_builds : List Nat → rx_H → Option (Nat × rx_H) := rx_ent 2 vX13_builds_0
theorem Met_X13_builds (hZ : zO b e D A X) : rx_Met (zV b e D A X) 1 yX13_builds mX13_builds (FX13_builds) := rx_entry hZ.1 (wX13_builds_0 hZ) (by decide +kernel) rfl (fun h => by cases h)
abbrev mX13_text : rx_M := (RX13, cX13_text, 5, (some .int), false)
theorem vy_X13_text : rx_Y (zV b e D A X) yX13_text mX13_text 2 := ⟨zw3582, zw431, by decide, by decide +kernel, by decide +kernel, by decide +kernel⟩
noncomputable def vX13_text_67 (j : Nat → rx_K) : rx_K := o_ld rx_isR 0 (o_getf 13 1 (o_ret1 rx_isI))
set_option maxRecDepth 20000 in
theorem wX13_text_67 (hZ : zO b e D A X) (j : Nat → rx_K) (hj : ∀ k pc, [28][k]? = some pc → rx_OK (zV b e D A X) mX13_text 2 pc (j k)) : rx_OK (zV b e D A X) mX13_text 2 67 (vX13_text_67 j) := by
  unfold vX13_text_67
  refine s_aload_n hZ.1 dX13_text_67 rfl ?_
  refine yg13_1 dX13_text_68 zw4122 ?_
  exact s_iret hZ.1 rfl dX13_text_71
noncomputable def vX13_text_37 (j : Nat → rx_K) : rx_K := o_ld rx_isR 0 (o_getf 13 0 (o_ld rx_isI 4 (o_ld rx_isR 0 (o_getf 13 5 (o_ld rx_isI 3 (o_const 32000 (o_bi (fun x y => x * y) (o_ld rx_isI 4 (o_bi (fun x y => x + y) (o_ald 2 (o_const 2040 (o_bi (fun x y => x &&& y) (o_ast 0 (fun v => v) rx_isI (o_inc 4 (1) ((j 0))))))))))))))))
set_option maxRecDepth 20000 in
theorem wX13_text_37 (hZ : zO b e D A X) (j : Nat → rx_K) (hj : ∀ k pc, [28][k]? = some pc → rx_OK (zV b e D A X) mX13_text 2 pc (j k)) : rx_OK (zV b e D A X) mX13_text 2 37 (vX13_text_37 j) := by
  unfold vX13_text_37
  refine s_aload_n hZ.1 dX13_text_37 rfl ?_
  refine yg13_0 dX13_text_38 zw4121 ?_
  refine s_iload hZ.1 dX13_text_41 ?_
  refine s_aload_n hZ.1 dX13_text_43 rfl ?_
  refine yg13_5 dX13_text_44 zw4126 ?_
  refine s_iload_n hZ.1 dX13_text_47 rfl ?_
  refine s_sipush dX13_text_48 (by decide +kernel) ?_
  refine s_imul dX13_text_51 ?_
  refine s_iload hZ.1 dX13_text_52 ?_
  refine s_iadd dX13_text_54 ?_
  refine s_bald (tt := 2) rfl dX13_text_55 ?_
  refine s_sipush dX13_text_56 (by decide +kernel) ?_
  refine s_iand dX13_text_59 ?_
  refine s_iast hZ.1 (tt := 0) rfl dX13_text_60 ?_
  refine s_iinc hZ.1 dX13_text_61 (Nat.le_of_ble_eq_true rfl) ?_
  exact s_goto dX13_text_64 (by decide) (hj 0 28 rfl)
noncomputable def vX13_text_28 (j : Nat → rx_K) : rx_K := o_ld rx_isI 4 (o_ld rx_isR 0 (o_getf 13 1 (o_c2 rx_lt (vX13_text_37 j) (vX13_text_67 j))))
set_option maxRecDepth 20000 in
theorem wX13_text_28 (hZ : zO b e D A X) (j : Nat → rx_K) (hj : ∀ k pc, [28][k]? = some pc → rx_OK (zV b e D A X) mX13_text 2 pc (j k)) : rx_OK (zV b e D A X) mX13_text 2 28 (vX13_text_28 j) := by
  unfold vX13_text_28
  refine s_iload hZ.1 dX13_text_28 ?_
  refine s_aload_n hZ.1 dX13_text_30 rfl ?_
  refine yg13_1 dX13_text_31 zw4122 ?_
  exact s_icmp_ge dX13_text_34 (by decide) (wX13_text_67 hZ j hj) (wX13_text_37 hZ j hj)
noncomputable def vX13_text_15 (j : Nat → rx_K) : rx_K := o_ld rx_isR 0 (o_ld rx_isR 0 (o_getf 13 6 (o_ld rx_isI 3 (o_ald 0 (o_putf rx_isI 13 1 (o_const 0 (o_st rx_isI 4 ((vX13_text_28 j)))))))))
set_option maxRecDepth 20000 in
theorem wX13_text_15 (hZ : zO b e D A X) (j : Nat → rx_K) (hj : ∀ k pc, [28][k]? = some pc → rx_OK (zV b e D A X) mX13_text 2 pc (j k)) : rx_OK (zV b e D A X) mX13_text 2 15 (vX13_text_15 j) := by
  unfold vX13_text_15
  refine s_aload_n hZ.1 dX13_text_15 rfl ?_
  refine s_aload_n hZ.1 dX13_text_16 rfl ?_
  refine yg13_6 dX13_text_17 zw4127 ?_
  refine s_iload_n hZ.1 dX13_text_20 rfl ?_
  refine s_iald (tt := 0) rfl dX13_text_21 ?_
  refine yp13_1 hZ.1 dX13_text_22 zw4122 ?_
  refine s_iconst dX13_text_25 (by decide +kernel) ?_
  refine s_istore hZ.1 dX13_text_26 (Nat.le_of_ble_eq_true rfl) ?_
  exact (wX13_text_28 hZ j hj)
noncomputable def vX13_text_13 (j : Nat → rx_K) : rx_K := o_const 34359738360 (o_ret1 rx_isI)
set_option maxRecDepth 20000 in
theorem wX13_text_13 (hZ : zO b e D A X) (j : Nat → rx_K) (hj : ∀ k pc, [28][k]? = some pc → rx_OK (zV b e D A X) mX13_text 2 pc (j k)) : rx_OK (zV b e D A X) mX13_text 2 13 (vX13_text_13 j) := by
  unfold vX13_text_13
  refine s_iconst dX13_text_13 (by decide +kernel) ?_
  exact s_iret hZ.1 rfl dX13_text_14
noncomputable def vX13_text_0 (j : Nat → rx_K) : rx_K := o_ld rx_isR 0 (o_ld rx_isI 1 (o_ld rx_isI 2 (o_callV 2 13 FX13_slotAt (o_st rx_isI 3 (o_ld rx_isI 3 (o_const 34359738352 (o_c2 rx_eq (vX13_text_13 j) (vX13_text_15 j))))))))
set_option maxRecDepth 20000 in
theorem wX13_text_0 (hZ : zO b e D A X) (j : Nat → rx_K) (hj : ∀ k pc, [28][k]? = some pc → rx_OK (zV b e D A X) mX13_text 2 pc (j k)) : rx_OK (zV b e D A X) mX13_text 2 0 (vX13_text_0 j) := by
  unfold vX13_text_0
  refine s_aload_n hZ.1 dX13_text_0 rfl ?_
  refine s_iload_n hZ.1 dX13_text_1 rfl ?_
  refine s_iload_n hZ.1 dX13_text_2 rfl ?_
  refine s_callV hZ.1 (Met_X13_slotAt hZ) (Nat.le_of_ble_eq_true rfl) vy_X13_slotAt zcl13 zw3585 zw317 (Or.inl zw3583) dX13_text_3 ?_
  refine s_istore_n hZ.1 dX13_text_6 rfl (Nat.le_of_ble_eq_true rfl) ?_
  refine s_iload_n hZ.1 dX13_text_7 rfl ?_
  refine s_bipush dX13_text_8 (by decide +kernel) ?_
  exact s_icmp_ne dX13_text_10 (by decide) (wX13_text_15 hZ j hj) (wX13_text_13 hZ j hj)
noncomputable def vhX13_text (j : Nat → rx_K) : List rx_K := [vX13_text_28 j]
theorem vlX13_text (hZ : zO b e D A X) : ∀ n k pc, [28][k]? = some pc → rx_OK (zV b e D A X) mX13_text 2 pc (rx_J (vhX13_text) n k) := rx_loop fun j hj k pc h => by
  match k, h with
  | 0, h =>
    have e9 := Option.some.inj (show some 28 = some pc from h)
    subst e9
    exact wX13_text_28 hZ j hj
  | _ + 1, h => exact absurd h (by simp)
noncomputable def FX13_text : List Nat → rx_H → Option (Nat × rx_H) := rx_ent 5 (vX13_text_0 (rx_J (vhX13_text) 4000000000))
theorem Met_X13_text (hZ : zO b e D A X) : rx_Met (zV b e D A X) 2 yX13_text mX13_text (FX13_text) := rx_entry hZ.1 (wX13_text_0 hZ _ (vlX13_text hZ 4000000000)) (by decide +kernel) rfl (fun h => by cases h)
abbrev mX13_buildOf : rx_M := (RX13, cX13_buildOf, 3, (some .int), false)
theorem vy_X13_buildOf : rx_Y (zV b e D A X) yX13_buildOf mX13_buildOf 1 := ⟨zw3598, zw431, by decide, by decide +kernel, by decide +kernel, by decide +kernel⟩
noncomputable def vX13_buildOf_28 (j : Nat → rx_K) : rx_K := o_ld rx_isI 2 (o_ret1 rx_isI)
set_option maxRecDepth 20000 in
theorem wX13_buildOf_28 (hZ : zO b e D A X) (j : Nat → rx_K) (hj : ∀ k pc, [2][k]? = some pc → rx_OK (zV b e D A X) mX13_buildOf 0 pc (j k)) : rx_OK (zV b e D A X) mX13_buildOf 0 28 (vX13_buildOf_28 j) := by
  unfold vX13_buildOf_28
  refine s_iload_n hZ.1 dX13_buildOf_28 rfl ?_
  exact s_iret hZ.1 rfl dX13_buildOf_29
noncomputable def vX13_buildOf_22 (j : Nat → rx_K) : rx_K := o_inc 2 (1) ((j 0))
set_option maxRecDepth 20000 in
theorem wX13_buildOf_22 (hZ : zO b e D A X) (j : Nat → rx_K) (hj : ∀ k pc, [2][k]? = some pc → rx_OK (zV b e D A X) mX13_buildOf 0 pc (j k)) : rx_OK (zV b e D A X) mX13_buildOf 0 22 (vX13_buildOf_22 j) := by
  unfold vX13_buildOf_22
  refine s_iinc hZ.1 dX13_buildOf_22 (Nat.le_of_ble_eq_true rfl) ?_
  exact s_goto dX13_buildOf_25 (by decide) (hj 0 2 rfl)
noncomputable def vX13_buildOf_2 (j : Nat → rx_K) : rx_K := o_ld rx_isR 0 (o_getf 13 8 (o_const 64 (o_ld rx_isR 0 (o_getf 13 7 (o_ld rx_isI 1 (o_ald 0 (o_bi (fun x y => x * y) (o_ld rx_isI 2 (o_bi (fun x y => x + y) (o_ald 0 (o_ld rx_isI 1 (o_c2 rx_eq (vX13_buildOf_28 j) (vX13_buildOf_22 j)))))))))))))
set_option maxRecDepth 20000 in
theorem wX13_buildOf_2 (hZ : zO b e D A X) (j : Nat → rx_K) (hj : ∀ k pc, [2][k]? = some pc → rx_OK (zV b e D A X) mX13_buildOf 0 pc (j k)) : rx_OK (zV b e D A X) mX13_buildOf 0 2 (vX13_buildOf_2 j) := by
  unfold vX13_buildOf_2
  refine s_aload_n hZ.1 dX13_buildOf_2 rfl ?_
  refine yg13_8 dX13_buildOf_3 zw4129 ?_
  refine s_bipush dX13_buildOf_6 (by decide +kernel) ?_
  refine s_aload_n hZ.1 dX13_buildOf_8 rfl ?_
  refine yg13_7 dX13_buildOf_9 zw4128 ?_
  refine s_iload_n hZ.1 dX13_buildOf_12 rfl ?_
  refine s_iald (tt := 0) rfl dX13_buildOf_13 ?_
  refine s_imul dX13_buildOf_14 ?_
  refine s_iload_n hZ.1 dX13_buildOf_15 rfl ?_
  refine s_iadd dX13_buildOf_16 ?_
  refine s_iald (tt := 0) rfl dX13_buildOf_17 ?_
  refine s_iload_n hZ.1 dX13_buildOf_18 rfl ?_
  exact s_icmp_eq dX13_buildOf_19 (by decide) (wX13_buildOf_28 hZ j hj) (wX13_buildOf_22 hZ j hj)
noncomputable def vX13_buildOf_0 (j : Nat → rx_K) : rx_K := o_const 0 (o_st rx_isI 2 ((vX13_buildOf_2 j)))
set_option maxRecDepth 20000 in
theorem wX13_buildOf_0 (hZ : zO b e D A X) (j : Nat → rx_K) (hj : ∀ k pc, [2][k]? = some pc → rx_OK (zV b e D A X) mX13_buildOf 0 pc (j k)) : rx_OK (zV b e D A X) mX13_buildOf 0 0 (vX13_buildOf_0 j) := by
  unfold vX13_buildOf_0
  refine s_iconst dX13_buildOf_0 (by decide +kernel) ?_
  refine s_istore_n hZ.1 dX13_buildOf_1 rfl (Nat.le_of_ble_eq_true rfl) ?_
  exact (wX13_buildOf_2 hZ j hj)
noncomputable def vhX13_buildOf (j : Nat → rx_K) : List rx_K := [vX13_buildOf_2 j]
theorem vlX13_buildOf (hZ : zO b e D A X) : ∀ n k pc, [2][k]? = some pc → rx_OK (zV b e D A X) mX13_buildOf 0 pc (rx_J (vhX13_buildOf) n k) := rx_loop fun j hj k pc h => by
  match k, h with
  | 0, h =>
    have e9 := Option.some.inj (show some 2 = some pc from h)
    subst e9
    exact wX13_buildOf_2 hZ j hj
  | _ + 1, h => exact absurd h (by simp)
noncomputable def FX13_buildOf : List Nat → rx_H → Option (Nat × rx_H) := rx_ent 3 (vX13_buildOf_0 (rx_J (vhX13_buildOf) 4000000000))
theorem Met_X13_buildOf (hZ : zO b e D A X) : rx_Met (zV b e D A X) 0 yX13_buildOf mX13_buildOf (FX13_buildOf) := rx_entry hZ.1 (wX13_buildOf_0 hZ _ (vlX13_buildOf hZ 4000000000)) (by decide +kernel) rfl (fun h => by cases h)
abbrev mX13_picked : rx_M := (RX13, cX13_picked, 2, (some .int), false)
theorem vy_X13_picked : rx_Y (zV b e D A X) yX13_picked mX13_picked 1 := ⟨zw3594, zw431, by decide, by decide +kernel, by decide +kernel, by decide +kernel⟩
noncomputable def vX13_picked_38 : rx_K := o_ret1 rx_isI
set_option maxRecDepth 20000 in
theorem wX13_picked_38 (hZ : zO b e D A X) : rx_OK (zV b e D A X) mX13_picked 1 38 vX13_picked_38 := by
  unfold vX13_picked_38
  exact s_iret hZ.1 rfl dX13_picked_38
noncomputable def vX13_picked_28 : rx_K := o_ld rx_isR 0 (o_ld rx_isR 0 (o_getf 13 90 (o_ld rx_isI 1 (o_ald 0 (o_callV 1 13 FX13_buildOf (vX13_picked_38))))))
set_option maxRecDepth 20000 in
theorem wX13_picked_28 (hZ : zO b e D A X) : rx_OK (zV b e D A X) mX13_picked 1 28 vX13_picked_28 := by
  unfold vX13_picked_28
  refine s_aload_n hZ.1 dX13_picked_28 rfl ?_
  refine s_aload_n hZ.1 dX13_picked_29 rfl ?_
  refine yg13_90 dX13_picked_30 zw4211 ?_
  refine s_iload_n hZ.1 dX13_picked_33 rfl ?_
  refine s_iald (tt := 0) rfl dX13_picked_34 ?_
  refine s_callV hZ.1 (Met_X13_buildOf hZ) (Nat.le_of_ble_eq_true rfl) vy_X13_buildOf zcl13 zw3597 zw318 (Or.inl zw3595) dX13_picked_35 ?_
  exact (wX13_picked_38 hZ)
noncomputable def vX13_picked_23 : rx_K := o_const 34359738352 (vX13_picked_38)
set_option maxRecDepth 20000 in
theorem wX13_picked_23 (hZ : zO b e D A X) : rx_OK (zV b e D A X) mX13_picked 1 23 vX13_picked_23 := by
  unfold vX13_picked_23
  refine s_bipush dX13_picked_23 (by decide +kernel) ?_
  exact s_goto dX13_picked_25 (by decide) (wX13_picked_38 hZ)
noncomputable def vX13_picked_12 : rx_K := o_ld rx_isR 0 (o_getf 13 90 (o_ld rx_isI 1 (o_ald 0 (o_const 34359738352 (o_c2 rx_eq vX13_picked_23 vX13_picked_28)))))
set_option maxRecDepth 20000 in
theorem wX13_picked_12 (hZ : zO b e D A X) : rx_OK (zV b e D A X) mX13_picked 1 12 vX13_picked_12 := by
  unfold vX13_picked_12
  refine s_aload_n hZ.1 dX13_picked_12 rfl ?_
  refine yg13_90 dX13_picked_13 zw4211 ?_
  refine s_iload_n hZ.1 dX13_picked_16 rfl ?_
  refine s_iald (tt := 0) rfl dX13_picked_17 ?_
  refine s_bipush dX13_picked_18 (by decide +kernel) ?_
  exact s_icmp_ne dX13_picked_20 (by decide) (wX13_picked_28 hZ) (wX13_picked_23 hZ)
noncomputable def vX13_picked_8 : rx_K := o_const 34359738360 (vX13_picked_38)
set_option maxRecDepth 20000 in
theorem wX13_picked_8 (hZ : zO b e D A X) : rx_OK (zV b e D A X) mX13_picked 1 8 vX13_picked_8 := by
  unfold vX13_picked_8
  refine s_iconst dX13_picked_8 (by decide +kernel) ?_
  exact s_goto dX13_picked_9 (by decide) (wX13_picked_38 hZ)
noncomputable def vX13_picked_0 : rx_K := o_ld rx_isR 0 (o_ld rx_isI 1 (o_callV 1 13 FX13_isLib (o_c1 rx_eq vX13_picked_8 vX13_picked_12)))
set_option maxRecDepth 20000 in
theorem wX13_picked_0 (hZ : zO b e D A X) : rx_OK (zV b e D A X) mX13_picked 1 0 vX13_picked_0 := by
  unfold vX13_picked_0
  refine s_aload_n hZ.1 dX13_picked_0 rfl ?_
  refine s_iload_n hZ.1 dX13_picked_1 rfl ?_
  refine s_callV hZ.1 (Met_X13_isLib hZ) (Nat.le_of_ble_eq_true rfl) vy_X13_isLib zcl13 zw2932 zw176 (Or.inl zw2930) dX13_picked_2 ?_
  exact s_if_ne dX13_picked_5 (by decide) (wX13_picked_12 hZ) (wX13_picked_8 hZ)
noncomputable def FX13_picked : List Nat → rx_H → Option (Nat × rx_H) := rx_ent 2 vX13_picked_0
theorem Met_X13_picked (hZ : zO b e D A X) : rx_Met (zV b e D A X) 1 yX13_picked mX13_picked (FX13_picked) := rx_entry hZ.1 (wX13_picked_0 hZ) (by decide +kernel) rfl (fun h => by cases h)
abbrev mX13_clearSet : rx_M := (RX13, cX13_clearSet, 3, none, false)
theorem vy_X13_clearSet : rx_Y (zV b e D A X) yX13_clearSet mX13_clearSet 1 := ⟨zw3614, zw431, by decide, by decide +kernel, by decide +kernel, by decide +kernel⟩
noncomputable def vX13_clearSet_41 (j : Nat → rx_K) : rx_K := o_ret0
set_option maxRecDepth 20000 in
theorem wX13_clearSet_41 (hZ : zO b e D A X) (j : Nat → rx_K) (hj : ∀ k pc, [2][k]? = some pc → rx_OK (zV b e D A X) mX13_clearSet 0 pc (j k)) : rx_OK (zV b e D A X) mX13_clearSet 0 41 (vX13_clearSet_41 j) := by
  unfold vX13_clearSet_41
  exact s_vret rfl dX13_clearSet_41
noncomputable def vX13_clearSet_25 (j : Nat → rx_K) : rx_K := o_ast 0 (fun v => v) rx_isI (o_ld rx_isR 0 (o_getf 13 133 (o_ld rx_isI 1 (o_ld rx_isI 2 (o_bi (fun x y => x + y) (o_const 0 (o_ast 0 (fun v => v) rx_isI (o_inc 2 (1) ((j 0))))))))))
set_option maxRecDepth 20000 in
theorem wX13_clearSet_25 (hZ : zO b e D A X) (j : Nat → rx_K) (hj : ∀ k pc, [2][k]? = some pc → rx_OK (zV b e D A X) mX13_clearSet 0 pc (j k)) : rx_OK (zV b e D A X) mX13_clearSet 0 25 (vX13_clearSet_25 j) := by
  unfold vX13_clearSet_25
  refine s_iast hZ.1 (tt := 0) rfl dX13_clearSet_25 ?_
  refine s_aload_n hZ.1 dX13_clearSet_26 rfl ?_
  refine yg13_133 dX13_clearSet_27 zw4253 ?_
  refine s_iload_n hZ.1 dX13_clearSet_30 rfl ?_
  refine s_iload_n hZ.1 dX13_clearSet_31 rfl ?_
  refine s_iadd dX13_clearSet_32 ?_
  refine s_iconst dX13_clearSet_33 (by decide +kernel) ?_
  refine s_iast hZ.1 (tt := 0) rfl dX13_clearSet_34 ?_
  refine s_iinc hZ.1 dX13_clearSet_35 (Nat.le_of_ble_eq_true rfl) ?_
  exact s_goto dX13_clearSet_38 (by decide) (hj 0 2 rfl)
noncomputable def vX13_clearSet_24 (j : Nat → rx_K) : rx_K := o_const 0 ((vX13_clearSet_25 j))
set_option maxRecDepth 20000 in
theorem wX13_clearSet_24 (hZ : zO b e D A X) (j : Nat → rx_K) (hj : ∀ k pc, [2][k]? = some pc → rx_OK (zV b e D A X) mX13_clearSet 0 pc (j k)) : rx_OK (zV b e D A X) mX13_clearSet 0 24 (vX13_clearSet_24 j) := by
  unfold vX13_clearSet_24
  refine s_iconst dX13_clearSet_24 (by decide +kernel) ?_
  exact (wX13_clearSet_25 hZ j hj)
noncomputable def vX13_clearSet_20 (j : Nat → rx_K) : rx_K := o_const 32 ((vX13_clearSet_25 j))
set_option maxRecDepth 20000 in
theorem wX13_clearSet_20 (hZ : zO b e D A X) (j : Nat → rx_K) (hj : ∀ k pc, [2][k]? = some pc → rx_OK (zV b e D A X) mX13_clearSet 0 pc (j k)) : rx_OK (zV b e D A X) mX13_clearSet 0 20 (vX13_clearSet_20 j) := by
  unfold vX13_clearSet_20
  refine s_iconst dX13_clearSet_20 (by decide +kernel) ?_
  exact s_goto dX13_clearSet_21 (by decide) (wX13_clearSet_25 hZ j hj)
noncomputable def vX13_clearSet_8 (j : Nat → rx_K) : rx_K := o_ld rx_isR 0 (o_getf 13 132 (o_ld rx_isI 1 (o_ld rx_isI 2 (o_bi (fun x y => x + y) (o_ld rx_isI 2 (o_const 16 (o_c2 rx_lt (vX13_clearSet_20 j) (vX13_clearSet_24 j))))))))
set_option maxRecDepth 20000 in
theorem wX13_clearSet_8 (hZ : zO b e D A X) (j : Nat → rx_K) (hj : ∀ k pc, [2][k]? = some pc → rx_OK (zV b e D A X) mX13_clearSet 0 pc (j k)) : rx_OK (zV b e D A X) mX13_clearSet 0 8 (vX13_clearSet_8 j) := by
  unfold vX13_clearSet_8
  refine s_aload_n hZ.1 dX13_clearSet_8 rfl ?_
  refine yg13_132 dX13_clearSet_9 zw4252 ?_
  refine s_iload_n hZ.1 dX13_clearSet_12 rfl ?_
  refine s_iload_n hZ.1 dX13_clearSet_13 rfl ?_
  refine s_iadd dX13_clearSet_14 ?_
  refine s_iload_n hZ.1 dX13_clearSet_15 rfl ?_
  refine s_iconst dX13_clearSet_16 (by decide +kernel) ?_
  exact s_icmp_ge dX13_clearSet_17 (by decide) (wX13_clearSet_24 hZ j hj) (wX13_clearSet_20 hZ j hj)
noncomputable def vX13_clearSet_2 (j : Nat → rx_K) : rx_K := o_ld rx_isI 2 (o_const 512 (o_c2 rx_lt (vX13_clearSet_8 j) (vX13_clearSet_41 j)))
set_option maxRecDepth 20000 in
theorem wX13_clearSet_2 (hZ : zO b e D A X) (j : Nat → rx_K) (hj : ∀ k pc, [2][k]? = some pc → rx_OK (zV b e D A X) mX13_clearSet 0 pc (j k)) : rx_OK (zV b e D A X) mX13_clearSet 0 2 (vX13_clearSet_2 j) := by
  unfold vX13_clearSet_2
  refine s_iload_n hZ.1 dX13_clearSet_2 rfl ?_
  refine s_bipush dX13_clearSet_3 (by decide +kernel) ?_
  exact s_icmp_ge dX13_clearSet_5 (by decide) (wX13_clearSet_41 hZ j hj) (wX13_clearSet_8 hZ j hj)
noncomputable def vX13_clearSet_0 (j : Nat → rx_K) : rx_K := o_const 0 (o_st rx_isI 2 ((vX13_clearSet_2 j)))
set_option maxRecDepth 20000 in
theorem wX13_clearSet_0 (hZ : zO b e D A X) (j : Nat → rx_K) (hj : ∀ k pc, [2][k]? = some pc → rx_OK (zV b e D A X) mX13_clearSet 0 pc (j k)) : rx_OK (zV b e D A X) mX13_clearSet 0 0 (vX13_clearSet_0 j) := by
  unfold vX13_clearSet_0
  refine s_iconst dX13_clearSet_0 (by decide +kernel) ?_
  refine s_istore_n hZ.1 dX13_clearSet_1 rfl (Nat.le_of_ble_eq_true rfl) ?_
  exact (wX13_clearSet_2 hZ j hj)
noncomputable def vhX13_clearSet (j : Nat → rx_K) : List rx_K := [vX13_clearSet_2 j]
theorem vlX13_clearSet (hZ : zO b e D A X) : ∀ n k pc, [2][k]? = some pc → rx_OK (zV b e D A X) mX13_clearSet 0 pc (rx_J (vhX13_clearSet) n k) := rx_loop fun j hj k pc h => by
  match k, h with
  | 0, h =>
    have e9 := Option.some.inj (show some 2 = some pc from h)
    subst e9
    exact wX13_clearSet_2 hZ j hj
  | _ + 1, h => exact absurd h (by simp)
noncomputable def FX13_clearSet : List Nat → rx_H → Option (Nat × rx_H) := rx_ent 3 (vX13_clearSet_0 (rx_J (vhX13_clearSet) 4000000000))
theorem Met_X13_clearSet (hZ : zO b e D A X) : rx_Met (zV b e D A X) 0 yX13_clearSet mX13_clearSet (FX13_clearSet) := rx_entry hZ.1 (wX13_clearSet_0 hZ _ (vlX13_clearSet hZ 4000000000)) (by decide +kernel) rfl (fun h => by cases h)
abbrev mX13_intoWorld : rx_M := (RX13, cX13_intoWorld, 2, none, false)
theorem vy_X13_intoWorld : rx_Y (zV b e D A X) yX13_intoWorld mX13_intoWorld 1 := ⟨zw3610, zw431, by decide, by decide +kernel, by decide +kernel, by decide +kernel⟩
noncomputable def vX13_intoWorld_0 : rx_K := o_ld rx_isR 0 (o_getf 13 130 (o_ld rx_isR 0 (o_getf 13 129 (o_ld rx_isI 1 (o_ast 0 (fun v => v) rx_isI (o_ld rx_isR 0 (o_getf 13 131 (o_ld rx_isI 1 (o_ld rx_isR 0 (o_getf 13 129 (o_ast 0 (fun v => v) rx_isI (o_ld rx_isR 0 (o_dup (o_getf 13 129 (o_const 8 (o_bi (fun x y => x + y) (o_putf rx_isI 13 129 (o_ret0))))))))))))))))))
set_option maxRecDepth 20000 in
theorem wX13_intoWorld_0 (hZ : zO b e D A X) : rx_OK (zV b e D A X) mX13_intoWorld 0 0 vX13_intoWorld_0 := by
  unfold vX13_intoWorld_0
  refine s_aload_n hZ.1 dX13_intoWorld_0 rfl ?_
  refine yg13_130 dX13_intoWorld_1 zw4250 ?_
  refine s_aload_n hZ.1 dX13_intoWorld_4 rfl ?_
  refine yg13_129 dX13_intoWorld_5 zw4249 ?_
  refine s_iload_n hZ.1 dX13_intoWorld_8 rfl ?_
  refine s_iast hZ.1 (tt := 0) rfl dX13_intoWorld_9 ?_
  refine s_aload_n hZ.1 dX13_intoWorld_10 rfl ?_
  refine yg13_131 dX13_intoWorld_11 zw4251 ?_
  refine s_iload_n hZ.1 dX13_intoWorld_14 rfl ?_
  refine s_aload_n hZ.1 dX13_intoWorld_15 rfl ?_
  refine yg13_129 dX13_intoWorld_16 zw4249 ?_
  refine s_iast hZ.1 (tt := 0) rfl dX13_intoWorld_19 ?_
  refine s_aload_n hZ.1 dX13_intoWorld_20 rfl ?_
  refine s_dup hZ.1 dX13_intoWorld_21 ?_
  refine yg13_129 dX13_intoWorld_22 zw4249 ?_
  refine s_iconst dX13_intoWorld_25 (by decide +kernel) ?_
  refine s_iadd dX13_intoWorld_26 ?_
  refine yp13_129 hZ.1 dX13_intoWorld_27 zw4249 ?_
  exact s_vret rfl dX13_intoWorld_30
noncomputable def FX13_intoWorld : List Nat → rx_H → Option (Nat × rx_H) := rx_ent 2 vX13_intoWorld_0
theorem Met_X13_intoWorld (hZ : zO b e D A X) : rx_Met (zV b e D A X) 0 yX13_intoWorld mX13_intoWorld (FX13_intoWorld) := rx_entry hZ.1 (wX13_intoWorld_0 hZ) (by decide +kernel) rfl (fun h => by cases h)
abbrev mX13_numberWorld : rx_M := (RX13, cX13_numberWorld, 4, none, false)
theorem vy_X13_numberWorld : rx_Y (zV b e D A X) yX13_numberWorld mX13_numberWorld 0 := ⟨zw3606, zw431, by decide, by decide +kernel, by decide +kernel, by decide +kernel⟩
noncomputable def vX13_numberWorld_120 (j : Nat → rx_K) : rx_K := o_ret0
set_option maxRecDepth 20000 in
theorem wX13_numberWorld_120 (hZ : zO b e D A X) (j : Nat → rx_K) (hj : ∀ k pc, [2, 44, 51][k]? = some pc → rx_OK (zV b e D A X) mX13_numberWorld 2 pc (j k)) : rx_OK (zV b e D A X) mX13_numberWorld 2 120 (vX13_numberWorld_120 j) := by
  unfold vX13_numberWorld_120
  exact s_vret rfl dX13_numberWorld_120
noncomputable def vX13_numberWorld_114 (j : Nat → rx_K) : rx_K := o_inc 1 (1) ((j 1))
set_option maxRecDepth 20000 in
theorem wX13_numberWorld_114 (hZ : zO b e D A X) (j : Nat → rx_K) (hj : ∀ k pc, [2, 44, 51][k]? = some pc → rx_OK (zV b e D A X) mX13_numberWorld 2 pc (j k)) : rx_OK (zV b e D A X) mX13_numberWorld 2 114 (vX13_numberWorld_114 j) := by
  unfold vX13_numberWorld_114
  refine s_iinc hZ.1 dX13_numberWorld_114 (Nat.le_of_ble_eq_true rfl) ?_
  exact s_goto dX13_numberWorld_117 (by decide) (hj 1 44 rfl)
noncomputable def vX13_numberWorld_108 (j : Nat → rx_K) : rx_K := o_inc 2 (1) ((j 2))
set_option maxRecDepth 20000 in
theorem wX13_numberWorld_108 (hZ : zO b e D A X) (j : Nat → rx_K) (hj : ∀ k pc, [2, 44, 51][k]? = some pc → rx_OK (zV b e D A X) mX13_numberWorld 2 pc (j k)) : rx_OK (zV b e D A X) mX13_numberWorld 2 108 (vX13_numberWorld_108 j) := by
  unfold vX13_numberWorld_108
  refine s_iinc hZ.1 dX13_numberWorld_108 (Nat.le_of_ble_eq_true rfl) ?_
  exact s_goto dX13_numberWorld_111 (by decide) (hj 2 51 rfl)
noncomputable def vX13_numberWorld_103 (j : Nat → rx_K) : rx_K := o_ld rx_isR 0 (o_ld rx_isI 3 (o_callV 1 13 FX13_intoWorld ((vX13_numberWorld_108 j))))
set_option maxRecDepth 20000 in
theorem wX13_numberWorld_103 (hZ : zO b e D A X) (j : Nat → rx_K) (hj : ∀ k pc, [2, 44, 51][k]? = some pc → rx_OK (zV b e D A X) mX13_numberWorld 2 pc (j k)) : rx_OK (zV b e D A X) mX13_numberWorld 2 103 (vX13_numberWorld_103 j) := by
  unfold vX13_numberWorld_103
  refine s_aload_n hZ.1 dX13_numberWorld_103 rfl ?_
  refine s_iload_n hZ.1 dX13_numberWorld_104 rfl ?_
  refine s_callV hZ.1 (Met_X13_intoWorld hZ) (Nat.le_of_ble_eq_true rfl) vy_X13_intoWorld zcl13 zw3609 zw321 (Or.inl zw3607) dX13_numberWorld_105 ?_
  exact (wX13_numberWorld_108 hZ j hj)
noncomputable def vX13_numberWorld_77 (j : Nat → rx_K) : rx_K := o_ld rx_isR 0 (o_getf 13 90 (o_ld rx_isI 1 (o_ald 0 (o_const 96 (o_bi (fun x y => x * y) (o_ld rx_isI 2 (o_bi (fun x y => x + y) (o_st rx_isI 3 (o_ld rx_isR 0 (o_ld rx_isR 0 (o_getf 13 24 (o_ld rx_isI 3 (o_ald 1 (o_callV 1 13 FX13_find (o_ld rx_isI 3 (o_c2 rx_eq (vX13_numberWorld_103 j) (vX13_numberWorld_108 j)))))))))))))))))
set_option maxRecDepth 20000 in
theorem wX13_numberWorld_77 (hZ : zO b e D A X) (j : Nat → rx_K) (hj : ∀ k pc, [2, 44, 51][k]? = some pc → rx_OK (zV b e D A X) mX13_numberWorld 2 pc (j k)) : rx_OK (zV b e D A X) mX13_numberWorld 2 77 (vX13_numberWorld_77 j) := by
  unfold vX13_numberWorld_77
  refine s_aload_n hZ.1 dX13_numberWorld_77 rfl ?_
  refine yg13_90 dX13_numberWorld_78 zw4211 ?_
  refine s_iload_n hZ.1 dX13_numberWorld_81 rfl ?_
  refine s_iald (tt := 0) rfl dX13_numberWorld_82 ?_
  refine s_bipush dX13_numberWorld_83 (by decide +kernel) ?_
  refine s_imul dX13_numberWorld_85 ?_
  refine s_iload_n hZ.1 dX13_numberWorld_86 rfl ?_
  refine s_iadd dX13_numberWorld_87 ?_
  refine s_istore_n hZ.1 dX13_numberWorld_88 rfl (Nat.le_of_ble_eq_true rfl) ?_
  refine s_aload_n hZ.1 dX13_numberWorld_89 rfl ?_
  refine s_aload_n hZ.1 dX13_numberWorld_90 rfl ?_
  refine yg13_24 dX13_numberWorld_91 zw4145 ?_
  refine s_iload_n hZ.1 dX13_numberWorld_94 rfl ?_
  refine s_lald (tt := 1) rfl dX13_numberWorld_95 ?_
  refine s_callV hZ.1 (Met_X13_find hZ) (Nat.le_of_ble_eq_true rfl) vy_X13_find zcl13 zw3186 zw226 (Or.inl zw3184) dX13_numberWorld_96 ?_
  refine s_iload_n hZ.1 dX13_numberWorld_99 rfl ?_
  exact s_icmp_ne dX13_numberWorld_100 (by decide) (wX13_numberWorld_108 hZ j hj) (wX13_numberWorld_103 hZ j hj)
noncomputable def vX13_numberWorld_62 (j : Nat → rx_K) : rx_K := o_ld rx_isI 2 (o_ld rx_isR 0 (o_getf 13 23 (o_ld rx_isR 0 (o_getf 13 90 (o_ld rx_isI 1 (o_ald 0 (o_ald 0 (o_c2 rx_lt (vX13_numberWorld_77 j) (vX13_numberWorld_114 j)))))))))
set_option maxRecDepth 20000 in
theorem wX13_numberWorld_62 (hZ : zO b e D A X) (j : Nat → rx_K) (hj : ∀ k pc, [2, 44, 51][k]? = some pc → rx_OK (zV b e D A X) mX13_numberWorld 2 pc (j k)) : rx_OK (zV b e D A X) mX13_numberWorld 2 62 (vX13_numberWorld_62 j) := by
  unfold vX13_numberWorld_62
  refine s_iload_n hZ.1 dX13_numberWorld_62 rfl ?_
  refine s_aload_n hZ.1 dX13_numberWorld_63 rfl ?_
  refine yg13_23 dX13_numberWorld_64 zw4144 ?_
  refine s_aload_n hZ.1 dX13_numberWorld_67 rfl ?_
  refine yg13_90 dX13_numberWorld_68 zw4211 ?_
  refine s_iload_n hZ.1 dX13_numberWorld_71 rfl ?_
  refine s_iald (tt := 0) rfl dX13_numberWorld_72 ?_
  refine s_iald (tt := 0) rfl dX13_numberWorld_73 ?_
  exact s_icmp_ge dX13_numberWorld_74 (by decide) (wX13_numberWorld_114 hZ j hj) (wX13_numberWorld_77 hZ j hj)
noncomputable def vX13_numberWorld_51 (j : Nat → rx_K) : rx_K := o_ld rx_isR 0 (o_getf 13 90 (o_ld rx_isI 1 (o_ald 0 (o_const 34359738352 (o_c2 rx_eq (vX13_numberWorld_114 j) (vX13_numberWorld_62 j))))))
set_option maxRecDepth 20000 in
theorem wX13_numberWorld_51 (hZ : zO b e D A X) (j : Nat → rx_K) (hj : ∀ k pc, [2, 44, 51][k]? = some pc → rx_OK (zV b e D A X) mX13_numberWorld 2 pc (j k)) : rx_OK (zV b e D A X) mX13_numberWorld 2 51 (vX13_numberWorld_51 j) := by
  unfold vX13_numberWorld_51
  refine s_aload_n hZ.1 dX13_numberWorld_51 rfl ?_
  refine yg13_90 dX13_numberWorld_52 zw4211 ?_
  refine s_iload_n hZ.1 dX13_numberWorld_55 rfl ?_
  refine s_iald (tt := 0) rfl dX13_numberWorld_56 ?_
  refine s_bipush dX13_numberWorld_57 (by decide +kernel) ?_
  exact s_icmp_eq dX13_numberWorld_59 (by decide) (wX13_numberWorld_114 hZ j hj) (wX13_numberWorld_62 hZ j hj)
noncomputable def vX13_numberWorld_49 (j : Nat → rx_K) : rx_K := o_const 0 (o_st rx_isI 2 ((vX13_numberWorld_51 j)))
set_option maxRecDepth 20000 in
theorem wX13_numberWorld_49 (hZ : zO b e D A X) (j : Nat → rx_K) (hj : ∀ k pc, [2, 44, 51][k]? = some pc → rx_OK (zV b e D A X) mX13_numberWorld 2 pc (j k)) : rx_OK (zV b e D A X) mX13_numberWorld 2 49 (vX13_numberWorld_49 j) := by
  unfold vX13_numberWorld_49
  refine s_iconst dX13_numberWorld_49 (by decide +kernel) ?_
  refine s_istore_n hZ.1 dX13_numberWorld_50 rfl (Nat.le_of_ble_eq_true rfl) ?_
  exact (wX13_numberWorld_51 hZ j hj)
noncomputable def vX13_numberWorld_44 (j : Nat → rx_K) : rx_K := o_ld rx_isI 1 (o_const 40 (o_c2 rx_lt (vX13_numberWorld_49 j) (vX13_numberWorld_120 j)))
set_option maxRecDepth 20000 in
theorem wX13_numberWorld_44 (hZ : zO b e D A X) (j : Nat → rx_K) (hj : ∀ k pc, [2, 44, 51][k]? = some pc → rx_OK (zV b e D A X) mX13_numberWorld 2 pc (j k)) : rx_OK (zV b e D A X) mX13_numberWorld 2 44 (vX13_numberWorld_44 j) := by
  unfold vX13_numberWorld_44
  refine s_iload_n hZ.1 dX13_numberWorld_44 rfl ?_
  refine s_iconst dX13_numberWorld_45 (by decide +kernel) ?_
  exact s_icmp_ge dX13_numberWorld_46 (by decide) (wX13_numberWorld_120 hZ j hj) (wX13_numberWorld_49 hZ j hj)
noncomputable def vX13_numberWorld_23 (j : Nat → rx_K) : rx_K := o_ld rx_isR 0 (o_const 0 (o_putf rx_isI 13 129 (o_ld rx_isR 0 (o_const 1632 (o_callV 1 13 FX13_intoWorld (o_ld rx_isR 0 (o_const 1640 (o_callV 1 13 FX13_intoWorld (o_const 0 (o_st rx_isI 1 ((vX13_numberWorld_44 j))))))))))))
set_option maxRecDepth 20000 in
theorem wX13_numberWorld_23 (hZ : zO b e D A X) (j : Nat → rx_K) (hj : ∀ k pc, [2, 44, 51][k]? = some pc → rx_OK (zV b e D A X) mX13_numberWorld 2 pc (j k)) : rx_OK (zV b e D A X) mX13_numberWorld 2 23 (vX13_numberWorld_23 j) := by
  unfold vX13_numberWorld_23
  refine s_aload_n hZ.1 dX13_numberWorld_23 rfl ?_
  refine s_iconst dX13_numberWorld_24 (by decide +kernel) ?_
  refine yp13_129 hZ.1 dX13_numberWorld_25 zw4249 ?_
  refine s_aload_n hZ.1 dX13_numberWorld_28 rfl ?_
  refine s_sipush dX13_numberWorld_29 (by decide +kernel) ?_
  refine s_callV hZ.1 (Met_X13_intoWorld hZ) (Nat.le_of_ble_eq_true rfl) vy_X13_intoWorld zcl13 zw3609 zw321 (Or.inl zw3607) dX13_numberWorld_32 ?_
  refine s_aload_n hZ.1 dX13_numberWorld_35 rfl ?_
  refine s_sipush dX13_numberWorld_36 (by decide +kernel) ?_
  refine s_callV hZ.1 (Met_X13_intoWorld hZ) (Nat.le_of_ble_eq_true rfl) vy_X13_intoWorld zcl13 zw3609 zw321 (Or.inl zw3607) dX13_numberWorld_39 ?_
  refine s_iconst dX13_numberWorld_42 (by decide +kernel) ?_
  refine s_istore_n hZ.1 dX13_numberWorld_43 rfl (Nat.le_of_ble_eq_true rfl) ?_
  exact (wX13_numberWorld_44 hZ j hj)
noncomputable def vX13_numberWorld_9 (j : Nat → rx_K) : rx_K := o_ld rx_isR 0 (o_getf 13 131 (o_ld rx_isI 1 (o_const 34359738352 (o_ast 0 (fun v => v) rx_isI (o_inc 1 (1) ((j 0)))))))
set_option maxRecDepth 20000 in
theorem wX13_numberWorld_9 (hZ : zO b e D A X) (j : Nat → rx_K) (hj : ∀ k pc, [2, 44, 51][k]? = some pc → rx_OK (zV b e D A X) mX13_numberWorld 2 pc (j k)) : rx_OK (zV b e D A X) mX13_numberWorld 2 9 (vX13_numberWorld_9 j) := by
  unfold vX13_numberWorld_9
  refine s_aload_n hZ.1 dX13_numberWorld_9 rfl ?_
  refine yg13_131 dX13_numberWorld_10 zw4251 ?_
  refine s_iload_n hZ.1 dX13_numberWorld_13 rfl ?_
  refine s_bipush dX13_numberWorld_14 (by decide +kernel) ?_
  refine s_iast hZ.1 (tt := 0) rfl dX13_numberWorld_16 ?_
  refine s_iinc hZ.1 dX13_numberWorld_17 (Nat.le_of_ble_eq_true rfl) ?_
  exact s_goto dX13_numberWorld_20 (by decide) (hj 0 2 rfl)
noncomputable def vX13_numberWorld_2 (j : Nat → rx_K) : rx_K := o_ld rx_isI 1 (o_const 1728 (o_c2 rx_lt (vX13_numberWorld_9 j) (vX13_numberWorld_23 j)))
set_option maxRecDepth 20000 in
theorem wX13_numberWorld_2 (hZ : zO b e D A X) (j : Nat → rx_K) (hj : ∀ k pc, [2, 44, 51][k]? = some pc → rx_OK (zV b e D A X) mX13_numberWorld 2 pc (j k)) : rx_OK (zV b e D A X) mX13_numberWorld 2 2 (vX13_numberWorld_2 j) := by
  unfold vX13_numberWorld_2
  refine s_iload_n hZ.1 dX13_numberWorld_2 rfl ?_
  refine s_sipush dX13_numberWorld_3 (by decide +kernel) ?_
  exact s_icmp_ge dX13_numberWorld_6 (by decide) (wX13_numberWorld_23 hZ j hj) (wX13_numberWorld_9 hZ j hj)
noncomputable def vX13_numberWorld_0 (j : Nat → rx_K) : rx_K := o_const 0 (o_st rx_isI 1 ((vX13_numberWorld_2 j)))
set_option maxRecDepth 20000 in
theorem wX13_numberWorld_0 (hZ : zO b e D A X) (j : Nat → rx_K) (hj : ∀ k pc, [2, 44, 51][k]? = some pc → rx_OK (zV b e D A X) mX13_numberWorld 2 pc (j k)) : rx_OK (zV b e D A X) mX13_numberWorld 2 0 (vX13_numberWorld_0 j) := by
  unfold vX13_numberWorld_0
  refine s_iconst dX13_numberWorld_0 (by decide +kernel) ?_
  refine s_istore_n hZ.1 dX13_numberWorld_1 rfl (Nat.le_of_ble_eq_true rfl) ?_
  exact (wX13_numberWorld_2 hZ j hj)
noncomputable def vhX13_numberWorld (j : Nat → rx_K) : List rx_K := [vX13_numberWorld_2 j, vX13_numberWorld_44 j, vX13_numberWorld_51 j]
theorem vlX13_numberWorld (hZ : zO b e D A X) : ∀ n k pc, [2, 44, 51][k]? = some pc → rx_OK (zV b e D A X) mX13_numberWorld 2 pc (rx_J (vhX13_numberWorld) n k) := rx_loop fun j hj k pc h => by
  match k, h with
  | 0, h =>
    have e9 := Option.some.inj (show some 2 = some pc from h)
    subst e9
    exact wX13_numberWorld_2 hZ j hj
  | 1, h =>
    have e9 := Option.some.inj (show some 44 = some pc from h)
    subst e9
    exact wX13_numberWorld_44 hZ j hj
  | 2, h =>
    have e9 := Option.some.inj (show some 51 = some pc from h)
    subst e9
    exact wX13_numberWorld_51 hZ j hj
  | _ + 3, h => exact absurd h (by simp)
noncomputable def FX13_numberWorld : List Nat → rx_H → Option (Nat × rx_H) := rx_ent 4 (vX13_numberWorld_0 (rx_J (vhX13_numberWorld) 4000000000))
theorem Met_X13_numberWorld (hZ : zO b e D A X) : rx_Met (zV b e D A X) 2 yX13_numberWorld mX13_numberWorld (FX13_numberWorld) := rx_entry hZ.1 (wX13_numberWorld_0 hZ _ (vlX13_numberWorld hZ 4000000000)) (by decide +kernel) rfl (fun h => by cases h)
abbrev mX13_settle : rx_M := (RX13, cX13_settle, 2, none, false)
theorem vy_X13_settle : rx_Y (zV b e D A X) yX13_settle mX13_settle 0 := ⟨zw3602, zw431, by decide, by decide +kernel, by decide +kernel, by decide +kernel⟩
noncomputable def vX13_settle_51 (j : Nat → rx_K) : rx_K := o_ret0
set_option maxRecDepth 20000 in
theorem wX13_settle_51 (hZ : zO b e D A X) (j : Nat → rx_K) (hj : ∀ k pc, [31][k]? = some pc → rx_OK (zV b e D A X) mX13_settle 3 pc (j k)) : rx_OK (zV b e D A X) mX13_settle 3 51 (vX13_settle_51 j) := by
  unfold vX13_settle_51
  exact s_vret rfl dX13_settle_51
noncomputable def vX13_settle_38 (j : Nat → rx_K) : rx_K := o_ld rx_isR 0 (o_getf 13 148 (o_ld rx_isI 1 (o_const 0 (o_ast 0 (fun v => v) rx_isI (o_inc 1 (1) ((j 0)))))))
set_option maxRecDepth 20000 in
theorem wX13_settle_38 (hZ : zO b e D A X) (j : Nat → rx_K) (hj : ∀ k pc, [31][k]? = some pc → rx_OK (zV b e D A X) mX13_settle 3 pc (j k)) : rx_OK (zV b e D A X) mX13_settle 3 38 (vX13_settle_38 j) := by
  unfold vX13_settle_38
  refine s_aload_n hZ.1 dX13_settle_38 rfl ?_
  refine yg13_148 dX13_settle_39 zw4268 ?_
  refine s_iload_n hZ.1 dX13_settle_42 rfl ?_
  refine s_iconst dX13_settle_43 (by decide +kernel) ?_
  refine s_iast hZ.1 (tt := 0) rfl dX13_settle_44 ?_
  refine s_iinc hZ.1 dX13_settle_45 (Nat.le_of_ble_eq_true rfl) ?_
  exact s_goto dX13_settle_48 (by decide) (hj 0 31 rfl)
noncomputable def vX13_settle_31 (j : Nat → rx_K) : rx_K := o_ld rx_isI 1 (o_const 58752 (o_c2 rx_lt (vX13_settle_38 j) (vX13_settle_51 j)))
set_option maxRecDepth 20000 in
theorem wX13_settle_31 (hZ : zO b e D A X) (j : Nat → rx_K) (hj : ∀ k pc, [31][k]? = some pc → rx_OK (zV b e D A X) mX13_settle 3 pc (j k)) : rx_OK (zV b e D A X) mX13_settle 3 31 (vX13_settle_31 j) := by
  unfold vX13_settle_31
  refine s_iload_n hZ.1 dX13_settle_31 rfl ?_
  refine s_sipush dX13_settle_32 (by decide +kernel) ?_
  exact s_icmp_ge dX13_settle_35 (by decide) (wX13_settle_51 hZ j hj) (wX13_settle_38 hZ j hj)
noncomputable def vX13_settle_0 (j : Nat → rx_K) : rx_K := o_ld rx_isR 0 (o_callV 0 13 FX13_numberWorld (o_ld rx_isR 0 (o_const 0 (o_putf rx_isI 13 145 (o_ld rx_isR 0 (o_const 0 (o_callV 1 13 FX13_clearSet (o_ld rx_isR 0 (o_const 0 (o_putf rx_isI 13 136 (o_ld rx_isR 0 (o_const 0 (o_putf rx_isI 13 151 (o_ld rx_isR 0 (o_const 0 (o_putf rx_isI 13 153 (o_const 0 (o_st rx_isI 1 ((vX13_settle_31 j))))))))))))))))))))
set_option maxRecDepth 20000 in
theorem wX13_settle_0 (hZ : zO b e D A X) (j : Nat → rx_K) (hj : ∀ k pc, [31][k]? = some pc → rx_OK (zV b e D A X) mX13_settle 3 pc (j k)) : rx_OK (zV b e D A X) mX13_settle 3 0 (vX13_settle_0 j) := by
  unfold vX13_settle_0
  refine s_aload_n hZ.1 dX13_settle_0 rfl ?_
  refine s_callV hZ.1 (Met_X13_numberWorld hZ) (Nat.le_of_ble_eq_true rfl) vy_X13_numberWorld zcl13 zw3605 zw320 (Or.inl zw3603) dX13_settle_1 ?_
  refine s_aload_n hZ.1 dX13_settle_4 rfl ?_
  refine s_iconst dX13_settle_5 (by decide +kernel) ?_
  refine yp13_145 hZ.1 dX13_settle_6 zw4265 ?_
  refine s_aload_n hZ.1 dX13_settle_9 rfl ?_
  refine s_iconst dX13_settle_10 (by decide +kernel) ?_
  refine s_callV hZ.1 (Met_X13_clearSet hZ) (Nat.le_of_ble_eq_true rfl) vy_X13_clearSet zcl13 zw3613 zw322 (Or.inl zw3611) dX13_settle_11 ?_
  refine s_aload_n hZ.1 dX13_settle_14 rfl ?_
  refine s_iconst dX13_settle_15 (by decide +kernel) ?_
  refine yp13_136 hZ.1 dX13_settle_16 zw4256 ?_
  refine s_aload_n hZ.1 dX13_settle_19 rfl ?_
  refine s_iconst dX13_settle_20 (by decide +kernel) ?_
  refine yp13_151 hZ.1 dX13_settle_21 zw4271 ?_
  refine s_aload_n hZ.1 dX13_settle_24 rfl ?_
  refine s_iconst dX13_settle_25 (by decide +kernel) ?_
  refine yp13_153 hZ.1 dX13_settle_26 zw4273 ?_
  refine s_iconst dX13_settle_29 (by decide +kernel) ?_
  refine s_istore_n hZ.1 dX13_settle_30 rfl (Nat.le_of_ble_eq_true rfl) ?_
  exact (wX13_settle_31 hZ j hj)
noncomputable def vhX13_settle (j : Nat → rx_K) : List rx_K := [vX13_settle_31 j]
theorem vlX13_settle (hZ : zO b e D A X) : ∀ n k pc, [31][k]? = some pc → rx_OK (zV b e D A X) mX13_settle 3 pc (rx_J (vhX13_settle) n k) := rx_loop fun j hj k pc h => by
  match k, h with
  | 0, h =>
    have e9 := Option.some.inj (show some 31 = some pc from h)
    subst e9
    exact wX13_settle_31 hZ j hj
  | _ + 1, h => exact absurd h (by simp)
noncomputable def FX13_settle : List Nat → rx_H → Option (Nat × rx_H) := rx_ent 2 (vX13_settle_0 (rx_J (vhX13_settle) 4000000000))
theorem Met_X13_settle (hZ : zO b e D A X) : rx_Met (zV b e D A X) 3 yX13_settle mX13_settle (FX13_settle) := rx_entry hZ.1 (wX13_settle_0 hZ _ (vlX13_settle hZ 4000000000)) (by decide +kernel) rfl (fun h => by cases h)
abbrev mX13_pick : rx_M := (RX13, cX13_pick, 4, (some .int), false)
theorem vy_X13_pick : rx_Y (zV b e D A X) yX13_pick mX13_pick 2 := ⟨zw3590, zw431, by decide, by decide +kernel, by decide +kernel, by decide +kernel⟩
noncomputable def vX13_pick_55 : rx_K := o_ast 0 (fun v => v) rx_isI (o_ld rx_isR 0 (o_callV 0 13 FX13_settle (o_ld rx_isI 3 (o_ret1 rx_isI))))
set_option maxRecDepth 20000 in
theorem wX13_pick_55 (hZ : zO b e D A X) : rx_OK (zV b e D A X) mX13_pick 4 55 vX13_pick_55 := by
  unfold vX13_pick_55
  refine s_iast hZ.1 (tt := 0) rfl dX13_pick_55 ?_
  refine s_aload_n hZ.1 dX13_pick_56 rfl ?_
  refine s_callV hZ.1 (Met_X13_settle hZ) (Nat.le_of_ble_eq_true rfl) vy_X13_settle zcl13 zw3601 zw319 (Or.inl zw3599) dX13_pick_57 ?_
  refine s_iload_n hZ.1 dX13_pick_60 rfl ?_
  exact s_iret hZ.1 rfl dX13_pick_61
noncomputable def vX13_pick_49 : rx_K := o_ld rx_isR 0 (o_ld rx_isI 1 (o_ld rx_isI 2 (o_callV 2 13 FX13_slotAt (vX13_pick_55))))
set_option maxRecDepth 20000 in
theorem wX13_pick_49 (hZ : zO b e D A X) : rx_OK (zV b e D A X) mX13_pick 4 49 vX13_pick_49 := by
  unfold vX13_pick_49
  refine s_aload_n hZ.1 dX13_pick_49 rfl ?_
  refine s_iload_n hZ.1 dX13_pick_50 rfl ?_
  refine s_iload_n hZ.1 dX13_pick_51 rfl ?_
  refine s_callV hZ.1 (Met_X13_slotAt hZ) (Nat.le_of_ble_eq_true rfl) vy_X13_slotAt zcl13 zw3585 zw317 (Or.inl zw3583) dX13_pick_52 ?_
  exact (wX13_pick_55 hZ)
noncomputable def vX13_pick_44 : rx_K := o_const 34359738352 (vX13_pick_55)
set_option maxRecDepth 20000 in
theorem wX13_pick_44 (hZ : zO b e D A X) : rx_OK (zV b e D A X) mX13_pick 4 44 vX13_pick_44 := by
  unfold vX13_pick_44
  refine s_bipush dX13_pick_44 (by decide +kernel) ?_
  exact s_goto dX13_pick_46 (by decide) (wX13_pick_55 hZ)
noncomputable def vX13_pick_27 : rx_K := o_ld rx_isR 0 (o_ld rx_isI 1 (o_callV 1 13 FX13_picked (o_st rx_isI 3 (o_ld rx_isR 0 (o_getf 13 90 (o_ld rx_isI 1 (o_ld rx_isI 2 (o_const 34359738352 (o_c2 rx_eq vX13_pick_44 vX13_pick_49)))))))))
set_option maxRecDepth 20000 in
theorem wX13_pick_27 (hZ : zO b e D A X) : rx_OK (zV b e D A X) mX13_pick 4 27 vX13_pick_27 := by
  unfold vX13_pick_27
  refine s_aload_n hZ.1 dX13_pick_27 rfl ?_
  refine s_iload_n hZ.1 dX13_pick_28 rfl ?_
  refine s_callV hZ.1 (Met_X13_picked hZ) (Nat.le_of_ble_eq_true rfl) vy_X13_picked zcl13 zw3592 zw3593 (Or.inl zw3591) dX13_pick_29 ?_
  refine s_istore_n hZ.1 dX13_pick_32 rfl (Nat.le_of_ble_eq_true rfl) ?_
  refine s_aload_n hZ.1 dX13_pick_33 rfl ?_
  refine yg13_90 dX13_pick_34 zw4211 ?_
  refine s_iload_n hZ.1 dX13_pick_37 rfl ?_
  refine s_iload_n hZ.1 dX13_pick_38 rfl ?_
  refine s_bipush dX13_pick_39 (by decide +kernel) ?_
  exact s_icmp_ne dX13_pick_41 (by decide) (wX13_pick_49 hZ) (wX13_pick_44 hZ)
noncomputable def vX13_pick_25 : rx_K := o_const 34359738360 (o_ret1 rx_isI)
set_option maxRecDepth 20000 in
theorem wX13_pick_25 (hZ : zO b e D A X) : rx_OK (zV b e D A X) mX13_pick 4 25 vX13_pick_25 := by
  unfold vX13_pick_25
  refine s_iconst dX13_pick_25 (by decide +kernel) ?_
  exact s_iret hZ.1 rfl dX13_pick_26
noncomputable def vX13_pick_14 : rx_K := o_ld rx_isR 0 (o_ld rx_isI 1 (o_ld rx_isI 2 (o_callV 2 13 FX13_slotAt (o_const 34359738352 (o_c2 rx_eq vX13_pick_25 vX13_pick_27)))))
set_option maxRecDepth 20000 in
theorem wX13_pick_14 (hZ : zO b e D A X) : rx_OK (zV b e D A X) mX13_pick 4 14 vX13_pick_14 := by
  unfold vX13_pick_14
  refine s_aload_n hZ.1 dX13_pick_14 rfl ?_
  refine s_iload_n hZ.1 dX13_pick_15 rfl ?_
  refine s_iload_n hZ.1 dX13_pick_16 rfl ?_
  refine s_callV hZ.1 (Met_X13_slotAt hZ) (Nat.le_of_ble_eq_true rfl) vy_X13_slotAt zcl13 zw3585 zw317 (Or.inl zw3583) dX13_pick_17 ?_
  refine s_bipush dX13_pick_20 (by decide +kernel) ?_
  exact s_icmp_ne dX13_pick_22 (by decide) (wX13_pick_27 hZ) (wX13_pick_25 hZ)
noncomputable def vX13_pick_8 : rx_K := o_ld rx_isI 2 (o_const 34359738352 (o_c2 rx_eq vX13_pick_27 vX13_pick_14))
set_option maxRecDepth 20000 in
theorem wX13_pick_8 (hZ : zO b e D A X) : rx_OK (zV b e D A X) mX13_pick 4 8 vX13_pick_8 := by
  unfold vX13_pick_8
  refine s_iload_n hZ.1 dX13_pick_8 rfl ?_
  refine s_bipush dX13_pick_9 (by decide +kernel) ?_
  exact s_icmp_eq dX13_pick_11 (by decide) (wX13_pick_27 hZ) (wX13_pick_14 hZ)
noncomputable def vX13_pick_0 : rx_K := o_ld rx_isR 0 (o_ld rx_isI 1 (o_callV 1 13 FX13_isLib (o_c1 rx_eq vX13_pick_25 vX13_pick_8)))
set_option maxRecDepth 20000 in
theorem wX13_pick_0 (hZ : zO b e D A X) : rx_OK (zV b e D A X) mX13_pick 4 0 vX13_pick_0 := by
  unfold vX13_pick_0
  refine s_aload_n hZ.1 dX13_pick_0 rfl ?_
  refine s_iload_n hZ.1 dX13_pick_1 rfl ?_
  refine s_callV hZ.1 (Met_X13_isLib hZ) (Nat.le_of_ble_eq_true rfl) vy_X13_isLib zcl13 zw2932 zw176 (Or.inl zw2930) dX13_pick_2 ?_
  exact s_if_eq dX13_pick_5 (by decide) (wX13_pick_25 hZ) (wX13_pick_8 hZ)
noncomputable def FX13_pick : List Nat → rx_H → Option (Nat × rx_H) := rx_ent 4 vX13_pick_0
theorem Met_X13_pick (hZ : zO b e D A X) : rx_Met (zV b e D A X) 4 yX13_pick mX13_pick (FX13_pick) := rx_entry hZ.1 (wX13_pick_0 hZ) (by decide +kernel) rfl (fun h => by cases h)
abbrev mX13_classes : rx_M := (RX13, cX13_classes, 4, (some .int), false)
theorem vy_X13_classes : rx_Y (zV b e D A X) yX13_classes mX13_classes 2 := ⟨zw3619, zw431, by decide, by decide +kernel, by decide +kernel, by decide +kernel⟩
noncomputable def vX13_classes_23 : rx_K := o_ret1 rx_isI
set_option maxRecDepth 20000 in
theorem wX13_classes_23 (hZ : zO b e D A X) : rx_OK (zV b e D A X) mX13_classes 2 23 vX13_classes_23 := by
  unfold vX13_classes_23
  exact s_iret hZ.1 rfl dX13_classes_23
noncomputable def vX13_classes_17 : rx_K := o_ld rx_isR 0 (o_getf 13 23 (o_ld rx_isI 3 (o_ald 0 (vX13_classes_23))))
set_option maxRecDepth 20000 in
theorem wX13_classes_17 (hZ : zO b e D A X) : rx_OK (zV b e D A X) mX13_classes 2 17 vX13_classes_17 := by
  unfold vX13_classes_17
  refine s_aload_n hZ.1 dX13_classes_17 rfl ?_
  refine yg13_23 dX13_classes_18 zw4144 ?_
  refine s_iload_n hZ.1 dX13_classes_21 rfl ?_
  refine s_iald (tt := 0) rfl dX13_classes_22 ?_
  exact (wX13_classes_23 hZ)
noncomputable def vX13_classes_13 : rx_K := o_const 34359738360 (vX13_classes_23)
set_option maxRecDepth 20000 in
theorem wX13_classes_13 (hZ : zO b e D A X) : rx_OK (zV b e D A X) mX13_classes 2 13 vX13_classes_13 := by
  unfold vX13_classes_13
  refine s_iconst dX13_classes_13 (by decide +kernel) ?_
  exact s_goto dX13_classes_14 (by decide) (wX13_classes_23 hZ)
noncomputable def vX13_classes_0 : rx_K := o_ld rx_isR 0 (o_ld rx_isI 1 (o_ld rx_isI 2 (o_callV 2 13 FX13_slotAt (o_st rx_isI 3 (o_ld rx_isI 3 (o_const 34359738352 (o_c2 rx_eq vX13_classes_13 vX13_classes_17)))))))
set_option maxRecDepth 20000 in
theorem wX13_classes_0 (hZ : zO b e D A X) : rx_OK (zV b e D A X) mX13_classes 2 0 vX13_classes_0 := by
  unfold vX13_classes_0
  refine s_aload_n hZ.1 dX13_classes_0 rfl ?_
  refine s_iload_n hZ.1 dX13_classes_1 rfl ?_
  refine s_iload_n hZ.1 dX13_classes_2 rfl ?_
  refine s_callV hZ.1 (Met_X13_slotAt hZ) (Nat.le_of_ble_eq_true rfl) vy_X13_slotAt zcl13 zw3585 zw317 (Or.inl zw3583) dX13_classes_3 ?_
  refine s_istore_n hZ.1 dX13_classes_6 rfl (Nat.le_of_ble_eq_true rfl) ?_
  refine s_iload_n hZ.1 dX13_classes_7 rfl ?_
  refine s_bipush dX13_classes_8 (by decide +kernel) ?_
  exact s_icmp_ne dX13_classes_10 (by decide) (wX13_classes_17 hZ) (wX13_classes_13 hZ)
noncomputable def FX13_classes : List Nat → rx_H → Option (Nat × rx_H) := rx_ent 4 vX13_classes_0
theorem Met_X13_classes (hZ : zO b e D A X) : rx_Met (zV b e D A X) 2 yX13_classes mX13_classes (FX13_classes) := rx_entry hZ.1 (wX13_classes_0 hZ) (by decide +kernel) rfl (fun h => by cases h)
abbrev mX13_classAt : rx_M := (RX13, cX13_classAt, 5, (some .int), false)
theorem vy_X13_classAt : rx_Y (zV b e D A X) yX13_classAt mX13_classAt 3 := ⟨zw3627, zw431, by decide, by decide +kernel, by decide +kernel, by decide +kernel⟩
noncomputable def vX13_classAt_42 : rx_K := o_ret1 rx_isI
set_option maxRecDepth 20000 in
theorem wX13_classAt_42 (hZ : zO b e D A X) : rx_OK (zV b e D A X) mX13_classAt 2 42 vX13_classAt_42 := by
  unfold vX13_classAt_42
  exact s_iret hZ.1 rfl dX13_classAt_42
noncomputable def vX13_classAt_35 : rx_K := o_ld rx_isI 4 (o_const 96 (o_bi (fun x y => x * y) (o_ld rx_isI 3 (o_bi (fun x y => x + y) (vX13_classAt_42)))))
set_option maxRecDepth 20000 in
theorem wX13_classAt_35 (hZ : zO b e D A X) : rx_OK (zV b e D A X) mX13_classAt 2 35 vX13_classAt_35 := by
  unfold vX13_classAt_35
  refine s_iload hZ.1 dX13_classAt_35 ?_
  refine s_bipush dX13_classAt_37 (by decide +kernel) ?_
  refine s_imul dX13_classAt_39 ?_
  refine s_iload_n hZ.1 dX13_classAt_40 rfl ?_
  refine s_iadd dX13_classAt_41 ?_
  exact (wX13_classAt_42 hZ)
noncomputable def vX13_classAt_30 : rx_K := o_const 34359738352 (vX13_classAt_42)
set_option maxRecDepth 20000 in
theorem wX13_classAt_30 (hZ : zO b e D A X) : rx_OK (zV b e D A X) mX13_classAt 2 30 vX13_classAt_30 := by
  unfold vX13_classAt_30
  refine s_bipush dX13_classAt_30 (by decide +kernel) ?_
  exact s_goto dX13_classAt_32 (by decide) (wX13_classAt_42 hZ)
noncomputable def vX13_classAt_19 : rx_K := o_ld rx_isI 3 (o_ld rx_isR 0 (o_getf 13 23 (o_ld rx_isI 4 (o_ald 0 (o_c2 rx_lt vX13_classAt_35 vX13_classAt_30)))))
set_option maxRecDepth 20000 in
theorem wX13_classAt_19 (hZ : zO b e D A X) : rx_OK (zV b e D A X) mX13_classAt 2 19 vX13_classAt_19 := by
  unfold vX13_classAt_19
  refine s_iload_n hZ.1 dX13_classAt_19 rfl ?_
  refine s_aload_n hZ.1 dX13_classAt_20 rfl ?_
  refine yg13_23 dX13_classAt_21 zw4144 ?_
  refine s_iload hZ.1 dX13_classAt_24 ?_
  refine s_iald (tt := 0) rfl dX13_classAt_26 ?_
  exact s_icmp_lt dX13_classAt_27 (by decide) (wX13_classAt_35 hZ) (wX13_classAt_30 hZ)
noncomputable def vX13_classAt_15 : rx_K := o_ld rx_isI 3 (o_c1 rx_lt vX13_classAt_30 vX13_classAt_19)
set_option maxRecDepth 20000 in
theorem wX13_classAt_15 (hZ : zO b e D A X) : rx_OK (zV b e D A X) mX13_classAt 2 15 vX13_classAt_15 := by
  unfold vX13_classAt_15
  refine s_iload_n hZ.1 dX13_classAt_15 rfl ?_
  exact s_if_lt dX13_classAt_16 (by decide) (wX13_classAt_30 hZ) (wX13_classAt_19 hZ)
noncomputable def vX13_classAt_0 : rx_K := o_ld rx_isR 0 (o_ld rx_isI 1 (o_ld rx_isI 2 (o_callV 2 13 FX13_slotAt (o_st rx_isI 4 (o_ld rx_isI 4 (o_const 34359738352 (o_c2 rx_eq vX13_classAt_30 vX13_classAt_15)))))))
set_option maxRecDepth 20000 in
theorem wX13_classAt_0 (hZ : zO b e D A X) : rx_OK (zV b e D A X) mX13_classAt 2 0 vX13_classAt_0 := by
  unfold vX13_classAt_0
  refine s_aload_n hZ.1 dX13_classAt_0 rfl ?_
  refine s_iload_n hZ.1 dX13_classAt_1 rfl ?_
  refine s_iload_n hZ.1 dX13_classAt_2 rfl ?_
  refine s_callV hZ.1 (Met_X13_slotAt hZ) (Nat.le_of_ble_eq_true rfl) vy_X13_slotAt zcl13 zw3585 zw317 (Or.inl zw3583) dX13_classAt_3 ?_
  refine s_istore hZ.1 dX13_classAt_6 (Nat.le_of_ble_eq_true rfl) ?_
  refine s_iload hZ.1 dX13_classAt_8 ?_
  refine s_bipush dX13_classAt_10 (by decide +kernel) ?_
  exact s_icmp_eq dX13_classAt_12 (by decide) (wX13_classAt_30 hZ) (wX13_classAt_15 hZ)
noncomputable def FX13_classAt : List Nat → rx_H → Option (Nat × rx_H) := rx_ent 5 vX13_classAt_0
theorem Met_X13_classAt (hZ : zO b e D A X) : rx_Met (zV b e D A X) 2 yX13_classAt mX13_classAt (FX13_classAt) := rx_entry hZ.1 (wX13_classAt_0 hZ) (by decide +kernel) rfl (fun h => by cases h)
abbrev mX13_memberAt : rx_M := (RX13, cX13_memberAt, 5, (some .int), false)
theorem vy_X13_memberAt : rx_Y (zV b e D A X) yX13_memberAt mX13_memberAt 2 := ⟨zw3639, zw431, by decide, by decide +kernel, by decide +kernel, by decide +kernel⟩
noncomputable def vX13_memberAt_54 (j : Nat → rx_K) : rx_K := o_const 34359738352 (o_ret1 rx_isI)
set_option maxRecDepth 20000 in
theorem wX13_memberAt_54 (hZ : zO b e D A X) (j : Nat → rx_K) (hj : ∀ k pc, [5][k]? = some pc → rx_OK (zV b e D A X) mX13_memberAt 0 pc (j k)) : rx_OK (zV b e D A X) mX13_memberAt 0 54 (vX13_memberAt_54 j) := by
  unfold vX13_memberAt_54
  refine s_bipush dX13_memberAt_54 (by decide +kernel) ?_
  exact s_iret hZ.1 rfl dX13_memberAt_56
noncomputable def vX13_memberAt_48 (j : Nat → rx_K) : rx_K := o_inc 4 (1) ((j 0))
set_option maxRecDepth 20000 in
theorem wX13_memberAt_48 (hZ : zO b e D A X) (j : Nat → rx_K) (hj : ∀ k pc, [5][k]? = some pc → rx_OK (zV b e D A X) mX13_memberAt 0 pc (j k)) : rx_OK (zV b e D A X) mX13_memberAt 0 48 (vX13_memberAt_48 j) := by
  unfold vX13_memberAt_48
  refine s_iinc hZ.1 dX13_memberAt_48 (Nat.le_of_ble_eq_true rfl) ?_
  exact s_goto dX13_memberAt_51 (by decide) (hj 0 5 rfl)
noncomputable def vX13_memberAt_45 (j : Nat → rx_K) : rx_K := o_inc 3 (1) ((vX13_memberAt_48 j))
set_option maxRecDepth 20000 in
theorem wX13_memberAt_45 (hZ : zO b e D A X) (j : Nat → rx_K) (hj : ∀ k pc, [5][k]? = some pc → rx_OK (zV b e D A X) mX13_memberAt 0 pc (j k)) : rx_OK (zV b e D A X) mX13_memberAt 0 45 (vX13_memberAt_45 j) := by
  unfold vX13_memberAt_45
  refine s_iinc hZ.1 dX13_memberAt_45 (Nat.le_of_ble_eq_true rfl) ?_
  exact (wX13_memberAt_48 hZ j hj)
noncomputable def vX13_memberAt_37 (j : Nat → rx_K) : rx_K := o_ld rx_isI 1 (o_const 272 (o_bi (fun x y => x * y) (o_ld rx_isI 4 (o_bi (fun x y => x + y) (o_ret1 rx_isI)))))
set_option maxRecDepth 20000 in
theorem wX13_memberAt_37 (hZ : zO b e D A X) (j : Nat → rx_K) (hj : ∀ k pc, [5][k]? = some pc → rx_OK (zV b e D A X) mX13_memberAt 0 pc (j k)) : rx_OK (zV b e D A X) mX13_memberAt 0 37 (vX13_memberAt_37 j) := by
  unfold vX13_memberAt_37
  refine s_iload_n hZ.1 dX13_memberAt_37 rfl ?_
  refine s_bipush dX13_memberAt_38 (by decide +kernel) ?_
  refine s_imul dX13_memberAt_40 ?_
  refine s_iload hZ.1 dX13_memberAt_41 ?_
  refine s_iadd dX13_memberAt_43 ?_
  exact s_iret hZ.1 rfl dX13_memberAt_44
noncomputable def vX13_memberAt_32 (j : Nat → rx_K) : rx_K := o_ld rx_isI 3 (o_ld rx_isI 2 (o_c2 rx_eq (vX13_memberAt_37 j) (vX13_memberAt_45 j)))
set_option maxRecDepth 20000 in
theorem wX13_memberAt_32 (hZ : zO b e D A X) (j : Nat → rx_K) (hj : ∀ k pc, [5][k]? = some pc → rx_OK (zV b e D A X) mX13_memberAt 0 pc (j k)) : rx_OK (zV b e D A X) mX13_memberAt 0 32 (vX13_memberAt_32 j) := by
  unfold vX13_memberAt_32
  refine s_iload_n hZ.1 dX13_memberAt_32 rfl ?_
  refine s_iload_n hZ.1 dX13_memberAt_33 rfl ?_
  exact s_icmp_ne dX13_memberAt_34 (by decide) (wX13_memberAt_45 hZ j hj) (wX13_memberAt_37 hZ j hj)
noncomputable def vX13_memberAt_16 (j : Nat → rx_K) : rx_K := o_ld rx_isR 0 (o_getf 13 42 (o_ld rx_isI 1 (o_const 272 (o_bi (fun x y => x * y) (o_ld rx_isI 4 (o_bi (fun x y => x + y) (o_ald 0 (o_const 24 (o_c2 rx_eq (vX13_memberAt_48 j) (vX13_memberAt_32 j))))))))))
set_option maxRecDepth 20000 in
theorem wX13_memberAt_16 (hZ : zO b e D A X) (j : Nat → rx_K) (hj : ∀ k pc, [5][k]? = some pc → rx_OK (zV b e D A X) mX13_memberAt 0 pc (j k)) : rx_OK (zV b e D A X) mX13_memberAt 0 16 (vX13_memberAt_16 j) := by
  unfold vX13_memberAt_16
  refine s_aload_n hZ.1 dX13_memberAt_16 rfl ?_
  refine yg13_42 dX13_memberAt_17 zw4163 ?_
  refine s_iload_n hZ.1 dX13_memberAt_20 rfl ?_
  refine s_bipush dX13_memberAt_21 (by decide +kernel) ?_
  refine s_imul dX13_memberAt_23 ?_
  refine s_iload hZ.1 dX13_memberAt_24 ?_
  refine s_iadd dX13_memberAt_26 ?_
  refine s_iald (tt := 0) rfl dX13_memberAt_27 ?_
  refine s_iconst dX13_memberAt_28 (by decide +kernel) ?_
  exact s_icmp_eq dX13_memberAt_29 (by decide) (wX13_memberAt_48 hZ j hj) (wX13_memberAt_32 hZ j hj)
noncomputable def vX13_memberAt_5 (j : Nat → rx_K) : rx_K := o_ld rx_isI 4 (o_ld rx_isR 0 (o_getf 13 41 (o_ld rx_isI 1 (o_ald 0 (o_c2 rx_lt (vX13_memberAt_16 j) (vX13_memberAt_54 j))))))
set_option maxRecDepth 20000 in
theorem wX13_memberAt_5 (hZ : zO b e D A X) (j : Nat → rx_K) (hj : ∀ k pc, [5][k]? = some pc → rx_OK (zV b e D A X) mX13_memberAt 0 pc (j k)) : rx_OK (zV b e D A X) mX13_memberAt 0 5 (vX13_memberAt_5 j) := by
  unfold vX13_memberAt_5
  refine s_iload hZ.1 dX13_memberAt_5 ?_
  refine s_aload_n hZ.1 dX13_memberAt_7 rfl ?_
  refine yg13_41 dX13_memberAt_8 zw4162 ?_
  refine s_iload_n hZ.1 dX13_memberAt_11 rfl ?_
  refine s_iald (tt := 0) rfl dX13_memberAt_12 ?_
  exact s_icmp_ge dX13_memberAt_13 (by decide) (wX13_memberAt_54 hZ j hj) (wX13_memberAt_16 hZ j hj)
noncomputable def vX13_memberAt_0 (j : Nat → rx_K) : rx_K := o_const 0 (o_st rx_isI 3 (o_const 0 (o_st rx_isI 4 ((vX13_memberAt_5 j)))))
set_option maxRecDepth 20000 in
theorem wX13_memberAt_0 (hZ : zO b e D A X) (j : Nat → rx_K) (hj : ∀ k pc, [5][k]? = some pc → rx_OK (zV b e D A X) mX13_memberAt 0 pc (j k)) : rx_OK (zV b e D A X) mX13_memberAt 0 0 (vX13_memberAt_0 j) := by
  unfold vX13_memberAt_0
  refine s_iconst dX13_memberAt_0 (by decide +kernel) ?_
  refine s_istore_n hZ.1 dX13_memberAt_1 rfl (Nat.le_of_ble_eq_true rfl) ?_
  refine s_iconst dX13_memberAt_2 (by decide +kernel) ?_
  refine s_istore hZ.1 dX13_memberAt_3 (Nat.le_of_ble_eq_true rfl) ?_
  exact (wX13_memberAt_5 hZ j hj)
noncomputable def vhX13_memberAt (j : Nat → rx_K) : List rx_K := [vX13_memberAt_5 j]
theorem vlX13_memberAt (hZ : zO b e D A X) : ∀ n k pc, [5][k]? = some pc → rx_OK (zV b e D A X) mX13_memberAt 0 pc (rx_J (vhX13_memberAt) n k) := rx_loop fun j hj k pc h => by
  match k, h with
  | 0, h =>
    have e9 := Option.some.inj (show some 5 = some pc from h)
    subst e9
    exact wX13_memberAt_5 hZ j hj
  | _ + 1, h => exact absurd h (by simp)
noncomputable def FX13_memberAt : List Nat → rx_H → Option (Nat × rx_H) := rx_ent 5 (vX13_memberAt_0 (rx_J (vhX13_memberAt) 4000000000))
theorem Met_X13_memberAt (hZ : zO b e D A X) : rx_Met (zV b e D A X) 0 yX13_memberAt mX13_memberAt (FX13_memberAt) := rx_entry hZ.1 (wX13_memberAt_0 hZ _ (vlX13_memberAt hZ 4000000000)) (by decide +kernel) rfl (fun h => by cases h)
abbrev mX13_memberMany : rx_M := (RX13, cX13_memberMany, 4, (some .int), false)
theorem vy_X13_memberMany : rx_Y (zV b e D A X) yX13_memberMany mX13_memberMany 1 := ⟨zw3631, zw431, by decide, by decide +kernel, by decide +kernel, by decide +kernel⟩
noncomputable def vX13_memberMany_43 (j : Nat → rx_K) : rx_K := o_ld rx_isI 2 (o_ret1 rx_isI)
set_option maxRecDepth 20000 in
theorem wX13_memberMany_43 (hZ : zO b e D A X) (j : Nat → rx_K) (hj : ∀ k pc, [4][k]? = some pc → rx_OK (zV b e D A X) mX13_memberMany 0 pc (j k)) : rx_OK (zV b e D A X) mX13_memberMany 0 43 (vX13_memberMany_43 j) := by
  unfold vX13_memberMany_43
  refine s_iload_n hZ.1 dX13_memberMany_43 rfl ?_
  exact s_iret hZ.1 rfl dX13_memberMany_44
noncomputable def vX13_memberMany_35 (j : Nat → rx_K) : rx_K := o_bi (fun x y => x + y) (o_st rx_isI 2 (o_inc 3 (1) ((j 0))))
set_option maxRecDepth 20000 in
theorem wX13_memberMany_35 (hZ : zO b e D A X) (j : Nat → rx_K) (hj : ∀ k pc, [4][k]? = some pc → rx_OK (zV b e D A X) mX13_memberMany 0 pc (j k)) : rx_OK (zV b e D A X) mX13_memberMany 0 35 (vX13_memberMany_35 j) := by
  unfold vX13_memberMany_35
  refine s_iadd dX13_memberMany_35 ?_
  refine s_istore_n hZ.1 dX13_memberMany_36 rfl (Nat.le_of_ble_eq_true rfl) ?_
  refine s_iinc hZ.1 dX13_memberMany_37 (Nat.le_of_ble_eq_true rfl) ?_
  exact s_goto dX13_memberMany_40 (by decide) (hj 0 4 rfl)
noncomputable def vX13_memberMany_34 (j : Nat → rx_K) : rx_K := o_const 8 ((vX13_memberMany_35 j))
set_option maxRecDepth 20000 in
theorem wX13_memberMany_34 (hZ : zO b e D A X) (j : Nat → rx_K) (hj : ∀ k pc, [4][k]? = some pc → rx_OK (zV b e D A X) mX13_memberMany 0 pc (j k)) : rx_OK (zV b e D A X) mX13_memberMany 0 34 (vX13_memberMany_34 j) := by
  unfold vX13_memberMany_34
  refine s_iconst dX13_memberMany_34 (by decide +kernel) ?_
  exact (wX13_memberMany_35 hZ j hj)
noncomputable def vX13_memberMany_30 (j : Nat → rx_K) : rx_K := o_const 0 ((vX13_memberMany_35 j))
set_option maxRecDepth 20000 in
theorem wX13_memberMany_30 (hZ : zO b e D A X) (j : Nat → rx_K) (hj : ∀ k pc, [4][k]? = some pc → rx_OK (zV b e D A X) mX13_memberMany 0 pc (j k)) : rx_OK (zV b e D A X) mX13_memberMany 0 30 (vX13_memberMany_30 j) := by
  unfold vX13_memberMany_30
  refine s_iconst dX13_memberMany_30 (by decide +kernel) ?_
  exact s_goto dX13_memberMany_31 (by decide) (wX13_memberMany_35 hZ j hj)
noncomputable def vX13_memberMany_14 (j : Nat → rx_K) : rx_K := o_ld rx_isI 2 (o_ld rx_isR 0 (o_getf 13 42 (o_ld rx_isI 1 (o_const 272 (o_bi (fun x y => x * y) (o_ld rx_isI 3 (o_bi (fun x y => x + y) (o_ald 0 (o_const 24 (o_c2 rx_eq (vX13_memberMany_30 j) (vX13_memberMany_34 j)))))))))))
set_option maxRecDepth 20000 in
theorem wX13_memberMany_14 (hZ : zO b e D A X) (j : Nat → rx_K) (hj : ∀ k pc, [4][k]? = some pc → rx_OK (zV b e D A X) mX13_memberMany 0 pc (j k)) : rx_OK (zV b e D A X) mX13_memberMany 0 14 (vX13_memberMany_14 j) := by
  unfold vX13_memberMany_14
  refine s_iload_n hZ.1 dX13_memberMany_14 rfl ?_
  refine s_aload_n hZ.1 dX13_memberMany_15 rfl ?_
  refine yg13_42 dX13_memberMany_16 zw4163 ?_
  refine s_iload_n hZ.1 dX13_memberMany_19 rfl ?_
  refine s_bipush dX13_memberMany_20 (by decide +kernel) ?_
  refine s_imul dX13_memberMany_22 ?_
  refine s_iload_n hZ.1 dX13_memberMany_23 rfl ?_
  refine s_iadd dX13_memberMany_24 ?_
  refine s_iald (tt := 0) rfl dX13_memberMany_25 ?_
  refine s_iconst dX13_memberMany_26 (by decide +kernel) ?_
  exact s_icmp_ne dX13_memberMany_27 (by decide) (wX13_memberMany_34 hZ j hj) (wX13_memberMany_30 hZ j hj)
noncomputable def vX13_memberMany_4 (j : Nat → rx_K) : rx_K := o_ld rx_isI 3 (o_ld rx_isR 0 (o_getf 13 41 (o_ld rx_isI 1 (o_ald 0 (o_c2 rx_lt (vX13_memberMany_14 j) (vX13_memberMany_43 j))))))
set_option maxRecDepth 20000 in
theorem wX13_memberMany_4 (hZ : zO b e D A X) (j : Nat → rx_K) (hj : ∀ k pc, [4][k]? = some pc → rx_OK (zV b e D A X) mX13_memberMany 0 pc (j k)) : rx_OK (zV b e D A X) mX13_memberMany 0 4 (vX13_memberMany_4 j) := by
  unfold vX13_memberMany_4
  refine s_iload_n hZ.1 dX13_memberMany_4 rfl ?_
  refine s_aload_n hZ.1 dX13_memberMany_5 rfl ?_
  refine yg13_41 dX13_memberMany_6 zw4162 ?_
  refine s_iload_n hZ.1 dX13_memberMany_9 rfl ?_
  refine s_iald (tt := 0) rfl dX13_memberMany_10 ?_
  exact s_icmp_ge dX13_memberMany_11 (by decide) (wX13_memberMany_43 hZ j hj) (wX13_memberMany_14 hZ j hj)
noncomputable def vX13_memberMany_0 (j : Nat → rx_K) : rx_K := o_const 0 (o_st rx_isI 2 (o_const 0 (o_st rx_isI 3 ((vX13_memberMany_4 j)))))
set_option maxRecDepth 20000 in
theorem wX13_memberMany_0 (hZ : zO b e D A X) (j : Nat → rx_K) (hj : ∀ k pc, [4][k]? = some pc → rx_OK (zV b e D A X) mX13_memberMany 0 pc (j k)) : rx_OK (zV b e D A X) mX13_memberMany 0 0 (vX13_memberMany_0 j) := by
  unfold vX13_memberMany_0
  refine s_iconst dX13_memberMany_0 (by decide +kernel) ?_
  refine s_istore_n hZ.1 dX13_memberMany_1 rfl (Nat.le_of_ble_eq_true rfl) ?_
  refine s_iconst dX13_memberMany_2 (by decide +kernel) ?_
  refine s_istore_n hZ.1 dX13_memberMany_3 rfl (Nat.le_of_ble_eq_true rfl) ?_
  exact (wX13_memberMany_4 hZ j hj)
noncomputable def vhX13_memberMany (j : Nat → rx_K) : List rx_K := [vX13_memberMany_4 j]
theorem vlX13_memberMany (hZ : zO b e D A X) : ∀ n k pc, [4][k]? = some pc → rx_OK (zV b e D A X) mX13_memberMany 0 pc (rx_J (vhX13_memberMany) n k) := rx_loop fun j hj k pc h => by
  match k, h with
  | 0, h =>
    have e9 := Option.some.inj (show some 4 = some pc from h)
    subst e9
    exact wX13_memberMany_4 hZ j hj
  | _ + 1, h => exact absurd h (by simp)
noncomputable def FX13_memberMany : List Nat → rx_H → Option (Nat × rx_H) := rx_ent 4 (vX13_memberMany_0 (rx_J (vhX13_memberMany) 4000000000))
theorem Met_X13_memberMany (hZ : zO b e D A X) : rx_Met (zV b e D A X) 0 yX13_memberMany mX13_memberMany (FX13_memberMany) := rx_entry hZ.1 (wX13_memberMany_0 hZ _ (vlX13_memberMany hZ 4000000000)) (by decide +kernel) rfl (fun h => by cases h)
abbrev mX13_members : rx_M := (RX13, cX13_members, 5, (some .int), false)
theorem vy_X13_members : rx_Y (zV b e D A X) yX13_members mX13_members 3 := ⟨zw3623, zw431, by decide, by decide +kernel, by decide +kernel, by decide +kernel⟩
noncomputable def vX13_members_26 : rx_K := o_ret1 rx_isI
set_option maxRecDepth 20000 in
theorem wX13_members_26 (hZ : zO b e D A X) : rx_OK (zV b e D A X) mX13_members 3 26 vX13_members_26 := by
  unfold vX13_members_26
  exact s_iret hZ.1 rfl dX13_members_26
noncomputable def vX13_members_20 : rx_K := o_ld rx_isR 0 (o_ld rx_isI 4 (o_callV 1 13 FX13_memberMany (vX13_members_26)))
set_option maxRecDepth 20000 in
theorem wX13_members_20 (hZ : zO b e D A X) : rx_OK (zV b e D A X) mX13_members 3 20 vX13_members_20 := by
  unfold vX13_members_20
  refine s_aload_n hZ.1 dX13_members_20 rfl ?_
  refine s_iload hZ.1 dX13_members_21 ?_
  refine s_callV hZ.1 (Met_X13_memberMany hZ) (Nat.le_of_ble_eq_true rfl) vy_X13_memberMany zcl13 zw3630 zw324 (Or.inl zw3628) dX13_members_23 ?_
  exact (wX13_members_26 hZ)
noncomputable def vX13_members_16 : rx_K := o_const 34359738360 (vX13_members_26)
set_option maxRecDepth 20000 in
theorem wX13_members_16 (hZ : zO b e D A X) : rx_OK (zV b e D A X) mX13_members 3 16 vX13_members_16 := by
  unfold vX13_members_16
  refine s_iconst dX13_members_16 (by decide +kernel) ?_
  exact s_goto dX13_members_17 (by decide) (wX13_members_26 hZ)
noncomputable def vX13_members_0 : rx_K := o_ld rx_isR 0 (o_ld rx_isI 1 (o_ld rx_isI 2 (o_ld rx_isI 3 (o_callV 3 13 FX13_classAt (o_st rx_isI 4 (o_ld rx_isI 4 (o_const 34359738352 (o_c2 rx_eq vX13_members_16 vX13_members_20))))))))
set_option maxRecDepth 20000 in
theorem wX13_members_0 (hZ : zO b e D A X) : rx_OK (zV b e D A X) mX13_members 3 0 vX13_members_0 := by
  unfold vX13_members_0
  refine s_aload_n hZ.1 dX13_members_0 rfl ?_
  refine s_iload_n hZ.1 dX13_members_1 rfl ?_
  refine s_iload_n hZ.1 dX13_members_2 rfl ?_
  refine s_iload_n hZ.1 dX13_members_3 rfl ?_
  refine s_callV hZ.1 (Met_X13_classAt hZ) (Nat.le_of_ble_eq_true rfl) vy_X13_classAt zcl13 zw3626 zw323 (Or.inl zw3624) dX13_members_4 ?_
  refine s_istore hZ.1 dX13_members_7 (Nat.le_of_ble_eq_true rfl) ?_
  refine s_iload hZ.1 dX13_members_9 ?_
  refine s_bipush dX13_members_11 (by decide +kernel) ?_
  exact s_icmp_ne dX13_members_13 (by decide) (wX13_members_20 hZ) (wX13_members_16 hZ)
noncomputable def FX13_members : List Nat → rx_H → Option (Nat × rx_H) := rx_ent 5 vX13_members_0
theorem Met_X13_members (hZ : zO b e D A X) : rx_Met (zV b e D A X) 3 yX13_members mX13_members (FX13_members) := rx_entry hZ.1 (wX13_members_0 hZ) (by decide +kernel) rfl (fun h => by cases h)
end ZM58

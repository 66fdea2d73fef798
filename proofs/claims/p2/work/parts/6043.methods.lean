section ZM43
variable {b : Nat} {e : Nat → Value} {D : va_G} {A : Nat → ClassId} {X : State → Prop}
abbrev mX13_params : rx_M := (RX13, cX13_params, 6, none, false)
theorem vy_X13_params : rx_Y (zV b e D A X) yX13_params mX13_params 1 := ⟨zw3061, zw431, by decide, by decide +kernel, by decide +kernel, by decide +kernel⟩
noncomputable def vX13_params_219 (j : Nat → rx_K) : rx_K := o_ld rx_isR 0 (o_const 328 (o_callV 1 13 FX13_wantSign (o_ret0)))
set_option maxRecDepth 20000 in
theorem wX13_params_219 (hZ : zO b e D A X) (j : Nat → rx_K) (hj : ∀ k pc, [40][k]? = some pc → rx_OK (zV b e D A X) mX13_params 8 pc (j k)) : rx_OK (zV b e D A X) mX13_params 8 219 (vX13_params_219 j) := by
  unfold vX13_params_219
  refine s_aload_n hZ.1 dX13_params_219 rfl ?_
  refine s_bipush dX13_params_220 (by decide +kernel) ?_
  refine s_callV hZ.1 (Met_X13_wantSign hZ) (Nat.le_of_ble_eq_true rfl) vy_X13_wantSign zcl13 zw3037 zw196 (Or.inl zw3035) dX13_params_222 ?_
  exact s_vret rfl dX13_params_225
noncomputable def vX13_params_216 (j : Nat → rx_K) : rx_K := (j 0)
set_option maxRecDepth 20000 in
theorem wX13_params_216 (hZ : zO b e D A X) (j : Nat → rx_K) (hj : ∀ k pc, [40][k]? = some pc → rx_OK (zV b e D A X) mX13_params 8 pc (j k)) : rx_OK (zV b e D A X) mX13_params 8 216 (vX13_params_216 j) := by
  unfold vX13_params_216
  exact s_goto dX13_params_216 (by decide) (hj 0 40 rfl)
noncomputable def vX13_params_212 (j : Nat → rx_K) : rx_K := o_ld rx_isR 0 (o_callV 0 13 FX13_step ((vX13_params_216 j)))
set_option maxRecDepth 20000 in
theorem wX13_params_212 (hZ : zO b e D A X) (j : Nat → rx_K) (hj : ∀ k pc, [40][k]? = some pc → rx_OK (zV b e D A X) mX13_params 8 pc (j k)) : rx_OK (zV b e D A X) mX13_params 8 212 (vX13_params_212 j) := by
  unfold vX13_params_212
  refine s_aload_n hZ.1 dX13_params_212 rfl ?_
  refine s_callV hZ.1 (Met_X13_step hZ) (Nat.le_of_ble_eq_true rfl) vy_X13_step zcl13 zw2996 zw188 (Or.inl zw2994) dX13_params_213 ?_
  exact (wX13_params_216 hZ j hj)
noncomputable def vX13_params_207 (j : Nat → rx_K) : rx_K := o_st rx_isI 2 (o_ld rx_isI 2 (o_c1 rx_eq (vX13_params_216 j) (vX13_params_212 j)))
set_option maxRecDepth 20000 in
theorem wX13_params_207 (hZ : zO b e D A X) (j : Nat → rx_K) (hj : ∀ k pc, [40][k]? = some pc → rx_OK (zV b e D A X) mX13_params 8 pc (j k)) : rx_OK (zV b e D A X) mX13_params 8 207 (vX13_params_207 j) := by
  unfold vX13_params_207
  refine s_istore_n hZ.1 dX13_params_207 rfl (Nat.le_of_ble_eq_true rfl) ?_
  refine s_iload_n hZ.1 dX13_params_208 rfl ?_
  exact s_if_eq dX13_params_209 (by decide) (wX13_params_216 hZ j hj) (wX13_params_212 hZ j hj)
noncomputable def vX13_params_206 (j : Nat → rx_K) : rx_K := o_const 0 ((vX13_params_207 j))
set_option maxRecDepth 20000 in
theorem wX13_params_206 (hZ : zO b e D A X) (j : Nat → rx_K) (hj : ∀ k pc, [40][k]? = some pc → rx_OK (zV b e D A X) mX13_params 8 pc (j k)) : rx_OK (zV b e D A X) mX13_params 8 206 (vX13_params_206 j) := by
  unfold vX13_params_206
  refine s_iconst dX13_params_206 (by decide +kernel) ?_
  exact (wX13_params_207 hZ j hj)
noncomputable def vX13_params_202 (j : Nat → rx_K) : rx_K := o_const 8 ((vX13_params_207 j))
set_option maxRecDepth 20000 in
theorem wX13_params_202 (hZ : zO b e D A X) (j : Nat → rx_K) (hj : ∀ k pc, [40][k]? = some pc → rx_OK (zV b e D A X) mX13_params 8 pc (j k)) : rx_OK (zV b e D A X) mX13_params 8 202 (vX13_params_202 j) := by
  unfold vX13_params_202
  refine s_iconst dX13_params_202 (by decide +kernel) ?_
  exact s_goto dX13_params_203 (by decide) (wX13_params_207 hZ j hj)
noncomputable def vX13_params_193 (j : Nat → rx_K) : rx_K := o_ld rx_isR 0 (o_const 352 (o_callV 1 13 FX13_isSign (o_c1 rx_eq (vX13_params_206 j) (vX13_params_202 j))))
set_option maxRecDepth 20000 in
theorem wX13_params_193 (hZ : zO b e D A X) (j : Nat → rx_K) (hj : ∀ k pc, [40][k]? = some pc → rx_OK (zV b e D A X) mX13_params 8 pc (j k)) : rx_OK (zV b e D A X) mX13_params 8 193 (vX13_params_193 j) := by
  unfold vX13_params_193
  refine s_aload_n hZ.1 dX13_params_193 rfl ?_
  refine s_bipush dX13_params_194 (by decide +kernel) ?_
  refine s_callV hZ.1 (Met_X13_isSign hZ) (Nat.le_of_ble_eq_true rfl) vy_X13_isSign zcl13 zw3030 zw195 (Or.inl zw3028) dX13_params_196 ?_
  exact s_if_eq dX13_params_199 (by decide) (wX13_params_206 hZ j hj) (wX13_params_202 hZ j hj)
noncomputable def vX13_params_185 (j : Nat → rx_K) : rx_K := o_ast 0 (fun v => v) rx_isI (o_ld rx_isR 0 (o_getf 13 20 (o_c1 rx_eq (vX13_params_193 j) (vX13_params_206 j))))
set_option maxRecDepth 20000 in
theorem wX13_params_185 (hZ : zO b e D A X) (j : Nat → rx_K) (hj : ∀ k pc, [40][k]? = some pc → rx_OK (zV b e D A X) mX13_params 8 pc (j k)) : rx_OK (zV b e D A X) mX13_params 8 185 (vX13_params_185 j) := by
  unfold vX13_params_185
  refine s_iast hZ.1 (tt := 0) rfl dX13_params_185 ?_
  refine s_aload_n hZ.1 dX13_params_186 rfl ?_
  refine yg13_20 dX13_params_187 zw4141 ?_
  exact s_if_ne dX13_params_190 (by decide) (wX13_params_206 hZ j hj) (wX13_params_193 hZ j hj)
noncomputable def vX13_params_184 (j : Nat → rx_K) : rx_K := o_ld rx_isI 3 ((vX13_params_185 j))
set_option maxRecDepth 20000 in
theorem wX13_params_184 (hZ : zO b e D A X) (j : Nat → rx_K) (hj : ∀ k pc, [40][k]? = some pc → rx_OK (zV b e D A X) mX13_params 8 pc (j k)) : rx_OK (zV b e D A X) mX13_params 8 184 (vX13_params_184 j) := by
  unfold vX13_params_184
  refine s_iload_n hZ.1 dX13_params_184 rfl ?_
  exact (wX13_params_185 hZ j hj)
noncomputable def vX13_params_178 (j : Nat → rx_K) : rx_K := o_ld rx_isI 3 (o_const 8 (o_bi (fun x y => x + y) ((vX13_params_185 j))))
set_option maxRecDepth 20000 in
theorem wX13_params_178 (hZ : zO b e D A X) (j : Nat → rx_K) (hj : ∀ k pc, [40][k]? = some pc → rx_OK (zV b e D A X) mX13_params 8 pc (j k)) : rx_OK (zV b e D A X) mX13_params 8 178 (vX13_params_178 j) := by
  unfold vX13_params_178
  refine s_iload_n hZ.1 dX13_params_178 rfl ?_
  refine s_iconst dX13_params_179 (by decide +kernel) ?_
  refine s_iadd dX13_params_180 ?_
  exact s_goto dX13_params_181 (by decide) (wX13_params_185 hZ j hj)
noncomputable def vX13_params_146 (j : Nat → rx_K) : rx_K := o_ld rx_isR 0 (o_ld rx_isI 5 (o_callV 1 13 FX13_nameAt (o_ast 1 (fun v => v) rx_isL (o_ld rx_isR 0 (o_getf 13 59 (o_ld rx_isI 4 (o_ld rx_isR 0 (o_ld rx_isI 5 (o_callV 1 13 FX13_placeAt (o_ast 0 (fun v => v) rx_isI (o_ld rx_isR 0 (o_getf 13 55 (o_ld rx_isI 1 (o_ld rx_isR 0 (o_getf 13 20 (o_c1 rx_eq (vX13_params_178 j) (vX13_params_184 j)))))))))))))))))
set_option maxRecDepth 20000 in
theorem wX13_params_146 (hZ : zO b e D A X) (j : Nat → rx_K) (hj : ∀ k pc, [40][k]? = some pc → rx_OK (zV b e D A X) mX13_params 8 pc (j k)) : rx_OK (zV b e D A X) mX13_params 8 146 (vX13_params_146 j) := by
  unfold vX13_params_146
  refine s_aload_n hZ.1 dX13_params_146 rfl ?_
  refine s_iload hZ.1 dX13_params_147 ?_
  refine s_callV hZ.1 (Met_X13_nameAt hZ) (Nat.le_of_ble_eq_true rfl) vy_X13_nameAt zcl13 zw2987 zw187 (Or.inl zw2985) dX13_params_149 ?_
  refine s_last (tt := 1) rfl dX13_params_152 ?_
  refine s_aload_n hZ.1 dX13_params_153 rfl ?_
  refine yg13_59 dX13_params_154 zw4180 ?_
  refine s_iload hZ.1 dX13_params_157 ?_
  refine s_aload_n hZ.1 dX13_params_159 rfl ?_
  refine s_iload hZ.1 dX13_params_160 ?_
  refine s_callV hZ.1 (Met_X13_placeAt hZ) (Nat.le_of_ble_eq_true rfl) vy_X13_placeAt zcl13 zw3000 zw189 (Or.inl zw2998) dX13_params_162 ?_
  refine s_iast hZ.1 (tt := 0) rfl dX13_params_165 ?_
  refine s_aload_n hZ.1 dX13_params_166 rfl ?_
  refine yg13_55 dX13_params_167 zw4176 ?_
  refine s_iload_n hZ.1 dX13_params_170 rfl ?_
  refine s_aload_n hZ.1 dX13_params_171 rfl ?_
  refine yg13_20 dX13_params_172 zw4141 ?_
  exact s_if_ne dX13_params_175 (by decide) (wX13_params_184 hZ j hj) (wX13_params_178 hZ j hj)
noncomputable def vX13_params_103 (j : Nat → rx_K) : rx_K := o_bi (fun x y => x + y) (o_st rx_isI 4 (o_ld rx_isR 0 (o_getf 13 57 (o_ld rx_isI 4 (o_ld rx_isR 0 (o_ld rx_isR 0 (o_getf 13 22 (o_callV 1 13 FX13_placeAt (o_ast 0 (fun v => v) rx_isI (o_ld rx_isR 0 (o_getf 13 56 (o_ld rx_isI 4 (o_ld rx_isR 0 (o_callV 0 13 FX13_typeToken (o_ast 1 (fun v => v) rx_isL (o_ld rx_isR 0 (o_const 16 (o_const 0 (o_callV 2 13 FX13_want (o_st rx_isI 5 (o_ld rx_isR 0 (o_getf 13 58 (o_ld rx_isI 4 ((vX13_params_146 j)))))))))))))))))))))))))
set_option maxRecDepth 20000 in
theorem wX13_params_103 (hZ : zO b e D A X) (j : Nat → rx_K) (hj : ∀ k pc, [40][k]? = some pc → rx_OK (zV b e D A X) mX13_params 8 pc (j k)) : rx_OK (zV b e D A X) mX13_params 8 103 (vX13_params_103 j) := by
  unfold vX13_params_103
  refine s_iadd dX13_params_103 ?_
  refine s_istore hZ.1 dX13_params_104 (Nat.le_of_ble_eq_true rfl) ?_
  refine s_aload_n hZ.1 dX13_params_106 rfl ?_
  refine yg13_57 dX13_params_107 zw4178 ?_
  refine s_iload hZ.1 dX13_params_110 ?_
  refine s_aload_n hZ.1 dX13_params_112 rfl ?_
  refine s_aload_n hZ.1 dX13_params_113 rfl ?_
  refine yg13_22 dX13_params_114 zw4143 ?_
  refine s_callV hZ.1 (Met_X13_placeAt hZ) (Nat.le_of_ble_eq_true rfl) vy_X13_placeAt zcl13 zw3000 zw189 (Or.inl zw2998) dX13_params_117 ?_
  refine s_iast hZ.1 (tt := 0) rfl dX13_params_120 ?_
  refine s_aload_n hZ.1 dX13_params_121 rfl ?_
  refine yg13_56 dX13_params_122 zw4177 ?_
  refine s_iload hZ.1 dX13_params_125 ?_
  refine s_aload_n hZ.1 dX13_params_127 rfl ?_
  refine s_callV hZ.1 (Met_X13_typeToken hZ) (Nat.le_of_ble_eq_true rfl) vy_X13_typeToken zcl13 zw3064 zw201 (Or.inl zw3062) dX13_params_128 ?_
  refine s_last (tt := 1) rfl dX13_params_131 ?_
  refine s_aload_n hZ.1 dX13_params_132 rfl ?_
  refine s_iconst dX13_params_133 (by decide +kernel) ?_
  refine s_iconst dX13_params_134 (by decide +kernel) ?_
  refine s_callV hZ.1 (Met_X13_want hZ) (Nat.le_of_ble_eq_true rfl) vy_X13_want zcl13 zw3020 zw193 (Or.inl zw3018) dX13_params_135 ?_
  refine s_istore hZ.1 dX13_params_138 (Nat.le_of_ble_eq_true rfl) ?_
  refine s_aload_n hZ.1 dX13_params_140 rfl ?_
  refine yg13_58 dX13_params_141 zw4179 ?_
  refine s_iload hZ.1 dX13_params_144 ?_
  exact (wX13_params_146 hZ j hj)
noncomputable def vX13_params_102 (j : Nat → rx_K) : rx_K := o_const 24 ((vX13_params_103 j))
set_option maxRecDepth 20000 in
theorem wX13_params_102 (hZ : zO b e D A X) (j : Nat → rx_K) (hj : ∀ k pc, [40][k]? = some pc → rx_OK (zV b e D A X) mX13_params 8 pc (j k)) : rx_OK (zV b e D A X) mX13_params 8 102 (vX13_params_102 j) := by
  unfold vX13_params_102
  refine s_iconst dX13_params_102 (by decide +kernel) ?_
  exact (wX13_params_103 hZ j hj)
noncomputable def vX13_params_98 (j : Nat → rx_K) : rx_K := o_ld rx_isI 3 ((vX13_params_103 j))
set_option maxRecDepth 20000 in
theorem wX13_params_98 (hZ : zO b e D A X) (j : Nat → rx_K) (hj : ∀ k pc, [40][k]? = some pc → rx_OK (zV b e D A X) mX13_params 8 pc (j k)) : rx_OK (zV b e D A X) mX13_params 8 98 (vX13_params_98 j) := by
  unfold vX13_params_98
  refine s_iload_n hZ.1 dX13_params_98 rfl ?_
  exact s_goto dX13_params_99 (by decide) (wX13_params_103 hZ j hj)
noncomputable def vX13_params_90 (j : Nat → rx_K) : rx_K := o_const 32 (o_ld rx_isI 1 (o_bi (fun x y => x * y) (o_ld rx_isI 3 (o_const 32 (o_c2 rx_lt (vX13_params_98 j) (vX13_params_102 j))))))
set_option maxRecDepth 20000 in
theorem wX13_params_90 (hZ : zO b e D A X) (j : Nat → rx_K) (hj : ∀ k pc, [40][k]? = some pc → rx_OK (zV b e D A X) mX13_params 8 pc (j k)) : rx_OK (zV b e D A X) mX13_params 8 90 (vX13_params_90 j) := by
  unfold vX13_params_90
  refine s_iconst dX13_params_90 (by decide +kernel) ?_
  refine s_iload_n hZ.1 dX13_params_91 rfl ?_
  refine s_imul dX13_params_92 ?_
  refine s_iload_n hZ.1 dX13_params_93 rfl ?_
  refine s_iconst dX13_params_94 (by decide +kernel) ?_
  exact s_icmp_ge dX13_params_95 (by decide) (wX13_params_102 hZ j hj) (wX13_params_98 hZ j hj)
noncomputable def vX13_params_77 (j : Nat → rx_K) : rx_K := o_ld rx_isR 0 (o_const 24 (o_ld rx_isR 0 (o_ld rx_isR 0 (o_getf 13 22 (o_callV 1 13 FX13_placeAt (o_callV 2 13 FX13_fault ((vX13_params_90 j))))))))
set_option maxRecDepth 20000 in
theorem wX13_params_77 (hZ : zO b e D A X) (j : Nat → rx_K) (hj : ∀ k pc, [40][k]? = some pc → rx_OK (zV b e D A X) mX13_params 8 pc (j k)) : rx_OK (zV b e D A X) mX13_params 8 77 (vX13_params_77 j) := by
  unfold vX13_params_77
  refine s_aload_n hZ.1 dX13_params_77 rfl ?_
  refine s_iconst dX13_params_78 (by decide +kernel) ?_
  refine s_aload_n hZ.1 dX13_params_79 rfl ?_
  refine s_aload_n hZ.1 dX13_params_80 rfl ?_
  refine yg13_22 dX13_params_81 zw4143 ?_
  refine s_callV hZ.1 (Met_X13_placeAt hZ) (Nat.le_of_ble_eq_true rfl) vy_X13_placeAt zcl13 zw3000 zw189 (Or.inl zw2998) dX13_params_84 ?_
  refine s_callV hZ.1 (Met_X13_fault hZ) (Nat.le_of_ble_eq_true rfl) vy_X13_fault zcl13 zw3004 zw190 (Or.inl zw3002) dX13_params_87 ?_
  exact (wX13_params_90 hZ j hj)
noncomputable def vX13_params_65 (j : Nat → rx_K) : rx_K := o_ld rx_isR 0 (o_ld rx_isR 0 (o_getf 13 22 (o_callV 1 13 FX13_kindAt (o_const 8 (o_c2 rx_eq (vX13_params_77 j) (vX13_params_90 j))))))
set_option maxRecDepth 20000 in
theorem wX13_params_65 (hZ : zO b e D A X) (j : Nat → rx_K) (hj : ∀ k pc, [40][k]? = some pc → rx_OK (zV b e D A X) mX13_params 8 pc (j k)) : rx_OK (zV b e D A X) mX13_params 8 65 (vX13_params_65 j) := by
  unfold vX13_params_65
  refine s_aload_n hZ.1 dX13_params_65 rfl ?_
  refine s_aload_n hZ.1 dX13_params_66 rfl ?_
  refine yg13_22 dX13_params_67 zw4143 ?_
  refine s_callV hZ.1 (Met_X13_kindAt hZ) (Nat.le_of_ble_eq_true rfl) vy_X13_kindAt zcl13 zw2970 zw183 (Or.inl zw2968) dX13_params_70 ?_
  refine s_iconst dX13_params_73 (by decide +kernel) ?_
  exact s_icmp_ne dX13_params_74 (by decide) (wX13_params_90 hZ j hj) (wX13_params_77 hZ j hj)
noncomputable def vX13_params_56 (j : Nat → rx_K) : rx_K := o_ld rx_isR 0 (o_const 484 (o_callV 1 13 FX13_isWordAt (o_c1 rx_eq (vX13_params_65 j) (vX13_params_77 j))))
set_option maxRecDepth 20000 in
theorem wX13_params_56 (hZ : zO b e D A X) (j : Nat → rx_K) (hj : ∀ k pc, [40][k]? = some pc → rx_OK (zV b e D A X) mX13_params 8 pc (j k)) : rx_OK (zV b e D A X) mX13_params 8 56 (vX13_params_56 j) := by
  unfold vX13_params_56
  refine s_aload_n hZ.1 dX13_params_56 rfl ?_
  refine s_ldcS (k := 60) (zo_R60 hZ) dX13_params_57 ?_
  refine s_callV hZ.1 (Met_X13_isWordAt hZ) (Nat.le_of_ble_eq_true rfl) vy_X13_isWordAt zcl13 zw2983 zw186 (Or.inl zw2981) dX13_params_59 ?_
  exact s_if_ne dX13_params_62 (by decide) (wX13_params_77 hZ j hj) (wX13_params_65 hZ j hj)
noncomputable def vX13_params_44 (j : Nat → rx_K) : rx_K := o_ld rx_isR 0 (o_getf 13 55 (o_ld rx_isI 1 (o_ald 0 (o_st rx_isI 3 (o_ld rx_isI 3 (o_const 32 (o_c2 rx_eq (vX13_params_56 j) (vX13_params_90 j))))))))
set_option maxRecDepth 20000 in
theorem wX13_params_44 (hZ : zO b e D A X) (j : Nat → rx_K) (hj : ∀ k pc, [40][k]? = some pc → rx_OK (zV b e D A X) mX13_params 8 pc (j k)) : rx_OK (zV b e D A X) mX13_params 8 44 (vX13_params_44 j) := by
  unfold vX13_params_44
  refine s_aload_n hZ.1 dX13_params_44 rfl ?_
  refine yg13_55 dX13_params_45 zw4176 ?_
  refine s_iload_n hZ.1 dX13_params_48 rfl ?_
  refine s_iald (tt := 0) rfl dX13_params_49 ?_
  refine s_istore_n hZ.1 dX13_params_50 rfl (Nat.le_of_ble_eq_true rfl) ?_
  refine s_iload_n hZ.1 dX13_params_51 rfl ?_
  refine s_iconst dX13_params_52 (by decide +kernel) ?_
  exact s_icmp_ne dX13_params_53 (by decide) (wX13_params_90 hZ j hj) (wX13_params_56 hZ j hj)
noncomputable def vX13_params_40 (j : Nat → rx_K) : rx_K := o_ld rx_isI 2 (o_c1 rx_eq (vX13_params_219 j) (vX13_params_44 j))
set_option maxRecDepth 20000 in
theorem wX13_params_40 (hZ : zO b e D A X) (j : Nat → rx_K) (hj : ∀ k pc, [40][k]? = some pc → rx_OK (zV b e D A X) mX13_params 8 pc (j k)) : rx_OK (zV b e D A X) mX13_params 8 40 (vX13_params_40 j) := by
  unfold vX13_params_40
  refine s_iload_n hZ.1 dX13_params_40 rfl ?_
  exact s_if_eq dX13_params_41 (by decide) (wX13_params_219 hZ j hj) (wX13_params_44 hZ j hj)
noncomputable def vX13_params_39 (j : Nat → rx_K) : rx_K := o_st rx_isI 2 ((vX13_params_40 j))
set_option maxRecDepth 20000 in
theorem wX13_params_39 (hZ : zO b e D A X) (j : Nat → rx_K) (hj : ∀ k pc, [40][k]? = some pc → rx_OK (zV b e D A X) mX13_params 8 pc (j k)) : rx_OK (zV b e D A X) mX13_params 8 39 (vX13_params_39 j) := by
  unfold vX13_params_39
  refine s_istore_n hZ.1 dX13_params_39 rfl (Nat.le_of_ble_eq_true rfl) ?_
  exact (wX13_params_40 hZ j hj)
noncomputable def vX13_params_38 (j : Nat → rx_K) : rx_K := o_const 0 ((vX13_params_39 j))
set_option maxRecDepth 20000 in
theorem wX13_params_38 (hZ : zO b e D A X) (j : Nat → rx_K) (hj : ∀ k pc, [40][k]? = some pc → rx_OK (zV b e D A X) mX13_params 8 pc (j k)) : rx_OK (zV b e D A X) mX13_params 8 38 (vX13_params_38 j) := by
  unfold vX13_params_38
  refine s_iconst dX13_params_38 (by decide +kernel) ?_
  exact (wX13_params_39 hZ j hj)
noncomputable def vX13_params_34 (j : Nat → rx_K) : rx_K := o_const 8 ((vX13_params_39 j))
set_option maxRecDepth 20000 in
theorem wX13_params_34 (hZ : zO b e D A X) (j : Nat → rx_K) (hj : ∀ k pc, [40][k]? = some pc → rx_OK (zV b e D A X) mX13_params 8 pc (j k)) : rx_OK (zV b e D A X) mX13_params 8 34 (vX13_params_34 j) := by
  unfold vX13_params_34
  refine s_iconst dX13_params_34 (by decide +kernel) ?_
  exact s_goto dX13_params_35 (by decide) (wX13_params_39 hZ j hj)
noncomputable def vX13_params_27 (j : Nat → rx_K) : rx_K := o_ld rx_isR 0 (o_getf 13 20 (o_c1 rx_eq (vX13_params_34 j) (vX13_params_38 j)))
set_option maxRecDepth 20000 in
theorem wX13_params_27 (hZ : zO b e D A X) (j : Nat → rx_K) (hj : ∀ k pc, [40][k]? = some pc → rx_OK (zV b e D A X) mX13_params 8 pc (j k)) : rx_OK (zV b e D A X) mX13_params 8 27 (vX13_params_27 j) := by
  unfold vX13_params_27
  refine s_aload_n hZ.1 dX13_params_27 rfl ?_
  refine yg13_20 dX13_params_28 zw4141 ?_
  exact s_if_ne dX13_params_31 (by decide) (wX13_params_38 hZ j hj) (wX13_params_34 hZ j hj)
noncomputable def vX13_params_22 (j : Nat → rx_K) : rx_K := o_ld rx_isR 0 (o_callV 0 13 FX13_step (o_ret0))
set_option maxRecDepth 20000 in
theorem wX13_params_22 (hZ : zO b e D A X) (j : Nat → rx_K) (hj : ∀ k pc, [40][k]? = some pc → rx_OK (zV b e D A X) mX13_params 8 pc (j k)) : rx_OK (zV b e D A X) mX13_params 8 22 (vX13_params_22 j) := by
  unfold vX13_params_22
  refine s_aload_n hZ.1 dX13_params_22 rfl ?_
  refine s_callV hZ.1 (Met_X13_step hZ) (Nat.le_of_ble_eq_true rfl) vy_X13_step zcl13 zw2996 zw188 (Or.inl zw2994) dX13_params_23 ?_
  exact s_vret rfl dX13_params_26
noncomputable def vX13_params_13 (j : Nat → rx_K) : rx_K := o_ld rx_isR 0 (o_const 328 (o_callV 1 13 FX13_isSign (o_c1 rx_eq (vX13_params_27 j) (vX13_params_22 j))))
set_option maxRecDepth 20000 in
theorem wX13_params_13 (hZ : zO b e D A X) (j : Nat → rx_K) (hj : ∀ k pc, [40][k]? = some pc → rx_OK (zV b e D A X) mX13_params 8 pc (j k)) : rx_OK (zV b e D A X) mX13_params 8 13 (vX13_params_13 j) := by
  unfold vX13_params_13
  refine s_aload_n hZ.1 dX13_params_13 rfl ?_
  refine s_bipush dX13_params_14 (by decide +kernel) ?_
  refine s_callV hZ.1 (Met_X13_isSign hZ) (Nat.le_of_ble_eq_true rfl) vy_X13_isSign zcl13 zw3030 zw195 (Or.inl zw3028) dX13_params_16 ?_
  exact s_if_eq dX13_params_19 (by decide) (wX13_params_27 hZ j hj) (wX13_params_22 hZ j hj)
noncomputable def vX13_params_0 (j : Nat → rx_K) : rx_K := o_ld rx_isR 0 (o_const 320 (o_callV 1 13 FX13_wantSign (o_ld rx_isR 0 (o_getf 13 20 (o_c1 rx_eq (vX13_params_13 j) (vX13_params_27 j))))))
set_option maxRecDepth 20000 in
theorem wX13_params_0 (hZ : zO b e D A X) (j : Nat → rx_K) (hj : ∀ k pc, [40][k]? = some pc → rx_OK (zV b e D A X) mX13_params 8 pc (j k)) : rx_OK (zV b e D A X) mX13_params 8 0 (vX13_params_0 j) := by
  unfold vX13_params_0
  refine s_aload_n hZ.1 dX13_params_0 rfl ?_
  refine s_bipush dX13_params_1 (by decide +kernel) ?_
  refine s_callV hZ.1 (Met_X13_wantSign hZ) (Nat.le_of_ble_eq_true rfl) vy_X13_wantSign zcl13 zw3037 zw196 (Or.inl zw3035) dX13_params_3 ?_
  refine s_aload_n hZ.1 dX13_params_6 rfl ?_
  refine yg13_20 dX13_params_7 zw4141 ?_
  exact s_if_ne dX13_params_10 (by decide) (wX13_params_27 hZ j hj) (wX13_params_13 hZ j hj)
noncomputable def vhX13_params (j : Nat → rx_K) : List rx_K := [vX13_params_40 j]
theorem vlX13_params (hZ : zO b e D A X) : ∀ n k pc, [40][k]? = some pc → rx_OK (zV b e D A X) mX13_params 8 pc (rx_J (vhX13_params) n k) := rx_loop fun j hj k pc h => by
  match k, h with
  | 0, h =>
    have e9 := Option.some.inj (show some 40 = some pc from h)
    subst e9
    exact wX13_params_40 hZ j hj
  | _ + 1, h => exact absurd h (by simp)
noncomputable def FX13_params : List Nat → rx_H → Option (Nat × rx_H) := rx_ent 6 (vX13_params_0 (rx_J (vhX13_params) 4000000000))
theorem Met_X13_params (hZ : zO b e D A X) : rx_Met (zV b e D A X) 8 yX13_params mX13_params (FX13_params) := rx_entry hZ.1 (wX13_params_0 hZ _ (vlX13_params hZ 4000000000)) (by decide +kernel) rfl (fun h => by cases h)
abbrev mX13_fieldOrMethod : rx_M := (RX13, cX13_fieldOrMethod, 4, none, false)
theorem vy_X13_fieldOrMethod : rx_Y (zV b e D A X) yX13_fieldOrMethod mX13_fieldOrMethod 1 := ⟨zw3155, zw431, by decide, by decide +kernel, by decide +kernel, by decide +kernel⟩
noncomputable def vX13_fieldOrMethod_266 : rx_K := o_ret0
set_option maxRecDepth 20000 in
theorem wX13_fieldOrMethod_266 (hZ : zO b e D A X) : rx_OK (zV b e D A X) mX13_fieldOrMethod 410 266 vX13_fieldOrMethod_266 := by
  unfold vX13_fieldOrMethod_266
  exact s_vret rfl dX13_fieldOrMethod_266
noncomputable def vX13_fieldOrMethod_260 : rx_K := o_ld rx_isR 0 (o_const 472 (o_callV 1 13 FX13_wantSign (vX13_fieldOrMethod_266)))
set_option maxRecDepth 20000 in
theorem wX13_fieldOrMethod_260 (hZ : zO b e D A X) : rx_OK (zV b e D A X) mX13_fieldOrMethod 410 260 vX13_fieldOrMethod_260 := by
  unfold vX13_fieldOrMethod_260
  refine s_aload_n hZ.1 dX13_fieldOrMethod_260 rfl ?_
  refine s_bipush dX13_fieldOrMethod_261 (by decide +kernel) ?_
  refine s_callV hZ.1 (Met_X13_wantSign hZ) (Nat.le_of_ble_eq_true rfl) vy_X13_wantSign zcl13 zw3037 zw196 (Or.inl zw3035) dX13_fieldOrMethod_263 ?_
  exact (wX13_fieldOrMethod_266 hZ)
noncomputable def vX13_fieldOrMethod_226 : rx_K := o_ld rx_isR 0 (o_callV 0 13 FX13_step (o_ld rx_isR 0 (o_getf 13 62 (o_ld rx_isI 1 (o_ld rx_isR 0 (o_getf 13 22 (o_ast 0 (fun v => v) rx_isI (o_ld rx_isR 0 (o_getf 13 60 (o_ld rx_isI 1 (o_ld rx_isR 0 (o_callV 0 13 (q8 200 1) (o_ast 0 (fun v => v) rx_isI (o_ld rx_isR 0 (o_getf 13 63 (o_ld rx_isI 1 (o_ld rx_isR 0 (o_getf 13 22 (o_ast 0 (fun v => v) rx_isI (vX13_fieldOrMethod_260))))))))))))))))))))
set_option maxRecDepth 20000 in
theorem wX13_fieldOrMethod_226 (hZ : zO b e D A X) : rx_OK (zV b e D A X) mX13_fieldOrMethod 410 226 vX13_fieldOrMethod_226 := by
  unfold vX13_fieldOrMethod_226
  refine s_aload_n hZ.1 dX13_fieldOrMethod_226 rfl ?_
  refine s_callV hZ.1 (Met_X13_step hZ) (Nat.le_of_ble_eq_true rfl) vy_X13_step zcl13 zw2996 zw188 (Or.inl zw2994) dX13_fieldOrMethod_227 ?_
  refine s_aload_n hZ.1 dX13_fieldOrMethod_230 rfl ?_
  refine yg13_62 dX13_fieldOrMethod_231 zw4183 ?_
  refine s_iload_n hZ.1 dX13_fieldOrMethod_234 rfl ?_
  refine s_aload_n hZ.1 dX13_fieldOrMethod_235 rfl ?_
  refine yg13_22 dX13_fieldOrMethod_236 zw4143 ?_
  refine s_iast hZ.1 (tt := 0) rfl dX13_fieldOrMethod_239 ?_
  refine s_aload_n hZ.1 dX13_fieldOrMethod_240 rfl ?_
  refine yg13_60 dX13_fieldOrMethod_241 zw4181 ?_
  refine s_iload_n hZ.1 dX13_fieldOrMethod_244 rfl ?_
  refine s_aload_n hZ.1 dX13_fieldOrMethod_245 rfl ?_
  refine s_callV hZ.1 (q8_ok hZ 200 1 _ _ rfl) (Nat.le_of_ble_eq_true rfl) vy_X13_expression zcl13 zw3107 zw209 (Or.inl zw3105) dX13_fieldOrMethod_246 ?_
  refine s_iast hZ.1 (tt := 0) rfl dX13_fieldOrMethod_249 ?_
  refine s_aload_n hZ.1 dX13_fieldOrMethod_250 rfl ?_
  refine yg13_63 dX13_fieldOrMethod_251 zw4184 ?_
  refine s_iload_n hZ.1 dX13_fieldOrMethod_254 rfl ?_
  refine s_aload_n hZ.1 dX13_fieldOrMethod_255 rfl ?_
  refine yg13_22 dX13_fieldOrMethod_256 zw4143 ?_
  refine s_iast hZ.1 (tt := 0) rfl dX13_fieldOrMethod_259 ?_
  exact (wX13_fieldOrMethod_260 hZ)
noncomputable def vX13_fieldOrMethod_217 : rx_K := o_ld rx_isR 0 (o_const 488 (o_callV 1 13 FX13_isSign (o_c1 rx_eq vX13_fieldOrMethod_260 vX13_fieldOrMethod_226)))
set_option maxRecDepth 20000 in
theorem wX13_fieldOrMethod_217 (hZ : zO b e D A X) : rx_OK (zV b e D A X) mX13_fieldOrMethod 410 217 vX13_fieldOrMethod_217 := by
  unfold vX13_fieldOrMethod_217
  refine s_aload_n hZ.1 dX13_fieldOrMethod_217 rfl ?_
  refine s_bipush dX13_fieldOrMethod_218 (by decide +kernel) ?_
  refine s_callV hZ.1 (Met_X13_isSign hZ) (Nat.le_of_ble_eq_true rfl) vy_X13_isSign zcl13 zw3030 zw195 (Or.inl zw3028) dX13_fieldOrMethod_220 ?_
  exact s_if_eq dX13_fieldOrMethod_223 (by decide) (wX13_fieldOrMethod_260 hZ) (wX13_fieldOrMethod_226 hZ)
noncomputable def vX13_fieldOrMethod_203 : rx_K := o_ld rx_isR 0 (o_getf 13 42 (o_ld rx_isI 1 (o_const 0 (o_ast 0 (fun v => v) rx_isI (o_ld rx_isR 0 (o_getf 13 20 (o_c1 rx_eq vX13_fieldOrMethod_217 vX13_fieldOrMethod_260)))))))
set_option maxRecDepth 20000 in
theorem wX13_fieldOrMethod_203 (hZ : zO b e D A X) : rx_OK (zV b e D A X) mX13_fieldOrMethod 410 203 vX13_fieldOrMethod_203 := by
  unfold vX13_fieldOrMethod_203
  refine s_aload_n hZ.1 dX13_fieldOrMethod_203 rfl ?_
  refine yg13_42 dX13_fieldOrMethod_204 zw4163 ?_
  refine s_iload_n hZ.1 dX13_fieldOrMethod_207 rfl ?_
  refine s_iconst dX13_fieldOrMethod_208 (by decide +kernel) ?_
  refine s_iast hZ.1 (tt := 0) rfl dX13_fieldOrMethod_209 ?_
  refine s_aload_n hZ.1 dX13_fieldOrMethod_210 rfl ?_
  refine yg13_20 dX13_fieldOrMethod_211 zw4141 ?_
  exact s_if_ne dX13_fieldOrMethod_214 (by decide) (wX13_fieldOrMethod_260 hZ) (wX13_fieldOrMethod_217 hZ)
noncomputable def vX13_fieldOrMethod_195 : rx_K := o_ld rx_isR 0 (o_ld rx_isI 1 (o_callV 1 13 FX13_body (vX13_fieldOrMethod_266)))
set_option maxRecDepth 20000 in
theorem wX13_fieldOrMethod_195 (hZ : zO b e D A X) : rx_OK (zV b e D A X) mX13_fieldOrMethod 410 195 vX13_fieldOrMethod_195 := by
  unfold vX13_fieldOrMethod_195
  refine s_aload_n hZ.1 dX13_fieldOrMethod_195 rfl ?_
  refine s_iload_n hZ.1 dX13_fieldOrMethod_196 rfl ?_
  refine s_callV hZ.1 (Met_X13_body hZ) (Nat.le_of_ble_eq_true rfl) vy_X13_body zcl13 zw3069 zw202 (Or.inl zw3067) dX13_fieldOrMethod_197 ?_
  exact s_goto dX13_fieldOrMethod_200 (by decide) (wX13_fieldOrMethod_266 hZ)
noncomputable def vX13_fieldOrMethod_188 : rx_K := o_ld rx_isR 0 (o_callV 0 13 FX13_step (vX13_fieldOrMethod_266))
set_option maxRecDepth 20000 in
theorem wX13_fieldOrMethod_188 (hZ : zO b e D A X) : rx_OK (zV b e D A X) mX13_fieldOrMethod 410 188 vX13_fieldOrMethod_188 := by
  unfold vX13_fieldOrMethod_188
  refine s_aload_n hZ.1 dX13_fieldOrMethod_188 rfl ?_
  refine s_callV hZ.1 (Met_X13_step hZ) (Nat.le_of_ble_eq_true rfl) vy_X13_step zcl13 zw2996 zw188 (Or.inl zw2994) dX13_fieldOrMethod_189 ?_
  exact s_goto dX13_fieldOrMethod_192 (by decide) (wX13_fieldOrMethod_266 hZ)
noncomputable def vX13_fieldOrMethod_179 : rx_K := o_ld rx_isR 0 (o_const 472 (o_callV 1 13 FX13_isSign (o_c1 rx_eq vX13_fieldOrMethod_195 vX13_fieldOrMethod_188)))
set_option maxRecDepth 20000 in
theorem wX13_fieldOrMethod_179 (hZ : zO b e D A X) : rx_OK (zV b e D A X) mX13_fieldOrMethod 410 179 vX13_fieldOrMethod_179 := by
  unfold vX13_fieldOrMethod_179
  refine s_aload_n hZ.1 dX13_fieldOrMethod_179 rfl ?_
  refine s_bipush dX13_fieldOrMethod_180 (by decide +kernel) ?_
  refine s_callV hZ.1 (Met_X13_isSign hZ) (Nat.le_of_ble_eq_true rfl) vy_X13_isSign zcl13 zw3030 zw195 (Or.inl zw3028) dX13_fieldOrMethod_182 ?_
  exact s_if_eq dX13_fieldOrMethod_185 (by decide) (wX13_fieldOrMethod_195 hZ) (wX13_fieldOrMethod_188 hZ)
noncomputable def vX13_fieldOrMethod_160 : rx_K := o_ld rx_isR 0 (o_getf 13 42 (o_ld rx_isI 1 (o_const 8 (o_ast 0 (fun v => v) rx_isI (o_ld rx_isR 0 (o_ld rx_isI 1 (o_callV 1 13 FX13_params (o_ld rx_isR 0 (o_getf 13 20 (o_c1 rx_eq vX13_fieldOrMethod_179 vX13_fieldOrMethod_195))))))))))
set_option maxRecDepth 20000 in
theorem wX13_fieldOrMethod_160 (hZ : zO b e D A X) : rx_OK (zV b e D A X) mX13_fieldOrMethod 410 160 vX13_fieldOrMethod_160 := by
  unfold vX13_fieldOrMethod_160
  refine s_aload_n hZ.1 dX13_fieldOrMethod_160 rfl ?_
  refine yg13_42 dX13_fieldOrMethod_161 zw4163 ?_
  refine s_iload_n hZ.1 dX13_fieldOrMethod_164 rfl ?_
  refine s_iconst dX13_fieldOrMethod_165 (by decide +kernel) ?_
  refine s_iast hZ.1 (tt := 0) rfl dX13_fieldOrMethod_166 ?_
  refine s_aload_n hZ.1 dX13_fieldOrMethod_167 rfl ?_
  refine s_iload_n hZ.1 dX13_fieldOrMethod_168 rfl ?_
  refine s_callV hZ.1 (Met_X13_params hZ) (Nat.le_of_ble_eq_true rfl) vy_X13_params zcl13 zw3060 zw200 (Or.inl zw3058) dX13_fieldOrMethod_169 ?_
  refine s_aload_n hZ.1 dX13_fieldOrMethod_172 rfl ?_
  refine yg13_20 dX13_fieldOrMethod_173 zw4141 ?_
  exact s_if_ne dX13_fieldOrMethod_176 (by decide) (wX13_fieldOrMethod_195 hZ) (wX13_fieldOrMethod_179 hZ)
noncomputable def vX13_fieldOrMethod_151 : rx_K := o_ld rx_isR 0 (o_const 320 (o_callV 1 13 FX13_isSign (o_c1 rx_eq vX13_fieldOrMethod_203 vX13_fieldOrMethod_160)))
set_option maxRecDepth 20000 in
theorem wX13_fieldOrMethod_151 (hZ : zO b e D A X) : rx_OK (zV b e D A X) mX13_fieldOrMethod 410 151 vX13_fieldOrMethod_151 := by
  unfold vX13_fieldOrMethod_151
  refine s_aload_n hZ.1 dX13_fieldOrMethod_151 rfl ?_
  refine s_bipush dX13_fieldOrMethod_152 (by decide +kernel) ?_
  refine s_callV hZ.1 (Met_X13_isSign hZ) (Nat.le_of_ble_eq_true rfl) vy_X13_isSign zcl13 zw3030 zw195 (Or.inl zw3028) dX13_fieldOrMethod_154 ?_
  exact s_if_eq dX13_fieldOrMethod_157 (by decide) (wX13_fieldOrMethod_203 hZ) (wX13_fieldOrMethod_160 hZ)
noncomputable def vX13_fieldOrMethod_147 : rx_K := o_ld rx_isI 2 (o_c1 rx_eq vX13_fieldOrMethod_151 vX13_fieldOrMethod_160)
set_option maxRecDepth 20000 in
theorem wX13_fieldOrMethod_147 (hZ : zO b e D A X) : rx_OK (zV b e D A X) mX13_fieldOrMethod 410 147 vX13_fieldOrMethod_147 := by
  unfold vX13_fieldOrMethod_147
  refine s_iload_n hZ.1 dX13_fieldOrMethod_147 rfl ?_
  exact s_if_ne dX13_fieldOrMethod_148 (by decide) (wX13_fieldOrMethod_160 hZ) (wX13_fieldOrMethod_151 hZ)
noncomputable def vX13_fieldOrMethod_111 : rx_K := o_ld rx_isR 0 (o_const 16 (o_const 0 (o_callV 2 13 FX13_want (o_st rx_isI 3 (o_ld rx_isR 0 (o_getf 13 51 (o_ld rx_isI 1 (o_ld rx_isR 0 (o_ld rx_isI 3 (o_callV 1 13 FX13_nameAt (o_ast 1 (fun v => v) rx_isL (o_ld rx_isR 0 (o_getf 13 52 (o_ld rx_isI 1 (o_ld rx_isR 0 (o_ld rx_isI 3 (o_callV 1 13 FX13_placeAt (o_ast 0 (fun v => v) rx_isI (o_ld rx_isR 0 (o_getf 13 20 (o_c1 rx_eq vX13_fieldOrMethod_147 vX13_fieldOrMethod_203)))))))))))))))))))))
set_option maxRecDepth 20000 in
theorem wX13_fieldOrMethod_111 (hZ : zO b e D A X) : rx_OK (zV b e D A X) mX13_fieldOrMethod 410 111 vX13_fieldOrMethod_111 := by
  unfold vX13_fieldOrMethod_111
  refine s_aload_n hZ.1 dX13_fieldOrMethod_111 rfl ?_
  refine s_iconst dX13_fieldOrMethod_112 (by decide +kernel) ?_
  refine s_iconst dX13_fieldOrMethod_113 (by decide +kernel) ?_
  refine s_callV hZ.1 (Met_X13_want hZ) (Nat.le_of_ble_eq_true rfl) vy_X13_want zcl13 zw3020 zw193 (Or.inl zw3018) dX13_fieldOrMethod_114 ?_
  refine s_istore_n hZ.1 dX13_fieldOrMethod_117 rfl (Nat.le_of_ble_eq_true rfl) ?_
  refine s_aload_n hZ.1 dX13_fieldOrMethod_118 rfl ?_
  refine yg13_51 dX13_fieldOrMethod_119 zw4172 ?_
  refine s_iload_n hZ.1 dX13_fieldOrMethod_122 rfl ?_
  refine s_aload_n hZ.1 dX13_fieldOrMethod_123 rfl ?_
  refine s_iload_n hZ.1 dX13_fieldOrMethod_124 rfl ?_
  refine s_callV hZ.1 (Met_X13_nameAt hZ) (Nat.le_of_ble_eq_true rfl) vy_X13_nameAt zcl13 zw2987 zw187 (Or.inl zw2985) dX13_fieldOrMethod_125 ?_
  refine s_last (tt := 1) rfl dX13_fieldOrMethod_128 ?_
  refine s_aload_n hZ.1 dX13_fieldOrMethod_129 rfl ?_
  refine yg13_52 dX13_fieldOrMethod_130 zw4173 ?_
  refine s_iload_n hZ.1 dX13_fieldOrMethod_133 rfl ?_
  refine s_aload_n hZ.1 dX13_fieldOrMethod_134 rfl ?_
  refine s_iload_n hZ.1 dX13_fieldOrMethod_135 rfl ?_
  refine s_callV hZ.1 (Met_X13_placeAt hZ) (Nat.le_of_ble_eq_true rfl) vy_X13_placeAt zcl13 zw3000 zw189 (Or.inl zw2998) dX13_fieldOrMethod_136 ?_
  refine s_iast hZ.1 (tt := 0) rfl dX13_fieldOrMethod_139 ?_
  refine s_aload_n hZ.1 dX13_fieldOrMethod_140 rfl ?_
  refine yg13_20 dX13_fieldOrMethod_141 zw4141 ?_
  exact s_if_ne dX13_fieldOrMethod_144 (by decide) (wX13_fieldOrMethod_203 hZ) (wX13_fieldOrMethod_147 hZ)
noncomputable def vX13_fieldOrMethod_101 : rx_K := o_ld rx_isR 0 (o_getf 13 53 (o_ld rx_isI 1 (o_ld rx_isR 0 (o_callV 0 13 FX13_typeToken (o_ast 1 (fun v => v) rx_isL (vX13_fieldOrMethod_111))))))
set_option maxRecDepth 20000 in
theorem wX13_fieldOrMethod_101 (hZ : zO b e D A X) : rx_OK (zV b e D A X) mX13_fieldOrMethod 410 101 vX13_fieldOrMethod_101 := by
  unfold vX13_fieldOrMethod_101
  refine s_aload_n hZ.1 dX13_fieldOrMethod_101 rfl ?_
  refine yg13_53 dX13_fieldOrMethod_102 zw4174 ?_
  refine s_iload_n hZ.1 dX13_fieldOrMethod_105 rfl ?_
  refine s_aload_n hZ.1 dX13_fieldOrMethod_106 rfl ?_
  refine s_callV hZ.1 (Met_X13_typeToken hZ) (Nat.le_of_ble_eq_true rfl) vy_X13_typeToken zcl13 zw3064 zw201 (Or.inl zw3062) dX13_fieldOrMethod_107 ?_
  refine s_last (tt := 1) rfl dX13_fieldOrMethod_110 ?_
  exact (wX13_fieldOrMethod_111 hZ)
noncomputable def vX13_fieldOrMethod_94 : rx_K := o_ld rx_isR 0 (o_callV 0 13 FX13_step (vX13_fieldOrMethod_111))
set_option maxRecDepth 20000 in
theorem wX13_fieldOrMethod_94 (hZ : zO b e D A X) : rx_OK (zV b e D A X) mX13_fieldOrMethod 410 94 vX13_fieldOrMethod_94 := by
  unfold vX13_fieldOrMethod_94
  refine s_aload_n hZ.1 dX13_fieldOrMethod_94 rfl ?_
  refine s_callV hZ.1 (Met_X13_step hZ) (Nat.le_of_ble_eq_true rfl) vy_X13_step zcl13 zw2996 zw188 (Or.inl zw2994) dX13_fieldOrMethod_95 ?_
  exact s_goto dX13_fieldOrMethod_98 (by decide) (wX13_fieldOrMethod_111 hZ)
noncomputable def vX13_fieldOrMethod_75 : rx_K := o_st rx_isI 2 (o_ld rx_isR 0 (o_getf 13 54 (o_ld rx_isI 1 (o_ld rx_isR 0 (o_ld rx_isR 0 (o_getf 13 22 (o_callV 1 13 FX13_placeAt (o_ast 0 (fun v => v) rx_isI (o_ld rx_isI 2 (o_c1 rx_eq vX13_fieldOrMethod_101 vX13_fieldOrMethod_94))))))))))
set_option maxRecDepth 20000 in
theorem wX13_fieldOrMethod_75 (hZ : zO b e D A X) : rx_OK (zV b e D A X) mX13_fieldOrMethod 410 75 vX13_fieldOrMethod_75 := by
  unfold vX13_fieldOrMethod_75
  refine s_istore_n hZ.1 dX13_fieldOrMethod_75 rfl (Nat.le_of_ble_eq_true rfl) ?_
  refine s_aload_n hZ.1 dX13_fieldOrMethod_76 rfl ?_
  refine yg13_54 dX13_fieldOrMethod_77 zw4175 ?_
  refine s_iload_n hZ.1 dX13_fieldOrMethod_80 rfl ?_
  refine s_aload_n hZ.1 dX13_fieldOrMethod_81 rfl ?_
  refine s_aload_n hZ.1 dX13_fieldOrMethod_82 rfl ?_
  refine yg13_22 dX13_fieldOrMethod_83 zw4143 ?_
  refine s_callV hZ.1 (Met_X13_placeAt hZ) (Nat.le_of_ble_eq_true rfl) vy_X13_placeAt zcl13 zw3000 zw189 (Or.inl zw2998) dX13_fieldOrMethod_86 ?_
  refine s_iast hZ.1 (tt := 0) rfl dX13_fieldOrMethod_89 ?_
  refine s_iload_n hZ.1 dX13_fieldOrMethod_90 rfl ?_
  exact s_if_eq dX13_fieldOrMethod_91 (by decide) (wX13_fieldOrMethod_101 hZ) (wX13_fieldOrMethod_94 hZ)
noncomputable def vX13_fieldOrMethod_74 : rx_K := o_const 0 (vX13_fieldOrMethod_75)
set_option maxRecDepth 20000 in
theorem wX13_fieldOrMethod_74 (hZ : zO b e D A X) : rx_OK (zV b e D A X) mX13_fieldOrMethod 410 74 vX13_fieldOrMethod_74 := by
  unfold vX13_fieldOrMethod_74
  refine s_iconst dX13_fieldOrMethod_74 (by decide +kernel) ?_
  exact (wX13_fieldOrMethod_75 hZ)
noncomputable def vX13_fieldOrMethod_70 : rx_K := o_const 8 (vX13_fieldOrMethod_75)
set_option maxRecDepth 20000 in
theorem wX13_fieldOrMethod_70 (hZ : zO b e D A X) : rx_OK (zV b e D A X) mX13_fieldOrMethod 410 70 vX13_fieldOrMethod_70 := by
  unfold vX13_fieldOrMethod_70
  refine s_iconst dX13_fieldOrMethod_70 (by decide +kernel) ?_
  exact s_goto dX13_fieldOrMethod_71 (by decide) (wX13_fieldOrMethod_75 hZ)
noncomputable def vX13_fieldOrMethod_61 : rx_K := o_ld rx_isR 0 (o_const 500 (o_callV 1 13 FX13_isWordAt (o_c1 rx_eq vX13_fieldOrMethod_74 vX13_fieldOrMethod_70)))
set_option maxRecDepth 20000 in
theorem wX13_fieldOrMethod_61 (hZ : zO b e D A X) : rx_OK (zV b e D A X) mX13_fieldOrMethod 410 61 vX13_fieldOrMethod_61 := by
  unfold vX13_fieldOrMethod_61
  refine s_aload_n hZ.1 dX13_fieldOrMethod_61 rfl ?_
  refine s_ldcS (k := 62) (zo_R62 hZ) dX13_fieldOrMethod_62 ?_
  refine s_callV hZ.1 (Met_X13_isWordAt hZ) (Nat.le_of_ble_eq_true rfl) vy_X13_isWordAt zcl13 zw2983 zw186 (Or.inl zw2981) dX13_fieldOrMethod_64 ?_
  exact s_if_eq dX13_fieldOrMethod_67 (by decide) (wX13_fieldOrMethod_74 hZ) (wX13_fieldOrMethod_70 hZ)
noncomputable def vX13_fieldOrMethod_53 : rx_K := o_ast 3 (fun v => v) rx_isZ (o_ld rx_isR 0 (o_getf 13 20 (o_c1 rx_eq vX13_fieldOrMethod_61 vX13_fieldOrMethod_74)))
set_option maxRecDepth 20000 in
theorem wX13_fieldOrMethod_53 (hZ : zO b e D A X) : rx_OK (zV b e D A X) mX13_fieldOrMethod 410 53 vX13_fieldOrMethod_53 := by
  unfold vX13_fieldOrMethod_53
  refine s_zast (tt := 3) rfl dX13_fieldOrMethod_53 ?_
  refine s_aload_n hZ.1 dX13_fieldOrMethod_54 rfl ?_
  refine yg13_20 dX13_fieldOrMethod_55 zw4141 ?_
  exact s_if_ne dX13_fieldOrMethod_58 (by decide) (wX13_fieldOrMethod_74 hZ) (wX13_fieldOrMethod_61 hZ)
noncomputable def vX13_fieldOrMethod_52 : rx_K := o_const 0 (vX13_fieldOrMethod_53)
set_option maxRecDepth 20000 in
theorem wX13_fieldOrMethod_52 (hZ : zO b e D A X) : rx_OK (zV b e D A X) mX13_fieldOrMethod 410 52 vX13_fieldOrMethod_52 := by
  unfold vX13_fieldOrMethod_52
  refine s_iconst dX13_fieldOrMethod_52 (by decide +kernel) ?_
  exact (wX13_fieldOrMethod_53 hZ)
noncomputable def vX13_fieldOrMethod_48 : rx_K := o_const 8 (vX13_fieldOrMethod_53)
set_option maxRecDepth 20000 in
theorem wX13_fieldOrMethod_48 (hZ : zO b e D A X) : rx_OK (zV b e D A X) mX13_fieldOrMethod 410 48 vX13_fieldOrMethod_48 := by
  unfold vX13_fieldOrMethod_48
  refine s_iconst dX13_fieldOrMethod_48 (by decide +kernel) ?_
  exact s_goto dX13_fieldOrMethod_49 (by decide) (wX13_fieldOrMethod_53 hZ)
noncomputable def vX13_fieldOrMethod_39 : rx_K := o_ld rx_isR 0 (o_const 676 (o_callV 1 13 FX13_takesWord (o_c1 rx_eq vX13_fieldOrMethod_52 vX13_fieldOrMethod_48)))
set_option maxRecDepth 20000 in
theorem wX13_fieldOrMethod_39 (hZ : zO b e D A X) : rx_OK (zV b e D A X) mX13_fieldOrMethod 410 39 vX13_fieldOrMethod_39 := by
  unfold vX13_fieldOrMethod_39
  refine s_aload_n hZ.1 dX13_fieldOrMethod_39 rfl ?_
  refine s_ldcS (k := 84) (zo_R84 hZ) dX13_fieldOrMethod_40 ?_
  refine s_callV hZ.1 (Met_X13_takesWord hZ) (Nat.le_of_ble_eq_true rfl) vy_X13_takesWord zcl13 zw2979 zw185 (Or.inl zw2977) dX13_fieldOrMethod_42 ?_
  exact s_if_eq dX13_fieldOrMethod_45 (by decide) (wX13_fieldOrMethod_52 hZ) (wX13_fieldOrMethod_48 hZ)
noncomputable def vX13_fieldOrMethod_0 : rx_K := o_ld rx_isR 0 (o_getf 13 45 (o_ld rx_isI 1 (o_ld rx_isR 0 (o_const 724 (o_callV 1 13 FX13_takesWord (o_ast 3 (fun v => v) rx_isZ (o_ld rx_isR 0 (o_getf 13 46 (o_ld rx_isI 1 (o_ld rx_isR 0 (o_const 548 (o_callV 1 13 FX13_takesWord (o_ast 3 (fun v => v) rx_isZ (o_ld rx_isR 0 (o_getf 13 48 (o_ld rx_isI 1 (o_ld rx_isR 0 (o_getf 13 46 (o_ld rx_isI 1 (o_ald 3 (o_c1 rx_eq vX13_fieldOrMethod_39 vX13_fieldOrMethod_52)))))))))))))))))))))
set_option maxRecDepth 20000 in
theorem wX13_fieldOrMethod_0 (hZ : zO b e D A X) : rx_OK (zV b e D A X) mX13_fieldOrMethod 410 0 vX13_fieldOrMethod_0 := by
  unfold vX13_fieldOrMethod_0
  refine s_aload_n hZ.1 dX13_fieldOrMethod_0 rfl ?_
  refine yg13_45 dX13_fieldOrMethod_1 zw4166 ?_
  refine s_iload_n hZ.1 dX13_fieldOrMethod_4 rfl ?_
  refine s_aload_n hZ.1 dX13_fieldOrMethod_5 rfl ?_
  refine s_ldcwS (k := 90) (zo_R90 hZ) dX13_fieldOrMethod_6 ?_
  refine s_callV hZ.1 (Met_X13_takesWord hZ) (Nat.le_of_ble_eq_true rfl) vy_X13_takesWord zcl13 zw2979 zw185 (Or.inl zw2977) dX13_fieldOrMethod_9 ?_
  refine s_zast (tt := 3) rfl dX13_fieldOrMethod_12 ?_
  refine s_aload_n hZ.1 dX13_fieldOrMethod_13 rfl ?_
  refine yg13_46 dX13_fieldOrMethod_14 zw4167 ?_
  refine s_iload_n hZ.1 dX13_fieldOrMethod_17 rfl ?_
  refine s_aload_n hZ.1 dX13_fieldOrMethod_18 rfl ?_
  refine s_ldcS (k := 68) (zo_R68 hZ) dX13_fieldOrMethod_19 ?_
  refine s_callV hZ.1 (Met_X13_takesWord hZ) (Nat.le_of_ble_eq_true rfl) vy_X13_takesWord zcl13 zw2979 zw185 (Or.inl zw2977) dX13_fieldOrMethod_21 ?_
  refine s_zast (tt := 3) rfl dX13_fieldOrMethod_24 ?_
  refine s_aload_n hZ.1 dX13_fieldOrMethod_25 rfl ?_
  refine yg13_48 dX13_fieldOrMethod_26 zw4169 ?_
  refine s_iload_n hZ.1 dX13_fieldOrMethod_29 rfl ?_
  refine s_aload_n hZ.1 dX13_fieldOrMethod_30 rfl ?_
  refine yg13_46 dX13_fieldOrMethod_31 zw4167 ?_
  refine s_iload_n hZ.1 dX13_fieldOrMethod_34 rfl ?_
  refine s_zald (tt := 3) rfl dX13_fieldOrMethod_35 ?_
  exact s_if_ne dX13_fieldOrMethod_36 (by decide) (wX13_fieldOrMethod_52 hZ) (wX13_fieldOrMethod_39 hZ)
noncomputable def FX13_fieldOrMethod : List Nat → rx_H → Option (Nat × rx_H) := rx_ent 4 vX13_fieldOrMethod_0
theorem Met_X13_fieldOrMethod (hZ : zO b e D A X) : rx_Met (zV b e D A X) 410 yX13_fieldOrMethod mX13_fieldOrMethod (FX13_fieldOrMethod) := rx_entry hZ.1 (wX13_fieldOrMethod_0 hZ) (by decide +kernel) rfl (fun h => by cases h)
abbrev mX13_newMember : rx_M := (RX13, cX13_newMember, 2, none, false)
theorem vy_X13_newMember : rx_Y (zV b e D A X) yX13_newMember mX13_newMember 1 := ⟨zw3057, zw431, by decide, by decide +kernel, by decide +kernel, by decide +kernel⟩
noncomputable def vX13_newMember_104 : rx_K := o_ld rx_isI 1 (o_const 1 (o_ast 1 (fun v => v) rx_isL (o_ld rx_isR 0 (o_getf 13 67 (o_ld rx_isI 1 (o_const 34359738352 (o_ast 0 (fun v => v) rx_isI (o_ld rx_isR 0 (o_getf 13 68 (o_ld rx_isI 1 (o_const 0 (o_ast 0 (fun v => v) rx_isI (o_ret0)))))))))))))
set_option maxRecDepth 20000 in
theorem wX13_newMember_104 (hZ : zO b e D A X) : rx_OK (zV b e D A X) mX13_newMember 0 104 vX13_newMember_104 := by
  unfold vX13_newMember_104
  refine s_iload_n hZ.1 dX13_newMember_104 rfl ?_
  refine s_lconst dX13_newMember_105 (by decide +kernel) ?_
  refine s_last (tt := 1) rfl dX13_newMember_106 ?_
  refine s_aload_n hZ.1 dX13_newMember_107 rfl ?_
  refine yg13_67 dX13_newMember_108 zw4188 ?_
  refine s_iload_n hZ.1 dX13_newMember_111 rfl ?_
  refine s_bipush dX13_newMember_112 (by decide +kernel) ?_
  refine s_iast hZ.1 (tt := 0) rfl dX13_newMember_114 ?_
  refine s_aload_n hZ.1 dX13_newMember_115 rfl ?_
  refine yg13_68 dX13_newMember_116 zw4189 ?_
  refine s_iload_n hZ.1 dX13_newMember_119 rfl ?_
  refine s_iconst dX13_newMember_120 (by decide +kernel) ?_
  refine s_iast hZ.1 (tt := 0) rfl dX13_newMember_121 ?_
  exact s_vret rfl dX13_newMember_122
noncomputable def vX13_newMember_69 : rx_K := o_const 34359738352 (o_ast 0 (fun v => v) rx_isI (o_ld rx_isR 0 (o_getf 13 62 (o_ld rx_isI 1 (o_const 0 (o_ast 0 (fun v => v) rx_isI (o_ld rx_isR 0 (o_getf 13 63 (o_ld rx_isI 1 (o_const 0 (o_ast 0 (fun v => v) rx_isI (o_ld rx_isR 0 (o_getf 13 64 (o_ld rx_isI 1 (o_const 0 (o_ast 3 (fun v => v) rx_isZ (o_ld rx_isR 0 (o_getf 13 65 (o_ld rx_isI 1 (o_const 0 (o_ast 0 (fun v => v) rx_isI (o_ld rx_isR 0 (o_getf 13 66 (vX13_newMember_104))))))))))))))))))))))))
set_option maxRecDepth 20000 in
theorem wX13_newMember_69 (hZ : zO b e D A X) : rx_OK (zV b e D A X) mX13_newMember 0 69 vX13_newMember_69 := by
  unfold vX13_newMember_69
  refine s_bipush dX13_newMember_69 (by decide +kernel) ?_
  refine s_iast hZ.1 (tt := 0) rfl dX13_newMember_71 ?_
  refine s_aload_n hZ.1 dX13_newMember_72 rfl ?_
  refine yg13_62 dX13_newMember_73 zw4183 ?_
  refine s_iload_n hZ.1 dX13_newMember_76 rfl ?_
  refine s_iconst dX13_newMember_77 (by decide +kernel) ?_
  refine s_iast hZ.1 (tt := 0) rfl dX13_newMember_78 ?_
  refine s_aload_n hZ.1 dX13_newMember_79 rfl ?_
  refine yg13_63 dX13_newMember_80 zw4184 ?_
  refine s_iload_n hZ.1 dX13_newMember_83 rfl ?_
  refine s_iconst dX13_newMember_84 (by decide +kernel) ?_
  refine s_iast hZ.1 (tt := 0) rfl dX13_newMember_85 ?_
  refine s_aload_n hZ.1 dX13_newMember_86 rfl ?_
  refine yg13_64 dX13_newMember_87 zw4185 ?_
  refine s_iload_n hZ.1 dX13_newMember_90 rfl ?_
  refine s_iconst dX13_newMember_91 (by decide +kernel) ?_
  refine s_zast (tt := 3) rfl dX13_newMember_92 ?_
  refine s_aload_n hZ.1 dX13_newMember_93 rfl ?_
  refine yg13_65 dX13_newMember_94 zw4186 ?_
  refine s_iload_n hZ.1 dX13_newMember_97 rfl ?_
  refine s_iconst dX13_newMember_98 (by decide +kernel) ?_
  refine s_iast hZ.1 (tt := 0) rfl dX13_newMember_99 ?_
  refine s_aload_n hZ.1 dX13_newMember_100 rfl ?_
  refine yg13_66 dX13_newMember_101 zw4187 ?_
  exact (wX13_newMember_104 hZ)
noncomputable def vX13_newMember_34 : rx_K := o_ast 3 (fun v => v) rx_isZ (o_ld rx_isR 0 (o_getf 13 51 (o_ld rx_isI 1 (o_const 1 (o_ast 1 (fun v => v) rx_isL (o_ld rx_isR 0 (o_getf 13 53 (o_ld rx_isI 1 (o_const 9 (o_ast 1 (fun v => v) rx_isL (o_ld rx_isR 0 (o_getf 13 55 (o_ld rx_isI 1 (o_const 0 (o_ast 0 (fun v => v) rx_isI (o_ld rx_isR 0 (o_getf 13 60 (o_ld rx_isI 1 (o_const 34359738352 (o_ast 0 (fun v => v) rx_isI (o_ld rx_isR 0 (o_getf 13 61 (o_ld rx_isI 1 (vX13_newMember_69))))))))))))))))))))))))
set_option maxRecDepth 20000 in
theorem wX13_newMember_34 (hZ : zO b e D A X) : rx_OK (zV b e D A X) mX13_newMember 0 34 vX13_newMember_34 := by
  unfold vX13_newMember_34
  refine s_zast (tt := 3) rfl dX13_newMember_34 ?_
  refine s_aload_n hZ.1 dX13_newMember_35 rfl ?_
  refine yg13_51 dX13_newMember_36 zw4172 ?_
  refine s_iload_n hZ.1 dX13_newMember_39 rfl ?_
  refine s_lconst dX13_newMember_40 (by decide +kernel) ?_
  refine s_last (tt := 1) rfl dX13_newMember_41 ?_
  refine s_aload_n hZ.1 dX13_newMember_42 rfl ?_
  refine yg13_53 dX13_newMember_43 zw4174 ?_
  refine s_iload_n hZ.1 dX13_newMember_46 rfl ?_
  refine s_lconst dX13_newMember_47 (by decide +kernel) ?_
  refine s_last (tt := 1) rfl dX13_newMember_48 ?_
  refine s_aload_n hZ.1 dX13_newMember_49 rfl ?_
  refine yg13_55 dX13_newMember_50 zw4176 ?_
  refine s_iload_n hZ.1 dX13_newMember_53 rfl ?_
  refine s_iconst dX13_newMember_54 (by decide +kernel) ?_
  refine s_iast hZ.1 (tt := 0) rfl dX13_newMember_55 ?_
  refine s_aload_n hZ.1 dX13_newMember_56 rfl ?_
  refine yg13_60 dX13_newMember_57 zw4181 ?_
  refine s_iload_n hZ.1 dX13_newMember_60 rfl ?_
  refine s_bipush dX13_newMember_61 (by decide +kernel) ?_
  refine s_iast hZ.1 (tt := 0) rfl dX13_newMember_63 ?_
  refine s_aload_n hZ.1 dX13_newMember_64 rfl ?_
  refine yg13_61 dX13_newMember_65 zw4182 ?_
  refine s_iload_n hZ.1 dX13_newMember_68 rfl ?_
  exact (wX13_newMember_69 hZ)
noncomputable def vX13_newMember_0 : rx_K := o_ld rx_isR 0 (o_getf 13 45 (o_ld rx_isI 1 (o_const 0 (o_ast 3 (fun v => v) rx_isZ (o_ld rx_isR 0 (o_getf 13 46 (o_ld rx_isI 1 (o_const 0 (o_ast 3 (fun v => v) rx_isZ (o_ld rx_isR 0 (o_getf 13 48 (o_ld rx_isI 1 (o_const 0 (o_ast 3 (fun v => v) rx_isZ (o_ld rx_isR 0 (o_getf 13 49 (o_ld rx_isI 1 (o_const 0 (o_ast 3 (fun v => v) rx_isZ (o_ld rx_isR 0 (o_getf 13 50 (o_ld rx_isI 1 (o_const 0 (vX13_newMember_34))))))))))))))))))))))))
set_option maxRecDepth 20000 in
theorem wX13_newMember_0 (hZ : zO b e D A X) : rx_OK (zV b e D A X) mX13_newMember 0 0 vX13_newMember_0 := by
  unfold vX13_newMember_0
  refine s_aload_n hZ.1 dX13_newMember_0 rfl ?_
  refine yg13_45 dX13_newMember_1 zw4166 ?_
  refine s_iload_n hZ.1 dX13_newMember_4 rfl ?_
  refine s_iconst dX13_newMember_5 (by decide +kernel) ?_
  refine s_zast (tt := 3) rfl dX13_newMember_6 ?_
  refine s_aload_n hZ.1 dX13_newMember_7 rfl ?_
  refine yg13_46 dX13_newMember_8 zw4167 ?_
  refine s_iload_n hZ.1 dX13_newMember_11 rfl ?_
  refine s_iconst dX13_newMember_12 (by decide +kernel) ?_
  refine s_zast (tt := 3) rfl dX13_newMember_13 ?_
  refine s_aload_n hZ.1 dX13_newMember_14 rfl ?_
  refine yg13_48 dX13_newMember_15 zw4169 ?_
  refine s_iload_n hZ.1 dX13_newMember_18 rfl ?_
  refine s_iconst dX13_newMember_19 (by decide +kernel) ?_
  refine s_zast (tt := 3) rfl dX13_newMember_20 ?_
  refine s_aload_n hZ.1 dX13_newMember_21 rfl ?_
  refine yg13_49 dX13_newMember_22 zw4170 ?_
  refine s_iload_n hZ.1 dX13_newMember_25 rfl ?_
  refine s_iconst dX13_newMember_26 (by decide +kernel) ?_
  refine s_zast (tt := 3) rfl dX13_newMember_27 ?_
  refine s_aload_n hZ.1 dX13_newMember_28 rfl ?_
  refine yg13_50 dX13_newMember_29 zw4171 ?_
  refine s_iload_n hZ.1 dX13_newMember_32 rfl ?_
  refine s_iconst dX13_newMember_33 (by decide +kernel) ?_
  exact (wX13_newMember_34 hZ)
noncomputable def FX13_newMember : List Nat → rx_H → Option (Nat × rx_H) := rx_ent 2 vX13_newMember_0
theorem Met_X13_newMember (hZ : zO b e D A X) : rx_Met (zV b e D A X) 0 yX13_newMember mX13_newMember (FX13_newMember) := rx_entry hZ.1 (wX13_newMember_0 hZ) (by decide +kernel) rfl (fun h => by cases h)
abbrev mX13_member : rx_M := (RX13, cX13_member, 3, none, false)
theorem vy_X13_member : rx_Y (zV b e D A X) yX13_member mX13_member 1 := ⟨zw3042, zw431, by decide, by decide +kernel, by decide +kernel, by decide +kernel⟩
noncomputable def vX13_member_228 : rx_K := o_ret0
set_option maxRecDepth 20000 in
theorem wX13_member_228 (hZ : zO b e D A X) : rx_OK (zV b e D A X) mX13_member 411 228 vX13_member_228 := by
  unfold vX13_member_228
  exact s_vret rfl dX13_member_228
noncomputable def vX13_member_212 : rx_K := o_ld rx_isR 0 (o_ld rx_isI 1 (o_ld rx_isI 2 (o_callV 2 13 FX13_effects (o_ld rx_isR 0 (o_getf 13 41 (o_ld rx_isI 1 (o_dup2 (o_ald 0 (o_const 8 (o_bi (fun x y => x + y) (o_ast 0 (fun v => v) rx_isI (vX13_member_228))))))))))))
set_option maxRecDepth 20000 in
theorem wX13_member_212 (hZ : zO b e D A X) : rx_OK (zV b e D A X) mX13_member 411 212 vX13_member_212 := by
  unfold vX13_member_212
  refine s_aload_n hZ.1 dX13_member_212 rfl ?_
  refine s_iload_n hZ.1 dX13_member_213 rfl ?_
  refine s_iload_n hZ.1 dX13_member_214 rfl ?_
  refine s_callV hZ.1 (Met_X13_effects hZ) (Nat.le_of_ble_eq_true rfl) vy_X13_effects zcl13 zw3158 zw221 (Or.inl zw3156) dX13_member_215 ?_
  refine s_aload_n hZ.1 dX13_member_218 rfl ?_
  refine yg13_41 dX13_member_219 zw4162 ?_
  refine s_iload_n hZ.1 dX13_member_222 rfl ?_
  refine s_dup2 hZ.1 dX13_member_223 ?_
  refine s_iald (tt := 0) rfl dX13_member_224 ?_
  refine s_iconst dX13_member_225 (by decide +kernel) ?_
  refine s_iadd dX13_member_226 ?_
  refine s_iast hZ.1 (tt := 0) rfl dX13_member_227 ?_
  exact (wX13_member_228 hZ)
noncomputable def vX13_member_205 : rx_K := o_ld rx_isR 0 (o_getf 13 20 (o_c1 rx_eq vX13_member_212 vX13_member_228))
set_option maxRecDepth 20000 in
theorem wX13_member_205 (hZ : zO b e D A X) : rx_OK (zV b e D A X) mX13_member 411 205 vX13_member_205 := by
  unfold vX13_member_205
  refine s_aload_n hZ.1 dX13_member_205 rfl ?_
  refine yg13_20 dX13_member_206 zw4141 ?_
  exact s_if_ne dX13_member_209 (by decide) (wX13_member_228 hZ) (wX13_member_212 hZ)
noncomputable def vX13_member_200 : rx_K := o_ld rx_isR 0 (o_ld rx_isI 2 (o_callV 1 13 FX13_fieldOrMethod (vX13_member_205)))
set_option maxRecDepth 20000 in
theorem wX13_member_200 (hZ : zO b e D A X) : rx_OK (zV b e D A X) mX13_member 411 200 vX13_member_200 := by
  unfold vX13_member_200
  refine s_aload_n hZ.1 dX13_member_200 rfl ?_
  refine s_iload_n hZ.1 dX13_member_201 rfl ?_
  refine s_callV hZ.1 (Met_X13_fieldOrMethod hZ) (Nat.le_of_ble_eq_true rfl) vy_X13_fieldOrMethod zcl13 zw3154 zw220 (Or.inl zw3152) dX13_member_202 ?_
  exact (wX13_member_205 hZ)
noncomputable def vX13_member_192 : rx_K := o_ld rx_isR 0 (o_ld rx_isI 2 (o_callV 1 13 FX13_body (vX13_member_205)))
set_option maxRecDepth 20000 in
theorem wX13_member_192 (hZ : zO b e D A X) : rx_OK (zV b e D A X) mX13_member 411 192 vX13_member_192 := by
  unfold vX13_member_192
  refine s_aload_n hZ.1 dX13_member_192 rfl ?_
  refine s_iload_n hZ.1 dX13_member_193 rfl ?_
  refine s_callV hZ.1 (Met_X13_body hZ) (Nat.le_of_ble_eq_true rfl) vy_X13_body zcl13 zw3069 zw202 (Or.inl zw3067) dX13_member_194 ?_
  exact s_goto dX13_member_197 (by decide) (wX13_member_205 hZ)
noncomputable def vX13_member_187 : rx_K := o_ld rx_isR 0 (o_ld rx_isI 2 (o_callV 1 13 FX13_params (vX13_member_192)))
set_option maxRecDepth 20000 in
theorem wX13_member_187 (hZ : zO b e D A X) : rx_OK (zV b e D A X) mX13_member 411 187 vX13_member_187 := by
  unfold vX13_member_187
  refine s_aload_n hZ.1 dX13_member_187 rfl ?_
  refine s_iload_n hZ.1 dX13_member_188 rfl ?_
  refine s_callV hZ.1 (Met_X13_params hZ) (Nat.le_of_ble_eq_true rfl) vy_X13_params zcl13 zw3060 zw200 (Or.inl zw3058) dX13_member_189 ?_
  exact (wX13_member_192 hZ)
noncomputable def vX13_member_158 : rx_K := o_ast 0 (fun v => v) rx_isI (o_ld rx_isR 0 (o_getf 13 52 (o_ld rx_isI 2 (o_ld rx_isR 0 (o_ld rx_isR 0 (o_getf 13 22 (o_callV 1 13 FX13_placeAt (o_ast 0 (fun v => v) rx_isI (o_ld rx_isR 0 (o_callV 0 13 FX13_step (o_ld rx_isR 0 (o_getf 13 42 (o_ld rx_isI 2 (o_ald 0 (o_const 16 (o_c2 rx_eq vX13_member_187 vX13_member_192))))))))))))))))
set_option maxRecDepth 20000 in
theorem wX13_member_158 (hZ : zO b e D A X) : rx_OK (zV b e D A X) mX13_member 411 158 vX13_member_158 := by
  unfold vX13_member_158
  refine s_iast hZ.1 (tt := 0) rfl dX13_member_158 ?_
  refine s_aload_n hZ.1 dX13_member_159 rfl ?_
  refine yg13_52 dX13_member_160 zw4173 ?_
  refine s_iload_n hZ.1 dX13_member_163 rfl ?_
  refine s_aload_n hZ.1 dX13_member_164 rfl ?_
  refine s_aload_n hZ.1 dX13_member_165 rfl ?_
  refine yg13_22 dX13_member_166 zw4143 ?_
  refine s_callV hZ.1 (Met_X13_placeAt hZ) (Nat.le_of_ble_eq_true rfl) vy_X13_placeAt zcl13 zw3000 zw189 (Or.inl zw2998) dX13_member_169 ?_
  refine s_iast hZ.1 (tt := 0) rfl dX13_member_172 ?_
  refine s_aload_n hZ.1 dX13_member_173 rfl ?_
  refine s_callV hZ.1 (Met_X13_step hZ) (Nat.le_of_ble_eq_true rfl) vy_X13_step zcl13 zw2996 zw188 (Or.inl zw2994) dX13_member_174 ?_
  refine s_aload_n hZ.1 dX13_member_177 rfl ?_
  refine yg13_42 dX13_member_178 zw4163 ?_
  refine s_iload_n hZ.1 dX13_member_181 rfl ?_
  refine s_iald (tt := 0) rfl dX13_member_182 ?_
  refine s_iconst dX13_member_183 (by decide +kernel) ?_
  exact s_icmp_ne dX13_member_184 (by decide) (wX13_member_192 hZ) (wX13_member_187 hZ)
noncomputable def vX13_member_157 : rx_K := o_const 24 (vX13_member_158)
set_option maxRecDepth 20000 in
theorem wX13_member_157 (hZ : zO b e D A X) : rx_OK (zV b e D A X) mX13_member 411 157 vX13_member_157 := by
  unfold vX13_member_157
  refine s_iconst dX13_member_157 (by decide +kernel) ?_
  exact (wX13_member_158 hZ)
noncomputable def vX13_member_153 : rx_K := o_const 16 (vX13_member_158)
set_option maxRecDepth 20000 in
theorem wX13_member_153 (hZ : zO b e D A X) : rx_OK (zV b e D A X) mX13_member 411 153 vX13_member_153 := by
  unfold vX13_member_153
  refine s_iconst dX13_member_153 (by decide +kernel) ?_
  exact s_goto dX13_member_154 (by decide) (wX13_member_158 hZ)
noncomputable def vX13_member_138 : rx_K := o_ld rx_isR 0 (o_getf 13 42 (o_ld rx_isI 2 (o_ld rx_isR 0 (o_const 740 (o_callV 1 13 FX13_isWordAt (o_c1 rx_eq vX13_member_157 vX13_member_153))))))
set_option maxRecDepth 20000 in
theorem wX13_member_138 (hZ : zO b e D A X) : rx_OK (zV b e D A X) mX13_member 411 138 vX13_member_138 := by
  unfold vX13_member_138
  refine s_aload_n hZ.1 dX13_member_138 rfl ?_
  refine yg13_42 dX13_member_139 zw4163 ?_
  refine s_iload_n hZ.1 dX13_member_142 rfl ?_
  refine s_aload_n hZ.1 dX13_member_143 rfl ?_
  refine s_ldcwS (k := 92) (zo_R92 hZ) dX13_member_144 ?_
  refine s_callV hZ.1 (Met_X13_isWordAt hZ) (Nat.le_of_ble_eq_true rfl) vy_X13_isWordAt zcl13 zw2983 zw186 (Or.inl zw2981) dX13_member_147 ?_
  exact s_if_eq dX13_member_150 (by decide) (wX13_member_157 hZ) (wX13_member_153 hZ)
noncomputable def vX13_member_128 : rx_K := o_ld rx_isR 0 (o_const 756 (o_callV 1 13 FX13_isWordAt (o_c1 rx_eq vX13_member_200 vX13_member_138)))
set_option maxRecDepth 20000 in
theorem wX13_member_128 (hZ : zO b e D A X) : rx_OK (zV b e D A X) mX13_member 411 128 vX13_member_128 := by
  unfold vX13_member_128
  refine s_aload_n hZ.1 dX13_member_128 rfl ?_
  refine s_ldcwS (k := 94) (zo_R94 hZ) dX13_member_129 ?_
  refine s_callV hZ.1 (Met_X13_isWordAt hZ) (Nat.le_of_ble_eq_true rfl) vy_X13_isWordAt zcl13 zw2983 zw186 (Or.inl zw2981) dX13_member_132 ?_
  exact s_if_eq dX13_member_135 (by decide) (wX13_member_200 hZ) (wX13_member_138 hZ)
noncomputable def vX13_member_119 : rx_K := o_ld rx_isR 0 (o_getf 13 43 (o_ld rx_isI 2 (o_ald 0 (o_c1 rx_eq vX13_member_128 vX13_member_200))))
set_option maxRecDepth 20000 in
theorem wX13_member_119 (hZ : zO b e D A X) : rx_OK (zV b e D A X) mX13_member 411 119 vX13_member_119 := by
  unfold vX13_member_119
  refine s_aload_n hZ.1 dX13_member_119 rfl ?_
  refine yg13_43 dX13_member_120 zw4164 ?_
  refine s_iload_n hZ.1 dX13_member_123 rfl ?_
  refine s_iald (tt := 0) rfl dX13_member_124 ?_
  exact s_if_ne dX13_member_125 (by decide) (wX13_member_200 hZ) (wX13_member_128 hZ)
noncomputable def vX13_member_109 : rx_K := o_ld rx_isR 0 (o_const 740 (o_callV 1 13 FX13_isWordAt (o_c1 rx_eq vX13_member_119 vX13_member_138)))
set_option maxRecDepth 20000 in
theorem wX13_member_109 (hZ : zO b e D A X) : rx_OK (zV b e D A X) mX13_member 411 109 vX13_member_109 := by
  unfold vX13_member_109
  refine s_aload_n hZ.1 dX13_member_109 rfl ?_
  refine s_ldcwS (k := 92) (zo_R92 hZ) dX13_member_110 ?_
  refine s_callV hZ.1 (Met_X13_isWordAt hZ) (Nat.le_of_ble_eq_true rfl) vy_X13_isWordAt zcl13 zw2983 zw186 (Or.inl zw2981) dX13_member_113 ?_
  exact s_if_ne dX13_member_116 (by decide) (wX13_member_138 hZ) (wX13_member_119 hZ)
noncomputable def vX13_member_101 : rx_K := o_ast 0 (fun v => v) rx_isI (o_ld rx_isR 0 (o_getf 13 20 (o_c1 rx_eq vX13_member_109 vX13_member_200)))
set_option maxRecDepth 20000 in
theorem wX13_member_101 (hZ : zO b e D A X) : rx_OK (zV b e D A X) mX13_member 411 101 vX13_member_101 := by
  unfold vX13_member_101
  refine s_iast hZ.1 (tt := 0) rfl dX13_member_101 ?_
  refine s_aload_n hZ.1 dX13_member_102 rfl ?_
  refine yg13_20 dX13_member_103 zw4141 ?_
  exact s_if_ne dX13_member_106 (by decide) (wX13_member_200 hZ) (wX13_member_109 hZ)
noncomputable def vX13_member_100 : rx_K := o_const 0 (vX13_member_101)
set_option maxRecDepth 20000 in
theorem wX13_member_100 (hZ : zO b e D A X) : rx_OK (zV b e D A X) mX13_member 411 100 vX13_member_100 := by
  unfold vX13_member_100
  refine s_iconst dX13_member_100 (by decide +kernel) ?_
  exact (wX13_member_101 hZ)
noncomputable def vX13_member_96 : rx_K := o_const 24 (vX13_member_101)
set_option maxRecDepth 20000 in
theorem wX13_member_96 (hZ : zO b e D A X) : rx_OK (zV b e D A X) mX13_member 411 96 vX13_member_96 := by
  unfold vX13_member_96
  refine s_iconst dX13_member_96 (by decide +kernel) ?_
  exact s_goto dX13_member_97 (by decide) (wX13_member_101 hZ)
noncomputable def vX13_member_86 : rx_K := o_ld rx_isR 0 (o_const 708 (o_callV 1 13 FX13_takesWord (o_c1 rx_eq vX13_member_100 vX13_member_96)))
set_option maxRecDepth 20000 in
theorem wX13_member_86 (hZ : zO b e D A X) : rx_OK (zV b e D A X) mX13_member 411 86 vX13_member_86 := by
  unfold vX13_member_86
  refine s_aload_n hZ.1 dX13_member_86 rfl ?_
  refine s_ldcwS (k := 88) (zo_R88 hZ) dX13_member_87 ?_
  refine s_callV hZ.1 (Met_X13_takesWord hZ) (Nat.le_of_ble_eq_true rfl) vy_X13_takesWord zcl13 zw2979 zw185 (Or.inl zw2977) dX13_member_90 ?_
  exact s_if_eq dX13_member_93 (by decide) (wX13_member_100 hZ) (wX13_member_96 hZ)
noncomputable def vX13_member_82 : rx_K := o_const 16 (vX13_member_101)
set_option maxRecDepth 20000 in
theorem wX13_member_82 (hZ : zO b e D A X) : rx_OK (zV b e D A X) mX13_member 411 82 vX13_member_82 := by
  unfold vX13_member_82
  refine s_iconst dX13_member_82 (by decide +kernel) ?_
  exact s_goto dX13_member_83 (by decide) (wX13_member_101 hZ)
noncomputable def vX13_member_72 : rx_K := o_ld rx_isR 0 (o_const 692 (o_callV 1 13 FX13_takesWord (o_c1 rx_eq vX13_member_86 vX13_member_82)))
set_option maxRecDepth 20000 in
theorem wX13_member_72 (hZ : zO b e D A X) : rx_OK (zV b e D A X) mX13_member 411 72 vX13_member_72 := by
  unfold vX13_member_72
  refine s_aload_n hZ.1 dX13_member_72 rfl ?_
  refine s_ldcwS (k := 86) (zo_R86 hZ) dX13_member_73 ?_
  refine s_callV hZ.1 (Met_X13_takesWord hZ) (Nat.le_of_ble_eq_true rfl) vy_X13_takesWord zcl13 zw2979 zw185 (Or.inl zw2977) dX13_member_76 ?_
  exact s_if_eq dX13_member_79 (by decide) (wX13_member_86 hZ) (wX13_member_82 hZ)
noncomputable def vX13_member_68 : rx_K := o_const 8 (vX13_member_101)
set_option maxRecDepth 20000 in
theorem wX13_member_68 (hZ : zO b e D A X) : rx_OK (zV b e D A X) mX13_member 411 68 vX13_member_68 := by
  unfold vX13_member_68
  refine s_iconst dX13_member_68 (by decide +kernel) ?_
  exact s_goto dX13_member_69 (by decide) (wX13_member_101 hZ)
noncomputable def vX13_member_37 : rx_K := o_ld rx_isI 1 (o_const 272 (o_bi (fun x y => x * y) (o_ld rx_isR 0 (o_getf 13 41 (o_ld rx_isI 1 (o_ald 0 (o_bi (fun x y => x + y) (o_st rx_isI 2 (o_ld rx_isR 0 (o_ld rx_isI 2 (o_callV 1 13 FX13_newMember (o_ld rx_isR 0 (o_getf 13 43 (o_ld rx_isI 2 (o_ld rx_isR 0 (o_const 532 (o_callV 1 13 FX13_takesWord (o_c1 rx_eq vX13_member_72 vX13_member_68))))))))))))))))))
set_option maxRecDepth 20000 in
theorem wX13_member_37 (hZ : zO b e D A X) : rx_OK (zV b e D A X) mX13_member 411 37 vX13_member_37 := by
  unfold vX13_member_37
  refine s_iload_n hZ.1 dX13_member_37 rfl ?_
  refine s_bipush dX13_member_38 (by decide +kernel) ?_
  refine s_imul dX13_member_40 ?_
  refine s_aload_n hZ.1 dX13_member_41 rfl ?_
  refine yg13_41 dX13_member_42 zw4162 ?_
  refine s_iload_n hZ.1 dX13_member_45 rfl ?_
  refine s_iald (tt := 0) rfl dX13_member_46 ?_
  refine s_iadd dX13_member_47 ?_
  refine s_istore_n hZ.1 dX13_member_48 rfl (Nat.le_of_ble_eq_true rfl) ?_
  refine s_aload_n hZ.1 dX13_member_49 rfl ?_
  refine s_iload_n hZ.1 dX13_member_50 rfl ?_
  refine s_callV hZ.1 (Met_X13_newMember hZ) (Nat.le_of_ble_eq_true rfl) vy_X13_newMember zcl13 zw3056 zw199 (Or.inl zw3054) dX13_member_51 ?_
  refine s_aload_n hZ.1 dX13_member_54 rfl ?_
  refine yg13_43 dX13_member_55 zw4164 ?_
  refine s_iload_n hZ.1 dX13_member_58 rfl ?_
  refine s_aload_n hZ.1 dX13_member_59 rfl ?_
  refine s_ldcS (k := 66) (zo_R66 hZ) dX13_member_60 ?_
  refine s_callV hZ.1 (Met_X13_takesWord hZ) (Nat.le_of_ble_eq_true rfl) vy_X13_takesWord zcl13 zw2979 zw185 (Or.inl zw2977) dX13_member_62 ?_
  exact s_if_eq dX13_member_65 (by decide) (wX13_member_72 hZ) (wX13_member_68 hZ)
noncomputable def vX13_member_23 : rx_K := o_ld rx_isR 0 (o_const 24 (o_ld rx_isR 0 (o_ld rx_isR 0 (o_getf 13 22 (o_callV 1 13 FX13_placeAt (o_callV 2 13 FX13_fault (o_ret0)))))))
set_option maxRecDepth 20000 in
theorem wX13_member_23 (hZ : zO b e D A X) : rx_OK (zV b e D A X) mX13_member 411 23 vX13_member_23 := by
  unfold vX13_member_23
  refine s_aload_n hZ.1 dX13_member_23 rfl ?_
  refine s_iconst dX13_member_24 (by decide +kernel) ?_
  refine s_aload_n hZ.1 dX13_member_25 rfl ?_
  refine s_aload_n hZ.1 dX13_member_26 rfl ?_
  refine yg13_22 dX13_member_27 zw4143 ?_
  refine s_callV hZ.1 (Met_X13_placeAt hZ) (Nat.le_of_ble_eq_true rfl) vy_X13_placeAt zcl13 zw3000 zw189 (Or.inl zw2998) dX13_member_30 ?_
  refine s_callV hZ.1 (Met_X13_fault hZ) (Nat.le_of_ble_eq_true rfl) vy_X13_fault zcl13 zw3004 zw190 (Or.inl zw3002) dX13_member_33 ?_
  exact s_vret rfl dX13_member_36
noncomputable def vX13_member_12 : rx_K := o_ld rx_isR 0 (o_getf 13 41 (o_ld rx_isI 1 (o_ald 0 (o_const 160 (o_c2 rx_eq vX13_member_23 vX13_member_37)))))
set_option maxRecDepth 20000 in
theorem wX13_member_12 (hZ : zO b e D A X) : rx_OK (zV b e D A X) mX13_member 411 12 vX13_member_12 := by
  unfold vX13_member_12
  refine s_aload_n hZ.1 dX13_member_12 rfl ?_
  refine yg13_41 dX13_member_13 zw4162 ?_
  refine s_iload_n hZ.1 dX13_member_16 rfl ?_
  refine s_iald (tt := 0) rfl dX13_member_17 ?_
  refine s_bipush dX13_member_18 (by decide +kernel) ?_
  exact s_icmp_ne dX13_member_20 (by decide) (wX13_member_37 hZ) (wX13_member_23 hZ)
noncomputable def vX13_member_7 : rx_K := o_ld rx_isR 0 (o_callV 0 13 FX13_wrong (o_ret0))
set_option maxRecDepth 20000 in
theorem wX13_member_7 (hZ : zO b e D A X) : rx_OK (zV b e D A X) mX13_member 411 7 vX13_member_7 := by
  unfold vX13_member_7
  refine s_aload_n hZ.1 dX13_member_7 rfl ?_
  refine s_callV hZ.1 (Met_X13_wrong hZ) (Nat.le_of_ble_eq_true rfl) vy_X13_wrong zcl13 zw3016 zw192 (Or.inl zw3014) dX13_member_8 ?_
  exact s_vret rfl dX13_member_11
noncomputable def vX13_member_0 : rx_K := o_ld rx_isR 0 (o_callV 0 13 FX13_beginsMember (o_c1 rx_eq vX13_member_7 vX13_member_12))
set_option maxRecDepth 20000 in
theorem wX13_member_0 (hZ : zO b e D A X) : rx_OK (zV b e D A X) mX13_member 411 0 vX13_member_0 := by
  unfold vX13_member_0
  refine s_aload_n hZ.1 dX13_member_0 rfl ?_
  refine s_callV hZ.1 (Met_X13_beginsMember hZ) (Nat.le_of_ble_eq_true rfl) vy_X13_beginsMember zcl13 zw3045 zw198 (Or.inl zw3043) dX13_member_1 ?_
  exact s_if_ne dX13_member_4 (by decide) (wX13_member_12 hZ) (wX13_member_7 hZ)
noncomputable def FX13_member : List Nat → rx_H → Option (Nat × rx_H) := rx_ent 3 vX13_member_0
theorem Met_X13_member (hZ : zO b e D A X) : rx_Met (zV b e D A X) 411 yX13_member mX13_member (FX13_member) := rx_entry hZ.1 (wX13_member_0 hZ) (by decide +kernel) rfl (fun h => by cases h)
end ZM43

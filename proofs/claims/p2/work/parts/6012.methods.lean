section ZM12
variable {b : Nat} {e : Nat → Value} {D : va_G} {A : Nat → ClassId} {X : State → Prop}
abbrev mX3_maker : rx_M := (RX3, cX3_maker, 4, none, false)
theorem vy_X3_maker : rx_Y (zV b e D A X) yX3_maker mX3_maker 1 := ⟨zw2293, zw422, by decide, by decide +kernel, by decide +kernel, by decide +kernel⟩
noncomputable def vX3_maker_222 (j : Nat → rx_K) : rx_K := o_ld rx_isR 0 (o_getf 3 1 (o_const 144 (o_const 0 (o_callV 2 1 FX1_emit (o_pop (o_ld rx_isR 1 (o_ld rx_isR 1 (o_getf 7 18 (o_const 8 (o_mm z_max (o_putf rx_isI 7 18 (o_ret0))))))))))))
set_option maxRecDepth 20000 in
theorem wX3_maker_222 (hZ : zO b e D A X) (j : Nat → rx_K) (hj : ∀ k pc, [205][k]? = some pc → rx_OK (zV b e D A X) mX3_maker 405 pc (j k)) : rx_OK (zV b e D A X) mX3_maker 405 222 (vX3_maker_222 j) := by
  unfold vX3_maker_222
  refine s_aload_n hZ.1 dX3_maker_222 rfl ?_
  refine yg3_1 dX3_maker_223 zw722 ?_
  refine s_bipush dX3_maker_226 (by decide +kernel) ?_
  refine s_iconst dX3_maker_228 (by decide +kernel) ?_
  refine s_callV hZ.1 (Met_X1_emit hZ) (Nat.le_of_ble_eq_true rfl) vy_X1_emit zcl1 zw2254 zw2255 (Or.inl zw2253) dX3_maker_229 ?_
  refine s_pop hZ.1 dX3_maker_232 ?_
  refine s_aload_n hZ.1 dX3_maker_233 rfl ?_
  refine s_aload_n hZ.1 dX3_maker_234 rfl ?_
  refine yg7_18 dX3_maker_235 zw1069 ?_
  refine s_iconst dX3_maker_238 (by decide +kernel) ?_
  refine s_mmax hZ.1 (Nat.le_of_ble_eq_true rfl) zw2316 zw2179 zw432 zmath_max dX3_maker_239 ?_
  refine yp7_18 hZ.1 dX3_maker_242 zw1069 ?_
  exact s_vret rfl dX3_maker_245
noncomputable def vX3_maker_209 (j : Nat → rx_K) : rx_K := o_ld rx_isR 0 (o_ld rx_isR 3 (o_callV 1 3 (q5 200 2) (o_ld rx_isR 3 (o_getf 8 8 (o_st rx_isR 3 ((j 0)))))))
set_option maxRecDepth 20000 in
theorem wX3_maker_209 (hZ : zO b e D A X) (j : Nat → rx_K) (hj : ∀ k pc, [205][k]? = some pc → rx_OK (zV b e D A X) mX3_maker 405 pc (j k)) : rx_OK (zV b e D A X) mX3_maker 405 209 (vX3_maker_209 j) := by
  unfold vX3_maker_209
  refine s_aload_n hZ.1 dX3_maker_209 rfl ?_
  refine s_aload_n hZ.1 dX3_maker_210 rfl ?_
  refine s_callV hZ.1 (q5_ok hZ 200 2 _ _ rfl) (Nat.le_of_ble_eq_true rfl) vy_X3_statement zcl3 zw2296 zw103 (Or.inl zw2294) dX3_maker_211 ?_
  refine s_aload_n hZ.1 dX3_maker_214 rfl ?_
  refine yg8_8 dX3_maker_215 zw488 ?_
  refine s_astore_n hZ.1 dX3_maker_218 rfl (Nat.le_of_ble_eq_true rfl) ?_
  exact s_goto dX3_maker_219 (by decide) (hj 0 205 rfl)
noncomputable def vX3_maker_205 (j : Nat → rx_K) : rx_K := o_ld rx_isR 3 (o_nul (vX3_maker_222 j) (vX3_maker_209 j))
set_option maxRecDepth 20000 in
theorem wX3_maker_205 (hZ : zO b e D A X) (j : Nat → rx_K) (hj : ∀ k pc, [205][k]? = some pc → rx_OK (zV b e D A X) mX3_maker 405 pc (j k)) : rx_OK (zV b e D A X) mX3_maker 405 205 (vX3_maker_205 j) := by
  unfold vX3_maker_205
  refine s_aload_n hZ.1 dX3_maker_205 rfl ?_
  exact s_ifnull dX3_maker_206 (by decide) (wX3_maker_222 hZ j hj) (wX3_maker_209 hZ j hj)
noncomputable def vX3_maker_192 (j : Nat → rx_K) : rx_K := o_ld rx_isR 0 (o_getf 3 1 (o_const 160 (o_const 0 (o_callV 2 1 FX1_emit (o_pop (o_ld rx_isR 2 (o_st rx_isR 3 ((vX3_maker_205 j)))))))))
set_option maxRecDepth 20000 in
theorem wX3_maker_192 (hZ : zO b e D A X) (j : Nat → rx_K) (hj : ∀ k pc, [205][k]? = some pc → rx_OK (zV b e D A X) mX3_maker 405 pc (j k)) : rx_OK (zV b e D A X) mX3_maker 405 192 (vX3_maker_192 j) := by
  unfold vX3_maker_192
  refine s_aload_n hZ.1 dX3_maker_192 rfl ?_
  refine yg3_1 dX3_maker_193 zw722 ?_
  refine s_bipush dX3_maker_196 (by decide +kernel) ?_
  refine s_iconst dX3_maker_198 (by decide +kernel) ?_
  refine s_callV hZ.1 (Met_X1_emit hZ) (Nat.le_of_ble_eq_true rfl) vy_X1_emit zcl1 zw2254 zw2255 (Or.inl zw2253) dX3_maker_199 ?_
  refine s_pop hZ.1 dX3_maker_202 ?_
  refine s_aload_n hZ.1 dX3_maker_203 rfl ?_
  refine s_astore_n hZ.1 dX3_maker_204 rfl (Nat.le_of_ble_eq_true rfl) ?_
  exact (wX3_maker_205 hZ j hj)
noncomputable def vX3_maker_185 (j : Nat → rx_K) : rx_K := o_callV 4 3 FX3_useOf (o_callV 2 1 FX1_emit (o_pop ((vX3_maker_192 j))))
set_option maxRecDepth 20000 in
theorem wX3_maker_185 (hZ : zO b e D A X) (j : Nat → rx_K) (hj : ∀ k pc, [205][k]? = some pc → rx_OK (zV b e D A X) mX3_maker 405 pc (j k)) : rx_OK (zV b e D A X) mX3_maker 405 185 (vX3_maker_185 j) := by
  unfold vX3_maker_185
  refine s_callV hZ.1 (Met_X3_useOf hZ) (Nat.le_of_ble_eq_true rfl) vy_X3_useOf zcl3 zw2231 zw92 (Or.inl zw2229) dX3_maker_185 ?_
  refine s_callV hZ.1 (Met_X1_emit hZ) (Nat.le_of_ble_eq_true rfl) vy_X1_emit zcl1 zw2254 zw2255 (Or.inl zw2253) dX3_maker_188 ?_
  refine s_pop hZ.1 dX3_maker_191 ?_
  exact (wX3_maker_192 hZ j hj)
noncomputable def vX3_maker_140 (j : Nat → rx_K) : rx_K := o_ld rx_isR 0 (o_getf 3 1 (o_const 24 (o_const 0 (o_callV 2 1 FX1_emit (o_pop (o_ld rx_isR 0 (o_getf 3 1 (o_const 288 (o_ld rx_isR 0 (o_const 16 (o_ld rx_isR 0 (o_getf 3 2 (o_getf 10 8 (o_ld rx_isR 0 (o_getf 3 0 (o_getf 11 0 (o_getf 1 2 (o_const 0 (o_ald 4 (o_getf 10 14 (o_const 0 (o_ald 5 (o_const 147573952589676412897 ((vX3_maker_185 j)))))))))))))))))))))))))
set_option maxRecDepth 20000 in
theorem wX3_maker_140 (hZ : zO b e D A X) (j : Nat → rx_K) (hj : ∀ k pc, [205][k]? = some pc → rx_OK (zV b e D A X) mX3_maker 405 pc (j k)) : rx_OK (zV b e D A X) mX3_maker 405 140 (vX3_maker_140 j) := by
  unfold vX3_maker_140
  refine s_aload_n hZ.1 dX3_maker_140 rfl ?_
  refine yg3_1 dX3_maker_141 zw722 ?_
  refine s_iconst dX3_maker_144 (by decide +kernel) ?_
  refine s_iconst dX3_maker_145 (by decide +kernel) ?_
  refine s_callV hZ.1 (Met_X1_emit hZ) (Nat.le_of_ble_eq_true rfl) vy_X1_emit zcl1 zw2254 zw2255 (Or.inl zw2253) dX3_maker_146 ?_
  refine s_pop hZ.1 dX3_maker_149 ?_
  refine s_aload_n hZ.1 dX3_maker_150 rfl ?_
  refine yg3_1 dX3_maker_151 zw722 ?_
  refine s_bipush dX3_maker_154 (by decide +kernel) ?_
  refine s_aload_n hZ.1 dX3_maker_156 rfl ?_
  refine s_iconst dX3_maker_157 (by decide +kernel) ?_
  refine s_aload_n hZ.1 dX3_maker_158 rfl ?_
  refine yg3_2 dX3_maker_159 zw723 ?_
  refine yg10_8 dX3_maker_162 zw823 ?_
  refine s_aload_n hZ.1 dX3_maker_165 rfl ?_
  refine yg3_0 dX3_maker_166 zw721 ?_
  refine yg11_0 dX3_maker_169 zw1251 ?_
  refine yg1_2 dX3_maker_172 zw1114 ?_
  refine s_iconst dX3_maker_175 (by decide +kernel) ?_
  refine s_aald (tt := 4) rfl rfl dX3_maker_176 ?_
  refine yg10_14 dX3_maker_177 zw859 ?_
  refine s_iconst dX3_maker_180 (by decide +kernel) ?_
  refine s_aald (tt := 5) rfl rfl dX3_maker_181 ?_
  refine s_ldc2 dX3_maker_182 zw2228 (by decide +kernel) ?_
  exact (wX3_maker_185 hZ j hj)
noncomputable def vX3_maker_126 (j : Nat → rx_K) : rx_K := o_ld rx_isR 0 (o_getf 3 2 (o_getf 10 8 (o_const 115324555267378511873 (o_bc (fun x y => lg_cmp x y) (o_c1 rx_eq (vX3_maker_192 j) (vX3_maker_140 j))))))
set_option maxRecDepth 20000 in
theorem wX3_maker_126 (hZ : zO b e D A X) (j : Nat → rx_K) (hj : ∀ k pc, [205][k]? = some pc → rx_OK (zV b e D A X) mX3_maker 405 pc (j k)) : rx_OK (zV b e D A X) mX3_maker 405 126 (vX3_maker_126 j) := by
  unfold vX3_maker_126
  refine s_aload_n hZ.1 dX3_maker_126 rfl ?_
  refine yg3_2 dX3_maker_127 zw723 ?_
  refine yg10_8 dX3_maker_130 zw823 ?_
  refine s_ldc2 dX3_maker_133 zw2243 (by decide +kernel) ?_
  refine s_lcmp dX3_maker_136 ?_
  exact s_if_eq dX3_maker_137 (by decide) (wX3_maker_192 hZ j hj) (wX3_maker_140 hZ j hj)
noncomputable def vX3_maker_118 (j : Nat → rx_K) : rx_K := o_ld rx_isR 2 (o_getf 8 8 (o_st rx_isR 2 ((vX3_maker_192 j))))
set_option maxRecDepth 20000 in
theorem wX3_maker_118 (hZ : zO b e D A X) (j : Nat → rx_K) (hj : ∀ k pc, [205][k]? = some pc → rx_OK (zV b e D A X) mX3_maker 405 pc (j k)) : rx_OK (zV b e D A X) mX3_maker 405 118 (vX3_maker_118 j) := by
  unfold vX3_maker_118
  refine s_aload_n hZ.1 dX3_maker_118 rfl ?_
  refine yg8_8 dX3_maker_119 zw488 ?_
  refine s_astore_n hZ.1 dX3_maker_122 rfl (Nat.le_of_ble_eq_true rfl) ?_
  exact s_goto dX3_maker_123 (by decide) (wX3_maker_192 hZ j hj)
noncomputable def vX3_maker_114 (j : Nat → rx_K) : rx_K := o_callV 2 1 FX1_emit (o_pop ((vX3_maker_118 j)))
set_option maxRecDepth 20000 in
theorem wX3_maker_114 (hZ : zO b e D A X) (j : Nat → rx_K) (hj : ∀ k pc, [205][k]? = some pc → rx_OK (zV b e D A X) mX3_maker 405 pc (j k)) : rx_OK (zV b e D A X) mX3_maker 405 114 (vX3_maker_114 j) := by
  unfold vX3_maker_114
  refine s_callV hZ.1 (Met_X1_emit hZ) (Nat.le_of_ble_eq_true rfl) vy_X1_emit zcl1 zw2254 zw2255 (Or.inl zw2253) dX3_maker_114 ?_
  refine s_pop hZ.1 dX3_maker_117 ?_
  exact (wX3_maker_118 hZ j hj)
noncomputable def vX3_maker_67 (j : Nat → rx_K) : rx_K := o_ld rx_isR 0 (o_getf 3 1 (o_const 24 (o_const 0 (o_callV 2 1 FX1_emit (o_pop (o_ld rx_isR 0 (o_ld rx_isR 2 (o_getf 8 5 (o_ld rx_isR 2 (o_getf 8 11 (o_callV 2 3 (q4 200 0) (o_ld rx_isR 0 (o_getf 3 1 (o_const 288 (o_ld rx_isR 0 (o_const 16 (o_ld rx_isR 0 (o_getf 3 2 (o_getf 10 8 (o_ld rx_isR 2 (o_getf 8 11 (o_const 147573952589676412897 (o_callV 4 3 FX3_useOf ((vX3_maker_114 j)))))))))))))))))))))))))
set_option maxRecDepth 20000 in
theorem wX3_maker_67 (hZ : zO b e D A X) (j : Nat → rx_K) (hj : ∀ k pc, [205][k]? = some pc → rx_OK (zV b e D A X) mX3_maker 405 pc (j k)) : rx_OK (zV b e D A X) mX3_maker 405 67 (vX3_maker_67 j) := by
  unfold vX3_maker_67
  refine s_aload_n hZ.1 dX3_maker_67 rfl ?_
  refine yg3_1 dX3_maker_68 zw722 ?_
  refine s_iconst dX3_maker_71 (by decide +kernel) ?_
  refine s_iconst dX3_maker_72 (by decide +kernel) ?_
  refine s_callV hZ.1 (Met_X1_emit hZ) (Nat.le_of_ble_eq_true rfl) vy_X1_emit zcl1 zw2254 zw2255 (Or.inl zw2253) dX3_maker_73 ?_
  refine s_pop hZ.1 dX3_maker_76 ?_
  refine s_aload_n hZ.1 dX3_maker_77 rfl ?_
  refine s_aload_n hZ.1 dX3_maker_78 rfl ?_
  refine yg8_5 dX3_maker_79 zw476 ?_
  refine s_aload_n hZ.1 dX3_maker_82 rfl ?_
  refine yg8_11 dX3_maker_83 zw499 ?_
  refine s_callV hZ.1 (q4_ok hZ 200 0 _ _ rfl) (Nat.le_of_ble_eq_true rfl) vy_X3_args zcl3 zw2263 zw96 (Or.inl zw2261) dX3_maker_86 ?_
  refine s_aload_n hZ.1 dX3_maker_89 rfl ?_
  refine yg3_1 dX3_maker_90 zw722 ?_
  refine s_bipush dX3_maker_93 (by decide +kernel) ?_
  refine s_aload_n hZ.1 dX3_maker_95 rfl ?_
  refine s_iconst dX3_maker_96 (by decide +kernel) ?_
  refine s_aload_n hZ.1 dX3_maker_97 rfl ?_
  refine yg3_2 dX3_maker_98 zw723 ?_
  refine yg10_8 dX3_maker_101 zw823 ?_
  refine s_aload_n hZ.1 dX3_maker_104 rfl ?_
  refine yg8_11 dX3_maker_105 zw499 ?_
  refine s_ldc2 dX3_maker_108 zw2228 (by decide +kernel) ?_
  refine s_callV hZ.1 (Met_X3_useOf hZ) (Nat.le_of_ble_eq_true rfl) vy_X3_useOf zcl3 zw2231 zw92 (Or.inl zw2229) dX3_maker_111 ?_
  exact (wX3_maker_114 hZ j hj)
noncomputable def vX3_maker_43 (j : Nat → rx_K) : rx_K := o_ld rx_isR 0 (o_getf 3 1 (o_const 8 (o_const 0 (o_callV 2 1 FX1_emit (o_pop (o_ld rx_isR 0 (o_getf 3 2 (o_getf 10 8 (o_const 115324555267378511873 (o_bc (fun x y => lg_cmp x y) (o_c1 rx_eq (vX3_maker_118 j) (vX3_maker_67 j))))))))))))
set_option maxRecDepth 20000 in
theorem wX3_maker_43 (hZ : zO b e D A X) (j : Nat → rx_K) (hj : ∀ k pc, [205][k]? = some pc → rx_OK (zV b e D A X) mX3_maker 405 pc (j k)) : rx_OK (zV b e D A X) mX3_maker 405 43 (vX3_maker_43 j) := by
  unfold vX3_maker_43
  refine s_aload_n hZ.1 dX3_maker_43 rfl ?_
  refine yg3_1 dX3_maker_44 zw722 ?_
  refine s_iconst dX3_maker_47 (by decide +kernel) ?_
  refine s_iconst dX3_maker_48 (by decide +kernel) ?_
  refine s_callV hZ.1 (Met_X1_emit hZ) (Nat.le_of_ble_eq_true rfl) vy_X1_emit zcl1 zw2254 zw2255 (Or.inl zw2253) dX3_maker_49 ?_
  refine s_pop hZ.1 dX3_maker_52 ?_
  refine s_aload_n hZ.1 dX3_maker_53 rfl ?_
  refine yg3_2 dX3_maker_54 zw723 ?_
  refine yg10_8 dX3_maker_57 zw823 ?_
  refine s_ldc2 dX3_maker_60 zw2243 (by decide +kernel) ?_
  refine s_lcmp dX3_maker_63 ?_
  exact s_if_eq dX3_maker_64 (by decide) (wX3_maker_118 hZ j hj) (wX3_maker_67 hZ j hj)
noncomputable def vX3_maker_34 (j : Nat → rx_K) : rx_K := o_ld rx_isR 2 (o_getf 8 0 (o_const 304 (o_c2 rx_eq (vX3_maker_43 j) (vX3_maker_126 j))))
set_option maxRecDepth 20000 in
theorem wX3_maker_34 (hZ : zO b e D A X) (j : Nat → rx_K) (hj : ∀ k pc, [205][k]? = some pc → rx_OK (zV b e D A X) mX3_maker 405 pc (j k)) : rx_OK (zV b e D A X) mX3_maker 405 34 (vX3_maker_34 j) := by
  unfold vX3_maker_34
  refine s_aload_n hZ.1 dX3_maker_34 rfl ?_
  refine yg8_0 dX3_maker_35 zw459 ?_
  refine s_bipush dX3_maker_38 (by decide +kernel) ?_
  exact s_icmp_ne dX3_maker_40 (by decide) (wX3_maker_126 hZ j hj) (wX3_maker_43 hZ j hj)
noncomputable def vX3_maker_29 (j : Nat → rx_K) : rx_K := o_st rx_isR 2 (o_ld rx_isR 2 (o_nul (vX3_maker_126 j) (vX3_maker_34 j)))
set_option maxRecDepth 20000 in
theorem wX3_maker_29 (hZ : zO b e D A X) (j : Nat → rx_K) (hj : ∀ k pc, [205][k]? = some pc → rx_OK (zV b e D A X) mX3_maker 405 pc (j k)) : rx_OK (zV b e D A X) mX3_maker 405 29 (vX3_maker_29 j) := by
  unfold vX3_maker_29
  refine s_astore_n hZ.1 dX3_maker_29 rfl (Nat.le_of_ble_eq_true rfl) ?_
  refine s_aload_n hZ.1 dX3_maker_30 rfl ?_
  exact s_ifnull dX3_maker_31 (by decide) (wX3_maker_126 hZ j hj) (wX3_maker_34 hZ j hj)
noncomputable def vX3_maker_22 (j : Nat → rx_K) : rx_K := o_ld rx_isR 1 (o_getf 7 14 (o_getf 8 5 ((vX3_maker_29 j))))
set_option maxRecDepth 20000 in
theorem wX3_maker_22 (hZ : zO b e D A X) (j : Nat → rx_K) (hj : ∀ k pc, [205][k]? = some pc → rx_OK (zV b e D A X) mX3_maker 405 pc (j k)) : rx_OK (zV b e D A X) mX3_maker 405 22 (vX3_maker_22 j) := by
  unfold vX3_maker_22
  refine s_aload_n hZ.1 dX3_maker_22 rfl ?_
  refine yg7_14 dX3_maker_23 zw1048 ?_
  refine yg8_5 dX3_maker_26 zw476 ?_
  exact (wX3_maker_29 hZ j hj)
noncomputable def vX3_maker_18 (j : Nat → rx_K) : rx_K := o_const 3 ((vX3_maker_29 j))
set_option maxRecDepth 20000 in
theorem wX3_maker_18 (hZ : zO b e D A X) (j : Nat → rx_K) (hj : ∀ k pc, [205][k]? = some pc → rx_OK (zV b e D A X) mX3_maker 405 pc (j k)) : rx_OK (zV b e D A X) mX3_maker 405 18 (vX3_maker_18 j) := by
  unfold vX3_maker_18
  refine s_null dX3_maker_18 ?_
  exact s_goto dX3_maker_19 (by decide) (wX3_maker_29 hZ j hj)
noncomputable def vX3_maker_0 (j : Nat → rx_K) : rx_K := o_ld rx_isR 1 (o_ld rx_isR 0 (o_getf 3 1 (o_getf 1 17 (o_putf rx_isI 7 17 (o_ld rx_isR 1 (o_getf 7 14 (o_nul (vX3_maker_18 j) (vX3_maker_22 j))))))))
set_option maxRecDepth 20000 in
theorem wX3_maker_0 (hZ : zO b e D A X) (j : Nat → rx_K) (hj : ∀ k pc, [205][k]? = some pc → rx_OK (zV b e D A X) mX3_maker 405 pc (j k)) : rx_OK (zV b e D A X) mX3_maker 405 0 (vX3_maker_0 j) := by
  unfold vX3_maker_0
  refine s_aload_n hZ.1 dX3_maker_0 rfl ?_
  refine s_aload_n hZ.1 dX3_maker_1 rfl ?_
  refine yg3_1 dX3_maker_2 zw722 ?_
  refine yg1_17 dX3_maker_5 zw1172 ?_
  refine yp7_17 hZ.1 dX3_maker_8 zw1066 ?_
  refine s_aload_n hZ.1 dX3_maker_11 rfl ?_
  refine yg7_14 dX3_maker_12 zw1048 ?_
  exact s_ifnonnull dX3_maker_15 (by decide) (wX3_maker_22 hZ j hj) (wX3_maker_18 hZ j hj)
noncomputable def vhX3_maker (j : Nat → rx_K) : List rx_K := [vX3_maker_205 j]
theorem vlX3_maker (hZ : zO b e D A X) : ∀ n k pc, [205][k]? = some pc → rx_OK (zV b e D A X) mX3_maker 405 pc (rx_J (vhX3_maker) n k) := rx_loop fun j hj k pc h => by
  match k, h with
  | 0, h =>
    have e9 := Option.some.inj (show some 205 = some pc from h)
    subst e9
    exact wX3_maker_205 hZ j hj
  | _ + 1, h => exact absurd h (by simp)
noncomputable def FX3_maker : List Nat → rx_H → Option (Nat × rx_H) := rx_ent 4 (vX3_maker_0 (rx_J (vhX3_maker) 4000000000))
theorem Met_X3_maker (hZ : zO b e D A X) : rx_Met (zV b e D A X) 405 yX3_maker mX3_maker (FX3_maker) := rx_entry hZ.1 (wX3_maker_0 hZ _ (vlX3_maker hZ 4000000000)) (by decide +kernel) rfl (fun h => by cases h)
abbrev mX3_openRow : rx_M := (RX3, cX3_openRow, 5, none, false)
theorem vy_X3_openRow : rx_Y (zV b e D A X) yX3_openRow mX3_openRow 1 := ⟨zw2226, zw422, by decide, by decide +kernel, by decide +kernel, by decide +kernel⟩
noncomputable def vX3_openRow_259 (j : Nat → rx_K) : rx_K := o_ret0
set_option maxRecDepth 20000 in
theorem wX3_openRow_259 (hZ : zO b e D A X) (j : Nat → rx_K) (hj : ∀ k pc, [89, 220][k]? = some pc → rx_OK (zV b e D A X) mX3_openRow 3 pc (j k)) : rx_OK (zV b e D A X) mX3_openRow 3 259 (vX3_openRow_259 j) := by
  unfold vX3_openRow_259
  exact s_vret rfl dX3_openRow_259
noncomputable def vX3_openRow_233 (j : Nat → rx_K) : rx_K := o_ld rx_isR 0 (o_const 152 (o_ld rx_isR 0 (o_getf 3 2 (o_const 0 (o_ld rx_isI 3 (o_callV 2 10 FX10_listedAt (o_const 3 (o_const 147573952589676412897 (o_callV 4 3 FX3_useOf (o_pop (o_inc 3 (1) ((j 1)))))))))))))
set_option maxRecDepth 20000 in
theorem wX3_openRow_233 (hZ : zO b e D A X) (j : Nat → rx_K) (hj : ∀ k pc, [89, 220][k]? = some pc → rx_OK (zV b e D A X) mX3_openRow 3 pc (j k)) : rx_OK (zV b e D A X) mX3_openRow 3 233 (vX3_openRow_233 j) := by
  unfold vX3_openRow_233
  refine s_aload_n hZ.1 dX3_openRow_233 rfl ?_
  refine s_bipush dX3_openRow_234 (by decide +kernel) ?_
  refine s_aload_n hZ.1 dX3_openRow_236 rfl ?_
  refine yg3_2 dX3_openRow_237 zw723 ?_
  refine s_iconst dX3_openRow_240 (by decide +kernel) ?_
  refine s_iload_n hZ.1 dX3_openRow_241 rfl ?_
  refine s_callV hZ.1 (Met_X10_listedAt hZ) (Nat.le_of_ble_eq_true rfl) vy_X10_listedAt zcl10 zw1586 zw1587 (Or.inl zw2244) dX3_openRow_242 ?_
  refine s_null dX3_openRow_245 ?_
  refine s_ldc2 dX3_openRow_246 zw2228 (by decide +kernel) ?_
  refine s_callV hZ.1 (Met_X3_useOf hZ) (Nat.le_of_ble_eq_true rfl) vy_X3_useOf zcl3 zw2231 zw92 (Or.inl zw2229) dX3_openRow_249 ?_
  refine s_pop hZ.1 dX3_openRow_252 ?_
  refine s_iinc hZ.1 dX3_openRow_253 (Nat.le_of_ble_eq_true rfl) ?_
  exact s_goto dX3_openRow_256 (by decide) (hj 1 220 rfl)
noncomputable def vX3_openRow_220 (j : Nat → rx_K) : rx_K := o_ld rx_isI 3 (o_ld rx_isR 0 (o_getf 3 2 (o_getf 10 11 (o_const 0 (o_ald 0 (o_c2 rx_lt (vX3_openRow_233 j) (vX3_openRow_259 j)))))))
set_option maxRecDepth 20000 in
theorem wX3_openRow_220 (hZ : zO b e D A X) (j : Nat → rx_K) (hj : ∀ k pc, [89, 220][k]? = some pc → rx_OK (zV b e D A X) mX3_openRow 3 pc (j k)) : rx_OK (zV b e D A X) mX3_openRow 3 220 (vX3_openRow_220 j) := by
  unfold vX3_openRow_220
  refine s_iload_n hZ.1 dX3_openRow_220 rfl ?_
  refine s_aload_n hZ.1 dX3_openRow_221 rfl ?_
  refine yg3_2 dX3_openRow_222 zw723 ?_
  refine yg10_11 dX3_openRow_225 zw839 ?_
  refine s_iconst dX3_openRow_228 (by decide +kernel) ?_
  refine s_iald (tt := 0) rfl dX3_openRow_229 ?_
  exact s_icmp_ge dX3_openRow_230 (by decide) (wX3_openRow_259 hZ j hj) (wX3_openRow_233 hZ j hj)
noncomputable def vX3_openRow_218 (j : Nat → rx_K) : rx_K := o_const 0 (o_st rx_isI 3 ((vX3_openRow_220 j)))
set_option maxRecDepth 20000 in
theorem wX3_openRow_218 (hZ : zO b e D A X) (j : Nat → rx_K) (hj : ∀ k pc, [89, 220][k]? = some pc → rx_OK (zV b e D A X) mX3_openRow 3 pc (j k)) : rx_OK (zV b e D A X) mX3_openRow 3 218 (vX3_openRow_218 j) := by
  unfold vX3_openRow_218
  refine s_iconst dX3_openRow_218 (by decide +kernel) ?_
  refine s_istore_n hZ.1 dX3_openRow_219 rfl (Nat.le_of_ble_eq_true rfl) ?_
  exact (wX3_openRow_220 hZ j hj)
noncomputable def vX3_openRow_200 (j : Nat → rx_K) : rx_K := o_ld rx_isR 0 (o_const 144 (o_ld rx_isR 0 (o_getf 3 2 (o_getf 10 8 (o_const 3 (o_const 147573952589676412897 (o_callV 4 3 FX3_useOf (o_pop ((vX3_openRow_218 j))))))))))
set_option maxRecDepth 20000 in
theorem wX3_openRow_200 (hZ : zO b e D A X) (j : Nat → rx_K) (hj : ∀ k pc, [89, 220][k]? = some pc → rx_OK (zV b e D A X) mX3_openRow 3 pc (j k)) : rx_OK (zV b e D A X) mX3_openRow 3 200 (vX3_openRow_200 j) := by
  unfold vX3_openRow_200
  refine s_aload_n hZ.1 dX3_openRow_200 rfl ?_
  refine s_bipush dX3_openRow_201 (by decide +kernel) ?_
  refine s_aload_n hZ.1 dX3_openRow_203 rfl ?_
  refine yg3_2 dX3_openRow_204 zw723 ?_
  refine yg10_8 dX3_openRow_207 zw823 ?_
  refine s_null dX3_openRow_210 ?_
  refine s_ldc2 dX3_openRow_211 zw2228 (by decide +kernel) ?_
  refine s_callV hZ.1 (Met_X3_useOf hZ) (Nat.le_of_ble_eq_true rfl) vy_X3_useOf zcl3 zw2231 zw92 (Or.inl zw2229) dX3_openRow_214 ?_
  refine s_pop hZ.1 dX3_openRow_217 ?_
  exact (wX3_openRow_218 hZ j hj)
noncomputable def vX3_openRow_190 (j : Nat → rx_K) : rx_K := o_ld rx_isR 0 (o_getf 3 2 (o_getf 10 7 (o_c1 rx_eq (vX3_openRow_218 j) (vX3_openRow_200 j))))
set_option maxRecDepth 20000 in
theorem wX3_openRow_190 (hZ : zO b e D A X) (j : Nat → rx_K) (hj : ∀ k pc, [89, 220][k]? = some pc → rx_OK (zV b e D A X) mX3_openRow 3 pc (j k)) : rx_OK (zV b e D A X) mX3_openRow 3 190 (vX3_openRow_190 j) := by
  unfold vX3_openRow_190
  refine s_aload_n hZ.1 dX3_openRow_190 rfl ?_
  refine yg3_2 dX3_openRow_191 zw723 ?_
  refine yg10_7 dX3_openRow_194 zw817 ?_
  exact s_if_eq dX3_openRow_197 (by decide) (wX3_openRow_218 hZ j hj) (wX3_openRow_200 hZ j hj)
noncomputable def vX3_openRow_184 (j : Nat → rx_K) : rx_K := o_inc 3 (1) ((j 0))
set_option maxRecDepth 20000 in
theorem wX3_openRow_184 (hZ : zO b e D A X) (j : Nat → rx_K) (hj : ∀ k pc, [89, 220][k]? = some pc → rx_OK (zV b e D A X) mX3_openRow 3 pc (j k)) : rx_OK (zV b e D A X) mX3_openRow 3 184 (vX3_openRow_184 j) := by
  unfold vX3_openRow_184
  refine s_iinc hZ.1 dX3_openRow_184 (Nat.le_of_ble_eq_true rfl) ?_
  exact s_goto dX3_openRow_187 (by decide) (hj 0 89 rfl)
noncomputable def vX3_openRow_180 (j : Nat → rx_K) : rx_K := o_bi (fun x y => x + y) (o_putf rx_isI 10 20 ((vX3_openRow_184 j)))
set_option maxRecDepth 20000 in
theorem wX3_openRow_180 (hZ : zO b e D A X) (j : Nat → rx_K) (hj : ∀ k pc, [89, 220][k]? = some pc → rx_OK (zV b e D A X) mX3_openRow 3 pc (j k)) : rx_OK (zV b e D A X) mX3_openRow 3 180 (vX3_openRow_180 j) := by
  unfold vX3_openRow_180
  refine s_iadd dX3_openRow_180 ?_
  refine yp10_20 hZ.1 dX3_openRow_181 zw891 ?_
  exact (wX3_openRow_184 hZ j hj)
noncomputable def vX3_openRow_179 (j : Nat → rx_K) : rx_K := o_const 8 ((vX3_openRow_180 j))
set_option maxRecDepth 20000 in
theorem wX3_openRow_179 (hZ : zO b e D A X) (j : Nat → rx_K) (hj : ∀ k pc, [89, 220][k]? = some pc → rx_OK (zV b e D A X) mX3_openRow 3 pc (j k)) : rx_OK (zV b e D A X) mX3_openRow 3 179 (vX3_openRow_179 j) := by
  unfold vX3_openRow_179
  refine s_iconst dX3_openRow_179 (by decide +kernel) ?_
  exact (wX3_openRow_180 hZ j hj)
noncomputable def vX3_openRow_175 (j : Nat → rx_K) : rx_K := o_const 0 ((vX3_openRow_180 j))
set_option maxRecDepth 20000 in
theorem wX3_openRow_175 (hZ : zO b e D A X) (j : Nat → rx_K) (hj : ∀ k pc, [89, 220][k]? = some pc → rx_OK (zV b e D A X) mX3_openRow 3 pc (j k)) : rx_OK (zV b e D A X) mX3_openRow 3 175 (vX3_openRow_175 j) := by
  unfold vX3_openRow_175
  refine s_iconst dX3_openRow_175 (by decide +kernel) ?_
  exact s_goto dX3_openRow_176 (by decide) (wX3_openRow_180 hZ j hj)
noncomputable def vX3_openRow_157 (j : Nat → rx_K) : rx_K := o_bi (fun x y => x + y) (o_st rx_isI 2 (o_ld rx_isR 0 (o_getf 3 2 (o_dup (o_getf 10 20 (o_ld rx_isR 4 (o_getf 7 2 (o_c1 rx_eq (vX3_openRow_179 j) (vX3_openRow_175 j)))))))))
set_option maxRecDepth 20000 in
theorem wX3_openRow_157 (hZ : zO b e D A X) (j : Nat → rx_K) (hj : ∀ k pc, [89, 220][k]? = some pc → rx_OK (zV b e D A X) mX3_openRow 3 pc (j k)) : rx_OK (zV b e D A X) mX3_openRow 3 157 (vX3_openRow_157 j) := by
  unfold vX3_openRow_157
  refine s_iadd dX3_openRow_157 ?_
  refine s_istore_n hZ.1 dX3_openRow_158 rfl (Nat.le_of_ble_eq_true rfl) ?_
  refine s_aload_n hZ.1 dX3_openRow_159 rfl ?_
  refine yg3_2 dX3_openRow_160 zw723 ?_
  refine s_dup hZ.1 dX3_openRow_163 ?_
  refine yg10_20 dX3_openRow_164 zw891 ?_
  refine s_aload hZ.1 dX3_openRow_167 ?_
  refine yg7_2 dX3_openRow_169 zw962 ?_
  exact s_if_eq dX3_openRow_172 (by decide) (wX3_openRow_179 hZ j hj) (wX3_openRow_175 hZ j hj)
noncomputable def vX3_openRow_156 (j : Nat → rx_K) : rx_K := o_const 0 ((vX3_openRow_157 j))
set_option maxRecDepth 20000 in
theorem wX3_openRow_156 (hZ : zO b e D A X) (j : Nat → rx_K) (hj : ∀ k pc, [89, 220][k]? = some pc → rx_OK (zV b e D A X) mX3_openRow 3 pc (j k)) : rx_OK (zV b e D A X) mX3_openRow 3 156 (vX3_openRow_156 j) := by
  unfold vX3_openRow_156
  refine s_iconst dX3_openRow_156 (by decide +kernel) ?_
  exact (wX3_openRow_157 hZ j hj)
noncomputable def vX3_openRow_152 (j : Nat → rx_K) : rx_K := o_const 8 ((vX3_openRow_157 j))
set_option maxRecDepth 20000 in
theorem wX3_openRow_152 (hZ : zO b e D A X) (j : Nat → rx_K) (hj : ∀ k pc, [89, 220][k]? = some pc → rx_OK (zV b e D A X) mX3_openRow 3 pc (j k)) : rx_OK (zV b e D A X) mX3_openRow 3 152 (vX3_openRow_152 j) := by
  unfold vX3_openRow_152
  refine s_iconst dX3_openRow_152 (by decide +kernel) ?_
  exact s_goto dX3_openRow_153 (by decide) (wX3_openRow_157 hZ j hj)
noncomputable def vX3_openRow_140 (j : Nat → rx_K) : rx_K := o_putf rx_isI 7 17 (o_ld rx_isI 2 (o_ld rx_isR 4 (o_getf 7 2 (o_c1 rx_eq (vX3_openRow_156 j) (vX3_openRow_152 j)))))
set_option maxRecDepth 20000 in
theorem wX3_openRow_140 (hZ : zO b e D A X) (j : Nat → rx_K) (hj : ∀ k pc, [89, 220][k]? = some pc → rx_OK (zV b e D A X) mX3_openRow 3 pc (j k)) : rx_OK (zV b e D A X) mX3_openRow 3 140 (vX3_openRow_140 j) := by
  unfold vX3_openRow_140
  refine yp7_17 hZ.1 dX3_openRow_140 zw1066 ?_
  refine s_iload_n hZ.1 dX3_openRow_143 rfl ?_
  refine s_aload hZ.1 dX3_openRow_144 ?_
  refine yg7_2 dX3_openRow_146 zw962 ?_
  exact s_if_eq dX3_openRow_149 (by decide) (wX3_openRow_156 hZ j hj) (wX3_openRow_152 hZ j hj)
noncomputable def vX3_openRow_133 (j : Nat → rx_K) : rx_K := o_ld rx_isR 0 (o_getf 3 2 (o_getf 10 20 ((vX3_openRow_140 j))))
set_option maxRecDepth 20000 in
theorem wX3_openRow_133 (hZ : zO b e D A X) (j : Nat → rx_K) (hj : ∀ k pc, [89, 220][k]? = some pc → rx_OK (zV b e D A X) mX3_openRow 3 pc (j k)) : rx_OK (zV b e D A X) mX3_openRow 3 133 (vX3_openRow_133 j) := by
  unfold vX3_openRow_133
  refine s_aload_n hZ.1 dX3_openRow_133 rfl ?_
  refine yg3_2 dX3_openRow_134 zw723 ?_
  refine yg10_20 dX3_openRow_137 zw891 ?_
  exact (wX3_openRow_140 hZ j hj)
noncomputable def vX3_openRow_129 (j : Nat → rx_K) : rx_K := o_ld rx_isI 2 ((vX3_openRow_140 j))
set_option maxRecDepth 20000 in
theorem wX3_openRow_129 (hZ : zO b e D A X) (j : Nat → rx_K) (hj : ∀ k pc, [89, 220][k]? = some pc → rx_OK (zV b e D A X) mX3_openRow 3 pc (j k)) : rx_OK (zV b e D A X) mX3_openRow 3 129 (vX3_openRow_129 j) := by
  unfold vX3_openRow_129
  refine s_iload_n hZ.1 dX3_openRow_129 rfl ?_
  exact s_goto dX3_openRow_130 (by decide) (wX3_openRow_140 hZ j hj)
noncomputable def vX3_openRow_119 (j : Nat → rx_K) : rx_K := o_ld rx_isR 4 (o_ld rx_isR 4 (o_getf 7 2 (o_c1 rx_eq (vX3_openRow_133 j) (vX3_openRow_129 j))))
set_option maxRecDepth 20000 in
theorem wX3_openRow_119 (hZ : zO b e D A X) (j : Nat → rx_K) (hj : ∀ k pc, [89, 220][k]? = some pc → rx_OK (zV b e D A X) mX3_openRow 3 pc (j k)) : rx_OK (zV b e D A X) mX3_openRow 3 119 (vX3_openRow_119 j) := by
  unfold vX3_openRow_119
  refine s_aload hZ.1 dX3_openRow_119 ?_
  refine s_aload hZ.1 dX3_openRow_121 ?_
  refine yg7_2 dX3_openRow_123 zw962 ?_
  exact s_if_eq dX3_openRow_126 (by decide) (wX3_openRow_133 hZ j hj) (wX3_openRow_129 hZ j hj)
noncomputable def vX3_openRow_100 (j : Nat → rx_K) : rx_K := o_ld rx_isR 0 (o_getf 3 2 (o_getf 10 14 (o_ld rx_isI 3 (o_ald 5 (o_st rx_isR 4 (o_ld rx_isR 4 (o_getf 7 0 (o_c1 rx_eq (vX3_openRow_119 j) (vX3_openRow_184 j)))))))))
set_option maxRecDepth 20000 in
theorem wX3_openRow_100 (hZ : zO b e D A X) (j : Nat → rx_K) (hj : ∀ k pc, [89, 220][k]? = some pc → rx_OK (zV b e D A X) mX3_openRow 3 pc (j k)) : rx_OK (zV b e D A X) mX3_openRow 3 100 (vX3_openRow_100 j) := by
  unfold vX3_openRow_100
  refine s_aload_n hZ.1 dX3_openRow_100 rfl ?_
  refine yg3_2 dX3_openRow_101 zw723 ?_
  refine yg10_14 dX3_openRow_104 zw859 ?_
  refine s_iload_n hZ.1 dX3_openRow_107 rfl ?_
  refine s_aald (tt := 5) rfl rfl dX3_openRow_108 ?_
  refine s_astore hZ.1 dX3_openRow_109 (Nat.le_of_ble_eq_true rfl) ?_
  refine s_aload hZ.1 dX3_openRow_111 ?_
  refine yg7_0 dX3_openRow_113 zw944 ?_
  exact s_if_ne dX3_openRow_116 (by decide) (wX3_openRow_184 hZ j hj) (wX3_openRow_119 hZ j hj)
noncomputable def vX3_openRow_89 (j : Nat → rx_K) : rx_K := o_ld rx_isI 3 (o_ld rx_isR 0 (o_getf 3 2 (o_getf 10 15 (o_c2 rx_lt (vX3_openRow_100 j) (vX3_openRow_190 j)))))
set_option maxRecDepth 20000 in
theorem wX3_openRow_89 (hZ : zO b e D A X) (j : Nat → rx_K) (hj : ∀ k pc, [89, 220][k]? = some pc → rx_OK (zV b e D A X) mX3_openRow 3 pc (j k)) : rx_OK (zV b e D A X) mX3_openRow 3 89 (vX3_openRow_89 j) := by
  unfold vX3_openRow_89
  refine s_iload_n hZ.1 dX3_openRow_89 rfl ?_
  refine s_aload_n hZ.1 dX3_openRow_90 rfl ?_
  refine yg3_2 dX3_openRow_91 zw723 ?_
  refine yg10_15 dX3_openRow_94 zw867 ?_
  exact s_icmp_ge dX3_openRow_97 (by decide) (wX3_openRow_190 hZ j hj) (wX3_openRow_100 hZ j hj)
noncomputable def vX3_openRow_53 (j : Nat → rx_K) : rx_K := o_putf rx_isI 7 17 (o_ld rx_isR 0 (o_getf 3 2 (o_const 34359738352 (o_putf rx_isI 10 19 (o_ld rx_isR 0 (o_getf 3 2 (o_const 0 (o_putf rx_isI 10 20 (o_ld rx_isR 0 (o_const 34359738352 (o_putf rx_isI 3 5 (o_ld rx_isR 0 (o_const 34359738352 (o_putf rx_isI 3 6 (o_const 0 (o_st rx_isI 2 (o_const 0 (o_st rx_isI 3 ((vX3_openRow_89 j))))))))))))))))))))
set_option maxRecDepth 20000 in
theorem wX3_openRow_53 (hZ : zO b e D A X) (j : Nat → rx_K) (hj : ∀ k pc, [89, 220][k]? = some pc → rx_OK (zV b e D A X) mX3_openRow 3 pc (j k)) : rx_OK (zV b e D A X) mX3_openRow 3 53 (vX3_openRow_53 j) := by
  unfold vX3_openRow_53
  refine yp7_17 hZ.1 dX3_openRow_53 zw1066 ?_
  refine s_aload_n hZ.1 dX3_openRow_56 rfl ?_
  refine yg3_2 dX3_openRow_57 zw723 ?_
  refine s_bipush dX3_openRow_60 (by decide +kernel) ?_
  refine yp10_19 hZ.1 dX3_openRow_62 zw887 ?_
  refine s_aload_n hZ.1 dX3_openRow_65 rfl ?_
  refine yg3_2 dX3_openRow_66 zw723 ?_
  refine s_iconst dX3_openRow_69 (by decide +kernel) ?_
  refine yp10_20 hZ.1 dX3_openRow_70 zw891 ?_
  refine s_aload_n hZ.1 dX3_openRow_73 rfl ?_
  refine s_bipush dX3_openRow_74 (by decide +kernel) ?_
  refine yp3_5 hZ.1 dX3_openRow_76 zw726 ?_
  refine s_aload_n hZ.1 dX3_openRow_79 rfl ?_
  refine s_bipush dX3_openRow_80 (by decide +kernel) ?_
  refine yp3_6 hZ.1 dX3_openRow_82 zw727 ?_
  refine s_iconst dX3_openRow_85 (by decide +kernel) ?_
  refine s_istore_n hZ.1 dX3_openRow_86 rfl (Nat.le_of_ble_eq_true rfl) ?_
  refine s_iconst dX3_openRow_87 (by decide +kernel) ?_
  refine s_istore_n hZ.1 dX3_openRow_88 rfl (Nat.le_of_ble_eq_true rfl) ?_
  exact (wX3_openRow_89 hZ j hj)
noncomputable def vX3_openRow_0 (j : Nat → rx_K) : rx_K := o_ld rx_isR 0 (o_ld rx_isR 1 (o_putf rx_isR 3 2 (o_ld rx_isR 0 (o_getf 3 2 (o_ld rx_isR 0 (o_getf 3 1 (o_getf 1 15 (o_putf rx_isI 10 16 (o_ld rx_isR 0 (o_getf 3 2 (o_ld rx_isR 0 (o_getf 3 1 (o_callV 0 1 FX1_newMember (o_putf rx_isR 10 18 (o_ld rx_isR 0 (o_getf 3 2 (o_getf 10 18 (o_const 24 (o_putf rx_isI 7 0 (o_ld rx_isR 0 (o_getf 3 2 (o_getf 10 18 (o_const 34359738352 ((vX3_openRow_53 j)))))))))))))))))))))))))
set_option maxRecDepth 20000 in
theorem wX3_openRow_0 (hZ : zO b e D A X) (j : Nat → rx_K) (hj : ∀ k pc, [89, 220][k]? = some pc → rx_OK (zV b e D A X) mX3_openRow 3 pc (j k)) : rx_OK (zV b e D A X) mX3_openRow 3 0 (vX3_openRow_0 j) := by
  unfold vX3_openRow_0
  refine s_aload_n hZ.1 dX3_openRow_0 rfl ?_
  refine s_aload_n hZ.1 dX3_openRow_1 rfl ?_
  refine yp3_2 hZ.1 dX3_openRow_2 zw723 ?_
  refine s_aload_n hZ.1 dX3_openRow_5 rfl ?_
  refine yg3_2 dX3_openRow_6 zw723 ?_
  refine s_aload_n hZ.1 dX3_openRow_9 rfl ?_
  refine yg3_1 dX3_openRow_10 zw722 ?_
  refine yg1_15 dX3_openRow_13 zw1165 ?_
  refine yp10_16 hZ.1 dX3_openRow_16 zw875 ?_
  refine s_aload_n hZ.1 dX3_openRow_19 rfl ?_
  refine yg3_2 dX3_openRow_20 zw723 ?_
  refine s_aload_n hZ.1 dX3_openRow_23 rfl ?_
  refine yg3_1 dX3_openRow_24 zw722 ?_
  refine s_callV hZ.1 (Met_X1_newMember hZ) (Nat.le_of_ble_eq_true rfl) vy_X1_newMember zcl1 zw1228 zw1229 (Or.inl zw2227) dX3_openRow_27 ?_
  refine yp10_18 hZ.1 dX3_openRow_30 zw884 ?_
  refine s_aload_n hZ.1 dX3_openRow_33 rfl ?_
  refine yg3_2 dX3_openRow_34 zw723 ?_
  refine yg10_18 dX3_openRow_37 zw884 ?_
  refine s_iconst dX3_openRow_40 (by decide +kernel) ?_
  refine yp7_0 hZ.1 dX3_openRow_41 zw944 ?_
  refine s_aload_n hZ.1 dX3_openRow_44 rfl ?_
  refine yg3_2 dX3_openRow_45 zw723 ?_
  refine yg10_18 dX3_openRow_48 zw884 ?_
  refine s_bipush dX3_openRow_51 (by decide +kernel) ?_
  exact (wX3_openRow_53 hZ j hj)
noncomputable def vhX3_openRow (j : Nat → rx_K) : List rx_K := [vX3_openRow_89 j, vX3_openRow_220 j]
theorem vlX3_openRow (hZ : zO b e D A X) : ∀ n k pc, [89, 220][k]? = some pc → rx_OK (zV b e D A X) mX3_openRow 3 pc (rx_J (vhX3_openRow) n k) := rx_loop fun j hj k pc h => by
  match k, h with
  | 0, h =>
    have e9 := Option.some.inj (show some 89 = some pc from h)
    subst e9
    exact wX3_openRow_89 hZ j hj
  | 1, h =>
    have e9 := Option.some.inj (show some 220 = some pc from h)
    subst e9
    exact wX3_openRow_220 hZ j hj
  | _ + 2, h => exact absurd h (by simp)
noncomputable def FX3_openRow : List Nat → rx_H → Option (Nat × rx_H) := rx_ent 5 (vX3_openRow_0 (rx_J (vhX3_openRow) 4000000000))
theorem Met_X3_openRow (hZ : zO b e D A X) : rx_Met (zV b e D A X) 3 yX3_openRow mX3_openRow (FX3_openRow) := rx_entry hZ.1 (wX3_openRow_0 hZ _ (vlX3_openRow hZ 4000000000)) (by decide +kernel) rfl (fun h => by cases h)
abbrev mX3_write : rx_M := (RX3, cX3_write, 6, none, false)
theorem vy_X3_write : rx_Y (zV b e D A X) yX3_write mX3_write 2 := ⟨zw2222, zw422, by decide, by decide +kernel, by decide +kernel, by decide +kernel⟩
noncomputable def vX3_write_221 (j : Nat → rx_K) : rx_K := o_ret0
set_option maxRecDepth 20000 in
theorem wX3_write_221 (hZ : zO b e D A X) (j : Nat → rx_K) (hj : ∀ k pc, [12, 44, 132][k]? = some pc → rx_OK (zV b e D A X) mX3_write 406 pc (j k)) : rx_OK (zV b e D A X) mX3_write 406 221 (vX3_write_221 j) := by
  unfold vX3_write_221
  exact s_vret rfl dX3_write_221
noncomputable def vX3_write_211 (j : Nat → rx_K) : rx_K := o_ld rx_isR 0 (o_callV 0 3 FX3_closeRow (o_inc 3 (1) ((j 0))))
set_option maxRecDepth 20000 in
theorem wX3_write_211 (hZ : zO b e D A X) (j : Nat → rx_K) (hj : ∀ k pc, [12, 44, 132][k]? = some pc → rx_OK (zV b e D A X) mX3_write 406 pc (j k)) : rx_OK (zV b e D A X) mX3_write 406 211 (vX3_write_211 j) := by
  unfold vX3_write_211
  refine s_aload_n hZ.1 dX3_write_211 rfl ?_
  refine s_callV hZ.1 (Met_X3_closeRow hZ) (Nat.le_of_ble_eq_true rfl) vy_X3_closeRow zcl3 zw2328 zw110 (Or.inl zw2326) dX3_write_212 ?_
  refine s_iinc hZ.1 dX3_write_215 (Nat.le_of_ble_eq_true rfl) ?_
  exact s_goto dX3_write_218 (by decide) (hj 0 12 rfl)
noncomputable def vX3_write_205 (j : Nat → rx_K) : rx_K := o_inc 4 (1) ((j 2))
set_option maxRecDepth 20000 in
theorem wX3_write_205 (hZ : zO b e D A X) (j : Nat → rx_K) (hj : ∀ k pc, [12, 44, 132][k]? = some pc → rx_OK (zV b e D A X) mX3_write 406 pc (j k)) : rx_OK (zV b e D A X) mX3_write 406 205 (vX3_write_205 j) := by
  unfold vX3_write_205
  refine s_iinc hZ.1 dX3_write_205 (Nat.le_of_ble_eq_true rfl) ?_
  exact s_goto dX3_write_208 (by decide) (hj 2 132 rfl)
noncomputable def vX3_write_199 (j : Nat → rx_K) : rx_K := o_ld rx_isR 0 (o_ld rx_isR 5 (o_callV 1 3 FX3_maker ((vX3_write_205 j))))
set_option maxRecDepth 20000 in
theorem wX3_write_199 (hZ : zO b e D A X) (j : Nat → rx_K) (hj : ∀ k pc, [12, 44, 132][k]? = some pc → rx_OK (zV b e D A X) mX3_write 406 pc (j k)) : rx_OK (zV b e D A X) mX3_write 406 199 (vX3_write_199 j) := by
  unfold vX3_write_199
  refine s_aload_n hZ.1 dX3_write_199 rfl ?_
  refine s_aload hZ.1 dX3_write_200 ?_
  refine s_callV hZ.1 (Met_X3_maker hZ) (Nat.le_of_ble_eq_true rfl) vy_X3_maker zcl3 zw2292 zw102 (Or.inl zw2290) dX3_write_202 ?_
  exact (wX3_write_205 hZ j hj)
noncomputable def vX3_write_191 (j : Nat → rx_K) : rx_K := o_ld rx_isR 5 (o_getf 7 6 (o_c1 rx_eq (vX3_write_199 j) (vX3_write_205 j)))
set_option maxRecDepth 20000 in
theorem wX3_write_191 (hZ : zO b e D A X) (j : Nat → rx_K) (hj : ∀ k pc, [12, 44, 132][k]? = some pc → rx_OK (zV b e D A X) mX3_write 406 pc (j k)) : rx_OK (zV b e D A X) mX3_write 406 191 (vX3_write_191 j) := by
  unfold vX3_write_191
  refine s_aload hZ.1 dX3_write_191 ?_
  refine yg7_6 dX3_write_193 zw996 ?_
  exact s_if_ne dX3_write_196 (by decide) (wX3_write_205 hZ j hj) (wX3_write_199 hZ j hj)
noncomputable def vX3_write_182 (j : Nat → rx_K) : rx_K := o_ld rx_isR 5 (o_getf 7 0 (o_const 16 (o_c2 rx_eq (vX3_write_191 j) (vX3_write_205 j))))
set_option maxRecDepth 20000 in
theorem wX3_write_182 (hZ : zO b e D A X) (j : Nat → rx_K) (hj : ∀ k pc, [12, 44, 132][k]? = some pc → rx_OK (zV b e D A X) mX3_write 406 pc (j k)) : rx_OK (zV b e D A X) mX3_write 406 182 (vX3_write_182 j) := by
  unfold vX3_write_182
  refine s_aload hZ.1 dX3_write_182 ?_
  refine yg7_0 dX3_write_184 zw944 ?_
  refine s_iconst dX3_write_187 (by decide +kernel) ?_
  exact s_icmp_ne dX3_write_188 (by decide) (wX3_write_205 hZ j hj) (wX3_write_191 hZ j hj)
noncomputable def vX3_write_164 (j : Nat → rx_K) : rx_K := o_ld rx_isR 0 (o_ld rx_isR 5 (o_ld rx_isR 0 (o_getf 3 2 (o_ld rx_isR 5 (o_callV 1 10 FX10_plain (o_callV 2 3 FX3_bridge ((vX3_write_205 j))))))))
set_option maxRecDepth 20000 in
theorem wX3_write_164 (hZ : zO b e D A X) (j : Nat → rx_K) (hj : ∀ k pc, [12, 44, 132][k]? = some pc → rx_OK (zV b e D A X) mX3_write 406 pc (j k)) : rx_OK (zV b e D A X) mX3_write 406 164 (vX3_write_164 j) := by
  unfold vX3_write_164
  refine s_aload_n hZ.1 dX3_write_164 rfl ?_
  refine s_aload hZ.1 dX3_write_165 ?_
  refine s_aload_n hZ.1 dX3_write_167 rfl ?_
  refine yg3_2 dX3_write_168 zw723 ?_
  refine s_aload hZ.1 dX3_write_171 ?_
  refine s_callV hZ.1 (Met_X10_plain hZ) (Nat.le_of_ble_eq_true rfl) vy_X10_plain zcl10 zw1965 zw1966 (Or.inl zw2321) dX3_write_173 ?_
  refine s_callV hZ.1 (Met_X3_bridge hZ) (Nat.le_of_ble_eq_true rfl) vy_X3_bridge zcl3 zw2324 zw109 (Or.inl zw2322) dX3_write_176 ?_
  exact s_goto dX3_write_179 (by decide) (wX3_write_205 hZ j hj)
noncomputable def vX3_write_144 (j : Nat → rx_K) : rx_K := o_ld rx_isR 0 (o_getf 3 2 (o_getf 10 14 (o_ld rx_isI 4 (o_ald 5 (o_st rx_isR 5 (o_ld rx_isR 5 (o_getf 7 5 (o_c1 rx_eq (vX3_write_182 j) (vX3_write_164 j)))))))))
set_option maxRecDepth 20000 in
theorem wX3_write_144 (hZ : zO b e D A X) (j : Nat → rx_K) (hj : ∀ k pc, [12, 44, 132][k]? = some pc → rx_OK (zV b e D A X) mX3_write 406 pc (j k)) : rx_OK (zV b e D A X) mX3_write 406 144 (vX3_write_144 j) := by
  unfold vX3_write_144
  refine s_aload_n hZ.1 dX3_write_144 rfl ?_
  refine yg3_2 dX3_write_145 zw723 ?_
  refine yg10_14 dX3_write_148 zw859 ?_
  refine s_iload hZ.1 dX3_write_151 ?_
  refine s_aald (tt := 5) rfl rfl dX3_write_153 ?_
  refine s_astore hZ.1 dX3_write_154 (Nat.le_of_ble_eq_true rfl) ?_
  refine s_aload hZ.1 dX3_write_156 ?_
  refine yg7_5 dX3_write_158 zw989 ?_
  exact s_if_eq dX3_write_161 (by decide) (wX3_write_182 hZ j hj) (wX3_write_164 hZ j hj)
noncomputable def vX3_write_132 (j : Nat → rx_K) : rx_K := o_ld rx_isI 4 (o_ld rx_isR 0 (o_getf 3 2 (o_getf 10 15 (o_c2 rx_lt (vX3_write_144 j) (vX3_write_211 j)))))
set_option maxRecDepth 20000 in
theorem wX3_write_132 (hZ : zO b e D A X) (j : Nat → rx_K) (hj : ∀ k pc, [12, 44, 132][k]? = some pc → rx_OK (zV b e D A X) mX3_write 406 pc (j k)) : rx_OK (zV b e D A X) mX3_write 406 132 (vX3_write_132 j) := by
  unfold vX3_write_132
  refine s_iload hZ.1 dX3_write_132 ?_
  refine s_aload_n hZ.1 dX3_write_134 rfl ?_
  refine yg3_2 dX3_write_135 zw723 ?_
  refine yg10_15 dX3_write_138 zw867 ?_
  exact s_icmp_ge dX3_write_141 (by decide) (wX3_write_211 hZ j hj) (wX3_write_144 hZ j hj)
noncomputable def vX3_write_129 (j : Nat → rx_K) : rx_K := o_const 0 (o_st rx_isI 4 ((vX3_write_132 j)))
set_option maxRecDepth 20000 in
theorem wX3_write_129 (hZ : zO b e D A X) (j : Nat → rx_K) (hj : ∀ k pc, [12, 44, 132][k]? = some pc → rx_OK (zV b e D A X) mX3_write 406 pc (j k)) : rx_OK (zV b e D A X) mX3_write 406 129 (vX3_write_129 j) := by
  unfold vX3_write_129
  refine s_iconst dX3_write_129 (by decide +kernel) ?_
  refine s_istore hZ.1 dX3_write_130 (Nat.le_of_ble_eq_true rfl) ?_
  exact (wX3_write_132 hZ j hj)
noncomputable def vX3_write_123 (j : Nat → rx_K) : rx_K := o_inc 4 (1) ((j 1))
set_option maxRecDepth 20000 in
theorem wX3_write_123 (hZ : zO b e D A X) (j : Nat → rx_K) (hj : ∀ k pc, [12, 44, 132][k]? = some pc → rx_OK (zV b e D A X) mX3_write 406 pc (j k)) : rx_OK (zV b e D A X) mX3_write 406 123 (vX3_write_123 j) := by
  unfold vX3_write_123
  refine s_iinc hZ.1 dX3_write_123 (Nat.le_of_ble_eq_true rfl) ?_
  exact s_goto dX3_write_126 (by decide) (hj 1 44 rfl)
noncomputable def vX3_write_117 (j : Nat → rx_K) : rx_K := o_ld rx_isR 0 (o_ld rx_isR 5 (o_callV 1 3 FX3_body ((vX3_write_123 j))))
set_option maxRecDepth 20000 in
theorem wX3_write_117 (hZ : zO b e D A X) (j : Nat → rx_K) (hj : ∀ k pc, [12, 44, 132][k]? = some pc → rx_OK (zV b e D A X) mX3_write 406 pc (j k)) : rx_OK (zV b e D A X) mX3_write 406 117 (vX3_write_117 j) := by
  unfold vX3_write_117
  refine s_aload_n hZ.1 dX3_write_117 rfl ?_
  refine s_aload hZ.1 dX3_write_118 ?_
  refine s_callV hZ.1 (Met_X3_body hZ) (Nat.le_of_ble_eq_true rfl) vy_X3_body zcl3 zw2319 zw108 (Or.inl zw2317) dX3_write_120 ?_
  exact (wX3_write_123 hZ j hj)
noncomputable def vX3_write_109 (j : Nat → rx_K) : rx_K := o_ld rx_isR 5 (o_getf 7 6 (o_c1 rx_eq (vX3_write_123 j) (vX3_write_117 j)))
set_option maxRecDepth 20000 in
theorem wX3_write_109 (hZ : zO b e D A X) (j : Nat → rx_K) (hj : ∀ k pc, [12, 44, 132][k]? = some pc → rx_OK (zV b e D A X) mX3_write 406 pc (j k)) : rx_OK (zV b e D A X) mX3_write 406 109 (vX3_write_109 j) := by
  unfold vX3_write_109
  refine s_aload hZ.1 dX3_write_109 ?_
  refine yg7_6 dX3_write_111 zw996 ?_
  exact s_if_eq dX3_write_114 (by decide) (wX3_write_123 hZ j hj) (wX3_write_117 hZ j hj)
noncomputable def vX3_write_100 (j : Nat → rx_K) : rx_K := o_ld rx_isR 0 (o_ld rx_isR 5 (o_callV 1 3 FX3_maker ((vX3_write_123 j))))
set_option maxRecDepth 20000 in
theorem wX3_write_100 (hZ : zO b e D A X) (j : Nat → rx_K) (hj : ∀ k pc, [12, 44, 132][k]? = some pc → rx_OK (zV b e D A X) mX3_write 406 pc (j k)) : rx_OK (zV b e D A X) mX3_write 406 100 (vX3_write_100 j) := by
  unfold vX3_write_100
  refine s_aload_n hZ.1 dX3_write_100 rfl ?_
  refine s_aload hZ.1 dX3_write_101 ?_
  refine s_callV hZ.1 (Met_X3_maker hZ) (Nat.le_of_ble_eq_true rfl) vy_X3_maker zcl3 zw2292 zw102 (Or.inl zw2290) dX3_write_103 ?_
  exact s_goto dX3_write_106 (by decide) (wX3_write_123 hZ j hj)
noncomputable def vX3_write_91 (j : Nat → rx_K) : rx_K := o_ld rx_isR 5 (o_getf 7 0 (o_const 16 (o_c2 rx_eq (vX3_write_100 j) (vX3_write_109 j))))
set_option maxRecDepth 20000 in
theorem wX3_write_91 (hZ : zO b e D A X) (j : Nat → rx_K) (hj : ∀ k pc, [12, 44, 132][k]? = some pc → rx_OK (zV b e D A X) mX3_write 406 pc (j k)) : rx_OK (zV b e D A X) mX3_write 406 91 (vX3_write_91 j) := by
  unfold vX3_write_91
  refine s_aload hZ.1 dX3_write_91 ?_
  refine yg7_0 dX3_write_93 zw944 ?_
  refine s_iconst dX3_write_96 (by decide +kernel) ?_
  exact s_icmp_ne dX3_write_97 (by decide) (wX3_write_109 hZ j hj) (wX3_write_100 hZ j hj)
noncomputable def vX3_write_82 (j : Nat → rx_K) : rx_K := o_ld rx_isR 0 (o_ld rx_isR 5 (o_callV 1 3 FX3_field ((vX3_write_123 j))))
set_option maxRecDepth 20000 in
theorem wX3_write_82 (hZ : zO b e D A X) (j : Nat → rx_K) (hj : ∀ k pc, [12, 44, 132][k]? = some pc → rx_OK (zV b e D A X) mX3_write 406 pc (j k)) : rx_OK (zV b e D A X) mX3_write 406 82 (vX3_write_82 j) := by
  unfold vX3_write_82
  refine s_aload_n hZ.1 dX3_write_82 rfl ?_
  refine s_aload hZ.1 dX3_write_83 ?_
  refine s_callV hZ.1 (Met_X3_field hZ) (Nat.le_of_ble_eq_true rfl) vy_X3_field zcl3 zw2247 zw93 (Or.inl zw2245) dX3_write_85 ?_
  exact s_goto dX3_write_88 (by decide) (wX3_write_123 hZ j hj)
noncomputable def vX3_write_56 (j : Nat → rx_K) : rx_K := o_ld rx_isR 0 (o_getf 3 2 (o_getf 10 12 (o_ld rx_isI 4 (o_ald 5 (o_st rx_isR 5 (o_ld rx_isR 0 (o_ld rx_isR 5 (o_putf rx_isR 3 4 (o_ld rx_isR 5 (o_getf 7 0 (o_c1 rx_eq (vX3_write_82 j) (vX3_write_91 j))))))))))))
set_option maxRecDepth 20000 in
theorem wX3_write_56 (hZ : zO b e D A X) (j : Nat → rx_K) (hj : ∀ k pc, [12, 44, 132][k]? = some pc → rx_OK (zV b e D A X) mX3_write 406 pc (j k)) : rx_OK (zV b e D A X) mX3_write 406 56 (vX3_write_56 j) := by
  unfold vX3_write_56
  refine s_aload_n hZ.1 dX3_write_56 rfl ?_
  refine yg3_2 dX3_write_57 zw723 ?_
  refine yg10_12 dX3_write_60 zw847 ?_
  refine s_iload hZ.1 dX3_write_63 ?_
  refine s_aald (tt := 5) rfl rfl dX3_write_65 ?_
  refine s_astore hZ.1 dX3_write_66 (Nat.le_of_ble_eq_true rfl) ?_
  refine s_aload_n hZ.1 dX3_write_68 rfl ?_
  refine s_aload hZ.1 dX3_write_69 ?_
  refine yp3_4 hZ.1 dX3_write_71 zw725 ?_
  refine s_aload hZ.1 dX3_write_74 ?_
  refine yg7_0 dX3_write_76 zw944 ?_
  exact s_if_ne dX3_write_79 (by decide) (wX3_write_91 hZ j hj) (wX3_write_82 hZ j hj)
noncomputable def vX3_write_44 (j : Nat → rx_K) : rx_K := o_ld rx_isI 4 (o_ld rx_isR 0 (o_getf 3 2 (o_getf 10 13 (o_c2 rx_lt (vX3_write_56 j) (vX3_write_129 j)))))
set_option maxRecDepth 20000 in
theorem wX3_write_44 (hZ : zO b e D A X) (j : Nat → rx_K) (hj : ∀ k pc, [12, 44, 132][k]? = some pc → rx_OK (zV b e D A X) mX3_write 406 pc (j k)) : rx_OK (zV b e D A X) mX3_write 406 44 (vX3_write_44 j) := by
  unfold vX3_write_44
  refine s_iload hZ.1 dX3_write_44 ?_
  refine s_aload_n hZ.1 dX3_write_46 rfl ?_
  refine yg3_2 dX3_write_47 zw723 ?_
  refine yg10_13 dX3_write_50 zw852 ?_
  exact s_icmp_ge dX3_write_53 (by decide) (wX3_write_129 hZ j hj) (wX3_write_56 hZ j hj)
noncomputable def vX3_write_23 (j : Nat → rx_K) : rx_K := o_ld rx_isR 0 (o_ld rx_isI 3 (o_putf rx_isI 3 3 (o_ld rx_isR 0 (o_ld rx_isR 0 (o_getf 3 1 (o_getf 1 2 (o_ld rx_isI 3 (o_ald 4 (o_callV 1 3 FX3_openRow (o_const 0 (o_st rx_isI 4 ((vX3_write_44 j)))))))))))))
set_option maxRecDepth 20000 in
theorem wX3_write_23 (hZ : zO b e D A X) (j : Nat → rx_K) (hj : ∀ k pc, [12, 44, 132][k]? = some pc → rx_OK (zV b e D A X) mX3_write 406 pc (j k)) : rx_OK (zV b e D A X) mX3_write 406 23 (vX3_write_23 j) := by
  unfold vX3_write_23
  refine s_aload_n hZ.1 dX3_write_23 rfl ?_
  refine s_iload_n hZ.1 dX3_write_24 rfl ?_
  refine yp3_3 hZ.1 dX3_write_25 zw724 ?_
  refine s_aload_n hZ.1 dX3_write_28 rfl ?_
  refine s_aload_n hZ.1 dX3_write_29 rfl ?_
  refine yg3_1 dX3_write_30 zw722 ?_
  refine yg1_2 dX3_write_33 zw1114 ?_
  refine s_iload_n hZ.1 dX3_write_36 rfl ?_
  refine s_aald (tt := 4) rfl rfl dX3_write_37 ?_
  refine s_callV hZ.1 (Met_X3_openRow hZ) (Nat.le_of_ble_eq_true rfl) vy_X3_openRow zcl3 zw2225 zw91 (Or.inl zw2223) dX3_write_38 ?_
  refine s_iconst dX3_write_41 (by decide +kernel) ?_
  refine s_istore hZ.1 dX3_write_42 (Nat.le_of_ble_eq_true rfl) ?_
  exact (wX3_write_44 hZ j hj)
noncomputable def vX3_write_12 (j : Nat → rx_K) : rx_K := o_ld rx_isI 3 (o_ld rx_isR 0 (o_getf 3 1 (o_getf 1 3 (o_c2 rx_lt (vX3_write_23 j) (vX3_write_221 j)))))
set_option maxRecDepth 20000 in
theorem wX3_write_12 (hZ : zO b e D A X) (j : Nat → rx_K) (hj : ∀ k pc, [12, 44, 132][k]? = some pc → rx_OK (zV b e D A X) mX3_write 406 pc (j k)) : rx_OK (zV b e D A X) mX3_write 406 12 (vX3_write_12 j) := by
  unfold vX3_write_12
  refine s_iload_n hZ.1 dX3_write_12 rfl ?_
  refine s_aload_n hZ.1 dX3_write_13 rfl ?_
  refine yg3_1 dX3_write_14 zw722 ?_
  refine yg1_3 dX3_write_17 zw1121 ?_
  exact s_icmp_ge dX3_write_20 (by decide) (wX3_write_221 hZ j hj) (wX3_write_23 hZ j hj)
noncomputable def vX3_write_0 (j : Nat → rx_K) : rx_K := o_ld rx_isR 0 (o_ld rx_isR 1 (o_putf rx_isR 3 0 (o_ld rx_isR 0 (o_ld rx_isR 2 (o_putf rx_isR 3 1 (o_const 0 (o_st rx_isI 3 ((vX3_write_12 j)))))))))
set_option maxRecDepth 20000 in
theorem wX3_write_0 (hZ : zO b e D A X) (j : Nat → rx_K) (hj : ∀ k pc, [12, 44, 132][k]? = some pc → rx_OK (zV b e D A X) mX3_write 406 pc (j k)) : rx_OK (zV b e D A X) mX3_write 406 0 (vX3_write_0 j) := by
  unfold vX3_write_0
  refine s_aload_n hZ.1 dX3_write_0 rfl ?_
  refine s_aload_n hZ.1 dX3_write_1 rfl ?_
  refine yp3_0 hZ.1 dX3_write_2 zw721 ?_
  refine s_aload_n hZ.1 dX3_write_5 rfl ?_
  refine s_aload_n hZ.1 dX3_write_6 rfl ?_
  refine yp3_1 hZ.1 dX3_write_7 zw722 ?_
  refine s_iconst dX3_write_10 (by decide +kernel) ?_
  refine s_istore_n hZ.1 dX3_write_11 rfl (Nat.le_of_ble_eq_true rfl) ?_
  exact (wX3_write_12 hZ j hj)
noncomputable def vhX3_write (j : Nat → rx_K) : List rx_K := [vX3_write_12 j, vX3_write_44 j, vX3_write_132 j]
theorem vlX3_write (hZ : zO b e D A X) : ∀ n k pc, [12, 44, 132][k]? = some pc → rx_OK (zV b e D A X) mX3_write 406 pc (rx_J (vhX3_write) n k) := rx_loop fun j hj k pc h => by
  match k, h with
  | 0, h =>
    have e9 := Option.some.inj (show some 12 = some pc from h)
    subst e9
    exact wX3_write_12 hZ j hj
  | 1, h =>
    have e9 := Option.some.inj (show some 44 = some pc from h)
    subst e9
    exact wX3_write_44 hZ j hj
  | 2, h =>
    have e9 := Option.some.inj (show some 132 = some pc from h)
    subst e9
    exact wX3_write_132 hZ j hj
  | _ + 3, h => exact absurd h (by simp)
noncomputable def FX3_write : List Nat → rx_H → Option (Nat × rx_H) := rx_ent 6 (vX3_write_0 (rx_J (vhX3_write) 4000000000))
theorem Met_X3_write (hZ : zO b e D A X) : rx_Met (zV b e D A X) 406 yX3_write mX3_write (FX3_write) := rx_entry hZ.1 (wX3_write_0 hZ _ (vlX3_write hZ 4000000000)) (by decide +kernel) rfl (fun h => by cases h)
abbrev mX10_add : rx_M := (RX10, cX10_add, 2, none, false)
theorem vy_X10_add : rx_Y (zV b e D A X) yX10_add mX10_add 1 := ⟨zw1246, zw425, by decide, by decide +kernel, by decide +kernel, by decide +kernel⟩
noncomputable def vX10_add_32 : rx_K := o_ret0
set_option maxRecDepth 20000 in
theorem wX10_add_32 (hZ : zO b e D A X) : rx_OK (zV b e D A X) mX10_add 0 32 vX10_add_32 := by
  unfold vX10_add_32
  exact s_vret rfl dX10_add_32
noncomputable def vX10_add_12 : rx_K := o_ld rx_isR 0 (o_getf 10 14 (o_ld rx_isR 0 (o_getf 10 15 (o_ld rx_isR 1 (o_aast 5 [7] (o_ld rx_isR 0 (o_dup (o_getf 10 15 (o_const 8 (o_bi (fun x y => x + y) (o_putf rx_isI 10 15 (vX10_add_32))))))))))))
set_option maxRecDepth 20000 in
theorem wX10_add_12 (hZ : zO b e D A X) : rx_OK (zV b e D A X) mX10_add 0 12 vX10_add_12 := by
  unfold vX10_add_12
  refine s_aload_n hZ.1 dX10_add_12 rfl ?_
  refine yg10_14 dX10_add_13 zw858 ?_
  refine s_aload_n hZ.1 dX10_add_16 rfl ?_
  refine yg10_15 dX10_add_17 zw866 ?_
  refine s_aload_n hZ.1 dX10_add_20 rfl ?_
  refine s_aast (tt := 5) rfl zaa7 dX10_add_21 ?_
  refine s_aload_n hZ.1 dX10_add_22 rfl ?_
  refine s_dup hZ.1 dX10_add_23 ?_
  refine yg10_15 dX10_add_24 zw866 ?_
  refine s_iconst dX10_add_27 (by decide +kernel) ?_
  refine s_iadd dX10_add_28 ?_
  refine yp10_15 hZ.1 dX10_add_29 zw866 ?_
  exact (wX10_add_32 hZ)
noncomputable def vX10_add_0 : rx_K := o_ld rx_isR 0 (o_getf 10 15 (o_ld rx_isR 0 (o_getf 10 14 (o_alen 5 (o_c2 rx_lt vX10_add_12 vX10_add_32)))))
set_option maxRecDepth 20000 in
theorem wX10_add_0 (hZ : zO b e D A X) : rx_OK (zV b e D A X) mX10_add 0 0 vX10_add_0 := by
  unfold vX10_add_0
  refine s_aload_n hZ.1 dX10_add_0 rfl ?_
  refine yg10_15 dX10_add_1 zw866 ?_
  refine s_aload_n hZ.1 dX10_add_4 rfl ?_
  refine yg10_14 dX10_add_5 zw858 ?_
  refine s_alen (tt := 5) rfl dX10_add_8 ?_
  exact s_icmp_ge dX10_add_9 (by decide) (wX10_add_32 hZ) (wX10_add_12 hZ)
noncomputable def FX10_add : List Nat → rx_H → Option (Nat × rx_H) := rx_ent 2 vX10_add_0
theorem Met_X10_add (hZ : zO b e D A X) : rx_Met (zV b e D A X) 0 yX10_add mX10_add (FX10_add) := rx_entry hZ.1 (wX10_add_0 hZ) (by decide +kernel) rfl (fun h => by cases h)
abbrev mX10_addItem : rx_M := (RX10, cX10_addItem, 2, none, false)
theorem vy_X10_addItem : rx_Y (zV b e D A X) yX10_addItem mX10_addItem 1 := ⟨zw1789, zw425, by decide, by decide +kernel, by decide +kernel, by decide +kernel⟩
noncomputable def vX10_addItem_32 : rx_K := o_ret0
set_option maxRecDepth 20000 in
theorem wX10_addItem_32 (hZ : zO b e D A X) : rx_OK (zV b e D A X) mX10_addItem 0 32 vX10_addItem_32 := by
  unfold vX10_addItem_32
  exact s_vret rfl dX10_addItem_32
noncomputable def vX10_addItem_12 : rx_K := o_ld rx_isR 0 (o_getf 10 12 (o_ld rx_isR 0 (o_getf 10 13 (o_ld rx_isR 1 (o_aast 5 [7] (o_ld rx_isR 0 (o_dup (o_getf 10 13 (o_const 8 (o_bi (fun x y => x + y) (o_putf rx_isI 10 13 (vX10_addItem_32))))))))))))
set_option maxRecDepth 20000 in
theorem wX10_addItem_12 (hZ : zO b e D A X) : rx_OK (zV b e D A X) mX10_addItem 0 12 vX10_addItem_12 := by
  unfold vX10_addItem_12
  refine s_aload_n hZ.1 dX10_addItem_12 rfl ?_
  refine yg10_12 dX10_addItem_13 zw846 ?_
  refine s_aload_n hZ.1 dX10_addItem_16 rfl ?_
  refine yg10_13 dX10_addItem_17 zw853 ?_
  refine s_aload_n hZ.1 dX10_addItem_20 rfl ?_
  refine s_aast (tt := 5) rfl zaa7 dX10_addItem_21 ?_
  refine s_aload_n hZ.1 dX10_addItem_22 rfl ?_
  refine s_dup hZ.1 dX10_addItem_23 ?_
  refine yg10_13 dX10_addItem_24 zw853 ?_
  refine s_iconst dX10_addItem_27 (by decide +kernel) ?_
  refine s_iadd dX10_addItem_28 ?_
  refine yp10_13 hZ.1 dX10_addItem_29 zw853 ?_
  exact (wX10_addItem_32 hZ)
noncomputable def vX10_addItem_0 : rx_K := o_ld rx_isR 0 (o_getf 10 13 (o_ld rx_isR 0 (o_getf 10 12 (o_alen 5 (o_c2 rx_lt vX10_addItem_12 vX10_addItem_32)))))
set_option maxRecDepth 20000 in
theorem wX10_addItem_0 (hZ : zO b e D A X) : rx_OK (zV b e D A X) mX10_addItem 0 0 vX10_addItem_0 := by
  unfold vX10_addItem_0
  refine s_aload_n hZ.1 dX10_addItem_0 rfl ?_
  refine yg10_13 dX10_addItem_1 zw853 ?_
  refine s_aload_n hZ.1 dX10_addItem_4 rfl ?_
  refine yg10_12 dX10_addItem_5 zw846 ?_
  refine s_alen (tt := 5) rfl dX10_addItem_8 ?_
  exact s_icmp_ge dX10_addItem_9 (by decide) (wX10_addItem_32 hZ) (wX10_addItem_12 hZ)
noncomputable def FX10_addItem : List Nat → rx_H → Option (Nat × rx_H) := rx_ent 2 vX10_addItem_0
theorem Met_X10_addItem (hZ : zO b e D A X) : rx_Met (zV b e D A X) 0 yX10_addItem mX10_addItem (FX10_addItem) := rx_entry hZ.1 (wX10_addItem_0 hZ) (by decide +kernel) rfl (fun h => by cases h)
abbrev mX3_copyRow : rx_M := (RX3, cX3_copyRow, 8, none, false)
theorem vy_X3_copyRow : rx_Y (zV b e D A X) yX3_copyRow mX3_copyRow 3 := ⟨zw2698, zw422, by decide, by decide +kernel, by decide +kernel, by decide +kernel⟩
noncomputable def vX3_copyRow_392 (j : Nat → rx_K) : rx_K := o_ld rx_isR 5 (o_ld rx_isR 1 (o_getf 1 15 (o_ld rx_isR 5 (o_getf 10 16 (o_bi (fun x y => x - y) (o_putf rx_isI 10 17 (o_ret0)))))))
set_option maxRecDepth 20000 in
theorem wX3_copyRow_392 (hZ : zO b e D A X) (j : Nat → rx_K) (hj : ∀ k pc, [171, 203, 278][k]? = some pc → rx_OK (zV b e D A X) mX3_copyRow 3 pc (j k)) : rx_OK (zV b e D A X) mX3_copyRow 3 392 (vX3_copyRow_392 j) := by
  unfold vX3_copyRow_392
  refine s_aload hZ.1 dX3_copyRow_392 ?_
  refine s_aload_n hZ.1 dX3_copyRow_394 rfl ?_
  refine yg1_15 dX3_copyRow_395 zw1165 ?_
  refine s_aload hZ.1 dX3_copyRow_398 ?_
  refine yg10_16 dX3_copyRow_400 zw875 ?_
  refine s_isub dX3_copyRow_403 ?_
  refine yp10_17 hZ.1 dX3_copyRow_404 zw881 ?_
  exact s_vret rfl dX3_copyRow_407
noncomputable def vX3_copyRow_348 (j : Nat → rx_K) : rx_K := o_ld rx_isR 1 (o_getf 1 13 (o_ld rx_isI 7 (o_ld rx_isR 2 (o_getf 1 13 (o_ld rx_isI 6 (o_ald 5 (o_aast 5 [7] (o_ld rx_isR 1 (o_getf 1 14 (o_ld rx_isI 7 (o_ld rx_isR 2 (o_getf 1 14 (o_ld rx_isI 6 (o_ald 1 (o_ast 1 (fun v => v) rx_isL (o_ld rx_isR 1 (o_dup (o_getf 1 15 (o_const 8 (o_bi (fun x y => x + y) (o_putf rx_isI 1 15 (o_inc 6 (1) ((j 2))))))))))))))))))))))))
set_option maxRecDepth 20000 in
theorem wX3_copyRow_348 (hZ : zO b e D A X) (j : Nat → rx_K) (hj : ∀ k pc, [171, 203, 278][k]? = some pc → rx_OK (zV b e D A X) mX3_copyRow 3 pc (j k)) : rx_OK (zV b e D A X) mX3_copyRow 3 348 (vX3_copyRow_348 j) := by
  unfold vX3_copyRow_348
  refine s_aload_n hZ.1 dX3_copyRow_348 rfl ?_
  refine yg1_13 dX3_copyRow_349 zw1157 ?_
  refine s_iload hZ.1 dX3_copyRow_352 ?_
  refine s_aload_n hZ.1 dX3_copyRow_354 rfl ?_
  refine yg1_13 dX3_copyRow_355 zw1157 ?_
  refine s_iload hZ.1 dX3_copyRow_358 ?_
  refine s_aald (tt := 5) rfl rfl dX3_copyRow_360 ?_
  refine s_aast (tt := 5) rfl zaa7 dX3_copyRow_361 ?_
  refine s_aload_n hZ.1 dX3_copyRow_362 rfl ?_
  refine yg1_14 dX3_copyRow_363 zw1161 ?_
  refine s_iload hZ.1 dX3_copyRow_366 ?_
  refine s_aload_n hZ.1 dX3_copyRow_368 rfl ?_
  refine yg1_14 dX3_copyRow_369 zw1161 ?_
  refine s_iload hZ.1 dX3_copyRow_372 ?_
  refine s_lald (tt := 1) rfl dX3_copyRow_374 ?_
  refine s_last (tt := 1) rfl dX3_copyRow_375 ?_
  refine s_aload_n hZ.1 dX3_copyRow_376 rfl ?_
  refine s_dup hZ.1 dX3_copyRow_377 ?_
  refine yg1_15 dX3_copyRow_378 zw1165 ?_
  refine s_iconst dX3_copyRow_381 (by decide +kernel) ?_
  refine s_iadd dX3_copyRow_382 ?_
  refine yp1_15 hZ.1 dX3_copyRow_383 zw1165 ?_
  refine s_iinc hZ.1 dX3_copyRow_386 (Nat.le_of_ble_eq_true rfl) ?_
  exact s_goto dX3_copyRow_389 (by decide) (hj 2 278 rfl)
noncomputable def vX3_copyRow_306 (j : Nat → rx_K) : rx_K := o_ld rx_isR 1 (o_getf 1 15 (o_st rx_isI 7 (o_ld rx_isR 1 (o_getf 1 10 (o_ld rx_isI 7 (o_ld rx_isR 2 (o_getf 1 10 (o_ld rx_isI 6 (o_ald 0 (o_ast 0 (fun v => v) rx_isI (o_ld rx_isR 1 (o_getf 1 11 (o_ld rx_isI 7 (o_ld rx_isI 3 (o_ast 0 (fun v => v) rx_isI (o_ld rx_isR 1 (o_getf 1 12 (o_ld rx_isI 7 (o_ld rx_isR 2 (o_getf 1 12 (o_ld rx_isI 6 (o_ald 1 (o_ast 1 (fun v => v) rx_isL ((vX3_copyRow_348 j)))))))))))))))))))))))))
set_option maxRecDepth 20000 in
theorem wX3_copyRow_306 (hZ : zO b e D A X) (j : Nat → rx_K) (hj : ∀ k pc, [171, 203, 278][k]? = some pc → rx_OK (zV b e D A X) mX3_copyRow 3 pc (j k)) : rx_OK (zV b e D A X) mX3_copyRow 3 306 (vX3_copyRow_306 j) := by
  unfold vX3_copyRow_306
  refine s_aload_n hZ.1 dX3_copyRow_306 rfl ?_
  refine yg1_15 dX3_copyRow_307 zw1165 ?_
  refine s_istore hZ.1 dX3_copyRow_310 (Nat.le_of_ble_eq_true rfl) ?_
  refine s_aload_n hZ.1 dX3_copyRow_312 rfl ?_
  refine yg1_10 dX3_copyRow_313 zw1145 ?_
  refine s_iload hZ.1 dX3_copyRow_316 ?_
  refine s_aload_n hZ.1 dX3_copyRow_318 rfl ?_
  refine yg1_10 dX3_copyRow_319 zw1145 ?_
  refine s_iload hZ.1 dX3_copyRow_322 ?_
  refine s_iald (tt := 0) rfl dX3_copyRow_324 ?_
  refine s_iast hZ.1 (tt := 0) rfl dX3_copyRow_325 ?_
  refine s_aload_n hZ.1 dX3_copyRow_326 rfl ?_
  refine yg1_11 dX3_copyRow_327 zw1150 ?_
  refine s_iload hZ.1 dX3_copyRow_330 ?_
  refine s_iload_n hZ.1 dX3_copyRow_332 rfl ?_
  refine s_iast hZ.1 (tt := 0) rfl dX3_copyRow_333 ?_
  refine s_aload_n hZ.1 dX3_copyRow_334 rfl ?_
  refine yg1_12 dX3_copyRow_335 zw1153 ?_
  refine s_iload hZ.1 dX3_copyRow_338 ?_
  refine s_aload_n hZ.1 dX3_copyRow_340 rfl ?_
  refine yg1_12 dX3_copyRow_341 zw1153 ?_
  refine s_iload hZ.1 dX3_copyRow_344 ?_
  refine s_lald (tt := 1) rfl dX3_copyRow_346 ?_
  refine s_last (tt := 1) rfl dX3_copyRow_347 ?_
  exact (wX3_copyRow_348 hZ j hj)
noncomputable def vX3_copyRow_294 (j : Nat → rx_K) : rx_K := o_ld rx_isR 1 (o_getf 1 15 (o_ld rx_isR 1 (o_getf 1 10 (o_alen 0 (o_c2 rx_lt (vX3_copyRow_306 j) (vX3_copyRow_392 j))))))
set_option maxRecDepth 20000 in
theorem wX3_copyRow_294 (hZ : zO b e D A X) (j : Nat → rx_K) (hj : ∀ k pc, [171, 203, 278][k]? = some pc → rx_OK (zV b e D A X) mX3_copyRow 3 pc (j k)) : rx_OK (zV b e D A X) mX3_copyRow 3 294 (vX3_copyRow_294 j) := by
  unfold vX3_copyRow_294
  refine s_aload_n hZ.1 dX3_copyRow_294 rfl ?_
  refine yg1_15 dX3_copyRow_295 zw1165 ?_
  refine s_aload_n hZ.1 dX3_copyRow_298 rfl ?_
  refine yg1_10 dX3_copyRow_299 zw1145 ?_
  refine s_alen (tt := 0) rfl dX3_copyRow_302 ?_
  exact s_icmp_ge dX3_copyRow_303 (by decide) (wX3_copyRow_392 hZ j hj) (wX3_copyRow_306 hZ j hj)
noncomputable def vX3_copyRow_278 (j : Nat → rx_K) : rx_K := o_ld rx_isI 6 (o_ld rx_isR 4 (o_getf 10 16 (o_ld rx_isR 4 (o_getf 10 17 (o_bi (fun x y => x + y) (o_c2 rx_lt (vX3_copyRow_294 j) (vX3_copyRow_392 j)))))))
set_option maxRecDepth 20000 in
theorem wX3_copyRow_278 (hZ : zO b e D A X) (j : Nat → rx_K) (hj : ∀ k pc, [171, 203, 278][k]? = some pc → rx_OK (zV b e D A X) mX3_copyRow 3 pc (j k)) : rx_OK (zV b e D A X) mX3_copyRow 3 278 (vX3_copyRow_278 j) := by
  unfold vX3_copyRow_278
  refine s_iload hZ.1 dX3_copyRow_278 ?_
  refine s_aload hZ.1 dX3_copyRow_280 ?_
  refine yg10_16 dX3_copyRow_282 zw875 ?_
  refine s_aload hZ.1 dX3_copyRow_285 ?_
  refine yg10_17 dX3_copyRow_287 zw881 ?_
  refine s_iadd dX3_copyRow_290 ?_
  exact s_icmp_ge dX3_copyRow_291 (by decide) (wX3_copyRow_392 hZ j hj) (wX3_copyRow_294 hZ j hj)
noncomputable def vX3_copyRow_232 (j : Nat → rx_K) : rx_K := o_ld rx_isR 5 (o_ld rx_isR 4 (o_getf 10 18 (o_putf rx_isR 10 18 (o_ld rx_isR 5 (o_ld rx_isR 4 (o_getf 10 19 (o_putf rx_isI 10 19 (o_ld rx_isR 5 (o_ld rx_isR 4 (o_getf 10 20 (o_putf rx_isI 10 20 (o_ld rx_isR 5 (o_ld rx_isR 1 (o_getf 1 15 (o_putf rx_isI 10 16 (o_ld rx_isR 4 (o_getf 10 16 (o_st rx_isI 6 ((vX3_copyRow_278 j))))))))))))))))))))
set_option maxRecDepth 20000 in
theorem wX3_copyRow_232 (hZ : zO b e D A X) (j : Nat → rx_K) (hj : ∀ k pc, [171, 203, 278][k]? = some pc → rx_OK (zV b e D A X) mX3_copyRow 3 pc (j k)) : rx_OK (zV b e D A X) mX3_copyRow 3 232 (vX3_copyRow_232 j) := by
  unfold vX3_copyRow_232
  refine s_aload hZ.1 dX3_copyRow_232 ?_
  refine s_aload hZ.1 dX3_copyRow_234 ?_
  refine yg10_18 dX3_copyRow_236 zw884 ?_
  refine yp10_18 hZ.1 dX3_copyRow_239 zw884 ?_
  refine s_aload hZ.1 dX3_copyRow_242 ?_
  refine s_aload hZ.1 dX3_copyRow_244 ?_
  refine yg10_19 dX3_copyRow_246 zw887 ?_
  refine yp10_19 hZ.1 dX3_copyRow_249 zw887 ?_
  refine s_aload hZ.1 dX3_copyRow_252 ?_
  refine s_aload hZ.1 dX3_copyRow_254 ?_
  refine yg10_20 dX3_copyRow_256 zw891 ?_
  refine yp10_20 hZ.1 dX3_copyRow_259 zw891 ?_
  refine s_aload hZ.1 dX3_copyRow_262 ?_
  refine s_aload_n hZ.1 dX3_copyRow_264 rfl ?_
  refine yg1_15 dX3_copyRow_265 zw1165 ?_
  refine yp10_16 hZ.1 dX3_copyRow_268 zw875 ?_
  refine s_aload hZ.1 dX3_copyRow_271 ?_
  refine yg10_16 dX3_copyRow_273 zw875 ?_
  refine s_istore hZ.1 dX3_copyRow_276 (Nat.le_of_ble_eq_true rfl) ?_
  exact (wX3_copyRow_278 hZ j hj)
noncomputable def vX3_copyRow_213 (j : Nat → rx_K) : rx_K := o_ld rx_isR 5 (o_ld rx_isR 4 (o_getf 10 14 (o_ld rx_isI 6 (o_ald 5 (o_callV 1 10 FX10_add (o_inc 6 (1) ((j 1))))))))
set_option maxRecDepth 20000 in
theorem wX3_copyRow_213 (hZ : zO b e D A X) (j : Nat → rx_K) (hj : ∀ k pc, [171, 203, 278][k]? = some pc → rx_OK (zV b e D A X) mX3_copyRow 3 pc (j k)) : rx_OK (zV b e D A X) mX3_copyRow 3 213 (vX3_copyRow_213 j) := by
  unfold vX3_copyRow_213
  refine s_aload hZ.1 dX3_copyRow_213 ?_
  refine s_aload hZ.1 dX3_copyRow_215 ?_
  refine yg10_14 dX3_copyRow_217 zw859 ?_
  refine s_iload hZ.1 dX3_copyRow_220 ?_
  refine s_aald (tt := 5) rfl rfl dX3_copyRow_222 ?_
  refine s_callV hZ.1 (Met_X10_add hZ) (Nat.le_of_ble_eq_true rfl) vy_X10_add zcl10 zw1244 zw1245 (Or.inl zw2702) dX3_copyRow_223 ?_
  refine s_iinc hZ.1 dX3_copyRow_226 (Nat.le_of_ble_eq_true rfl) ?_
  exact s_goto dX3_copyRow_229 (by decide) (hj 1 203 rfl)
noncomputable def vX3_copyRow_203 (j : Nat → rx_K) : rx_K := o_ld rx_isI 6 (o_ld rx_isR 4 (o_getf 10 15 (o_c2 rx_lt (vX3_copyRow_213 j) (vX3_copyRow_232 j))))
set_option maxRecDepth 20000 in
theorem wX3_copyRow_203 (hZ : zO b e D A X) (j : Nat → rx_K) (hj : ∀ k pc, [171, 203, 278][k]? = some pc → rx_OK (zV b e D A X) mX3_copyRow 3 pc (j k)) : rx_OK (zV b e D A X) mX3_copyRow 3 203 (vX3_copyRow_203 j) := by
  unfold vX3_copyRow_203
  refine s_iload hZ.1 dX3_copyRow_203 ?_
  refine s_aload hZ.1 dX3_copyRow_205 ?_
  refine yg10_15 dX3_copyRow_207 zw867 ?_
  exact s_icmp_ge dX3_copyRow_210 (by decide) (wX3_copyRow_232 hZ j hj) (wX3_copyRow_213 hZ j hj)
noncomputable def vX3_copyRow_200 (j : Nat → rx_K) : rx_K := o_const 0 (o_st rx_isI 6 ((vX3_copyRow_203 j)))
set_option maxRecDepth 20000 in
theorem wX3_copyRow_200 (hZ : zO b e D A X) (j : Nat → rx_K) (hj : ∀ k pc, [171, 203, 278][k]? = some pc → rx_OK (zV b e D A X) mX3_copyRow 3 pc (j k)) : rx_OK (zV b e D A X) mX3_copyRow 3 200 (vX3_copyRow_200 j) := by
  unfold vX3_copyRow_200
  refine s_iconst dX3_copyRow_200 (by decide +kernel) ?_
  refine s_istore hZ.1 dX3_copyRow_201 (Nat.le_of_ble_eq_true rfl) ?_
  exact (wX3_copyRow_203 hZ j hj)
noncomputable def vX3_copyRow_181 (j : Nat → rx_K) : rx_K := o_ld rx_isR 5 (o_ld rx_isR 4 (o_getf 10 12 (o_ld rx_isI 6 (o_ald 5 (o_callV 1 10 FX10_addItem (o_inc 6 (1) ((j 0))))))))
set_option maxRecDepth 20000 in
theorem wX3_copyRow_181 (hZ : zO b e D A X) (j : Nat → rx_K) (hj : ∀ k pc, [171, 203, 278][k]? = some pc → rx_OK (zV b e D A X) mX3_copyRow 3 pc (j k)) : rx_OK (zV b e D A X) mX3_copyRow 3 181 (vX3_copyRow_181 j) := by
  unfold vX3_copyRow_181
  refine s_aload hZ.1 dX3_copyRow_181 ?_
  refine s_aload hZ.1 dX3_copyRow_183 ?_
  refine yg10_12 dX3_copyRow_185 zw847 ?_
  refine s_iload hZ.1 dX3_copyRow_188 ?_
  refine s_aald (tt := 5) rfl rfl dX3_copyRow_190 ?_
  refine s_callV hZ.1 (Met_X10_addItem hZ) (Nat.le_of_ble_eq_true rfl) vy_X10_addItem zcl10 zw1787 zw1788 (Or.inl zw2701) dX3_copyRow_191 ?_
  refine s_iinc hZ.1 dX3_copyRow_194 (Nat.le_of_ble_eq_true rfl) ?_
  exact s_goto dX3_copyRow_197 (by decide) (hj 0 171 rfl)
noncomputable def vX3_copyRow_171 (j : Nat → rx_K) : rx_K := o_ld rx_isI 6 (o_ld rx_isR 4 (o_getf 10 13 (o_c2 rx_lt (vX3_copyRow_181 j) (vX3_copyRow_200 j))))
set_option maxRecDepth 20000 in
theorem wX3_copyRow_171 (hZ : zO b e D A X) (j : Nat → rx_K) (hj : ∀ k pc, [171, 203, 278][k]? = some pc → rx_OK (zV b e D A X) mX3_copyRow 3 pc (j k)) : rx_OK (zV b e D A X) mX3_copyRow 3 171 (vX3_copyRow_171 j) := by
  unfold vX3_copyRow_171
  refine s_iload hZ.1 dX3_copyRow_171 ?_
  refine s_aload hZ.1 dX3_copyRow_173 ?_
  refine yg10_13 dX3_copyRow_175 zw852 ?_
  exact s_icmp_ge dX3_copyRow_178 (by decide) (wX3_copyRow_200 hZ j hj) (wX3_copyRow_181 hZ j hj)
noncomputable def vX3_copyRow_132 (j : Nat → rx_K) : rx_K := o_ld rx_isR 5 (o_getf 10 10 (o_const 0 (o_ld rx_isR 4 (o_getf 10 10 (o_alen 1 (o_copy 1 rx_isL (o_ld rx_isR 4 (o_getf 10 11 (o_const 0 (o_ld rx_isR 5 (o_getf 10 11 (o_const 0 (o_ld rx_isR 4 (o_getf 10 11 (o_alen 0 (o_copy 0 rx_isI (o_const 0 (o_st rx_isI 6 ((vX3_copyRow_171 j))))))))))))))))))))
set_option maxRecDepth 20000 in
theorem wX3_copyRow_132 (hZ : zO b e D A X) (j : Nat → rx_K) (hj : ∀ k pc, [171, 203, 278][k]? = some pc → rx_OK (zV b e D A X) mX3_copyRow 3 pc (j k)) : rx_OK (zV b e D A X) mX3_copyRow 3 132 (vX3_copyRow_132 j) := by
  unfold vX3_copyRow_132
  refine s_aload hZ.1 dX3_copyRow_132 ?_
  refine yg10_10 dX3_copyRow_134 zw837 ?_
  refine s_iconst dX3_copyRow_137 (by decide +kernel) ?_
  refine s_aload hZ.1 dX3_copyRow_138 ?_
  refine yg10_10 dX3_copyRow_140 zw837 ?_
  refine s_alen (tt := 1) rfl dX3_copyRow_143 ?_
  refine s_copy hZ.1 (tt := 1) (ty := .long) rfl rfl (fun c h => Or.inr ⟨_, (rx_isL_v h).2⟩) rfl (by decide) zw2700 zw1692 zw1691 zw433 dX3_copyRow_144 ?_
  refine s_aload hZ.1 dX3_copyRow_147 ?_
  refine yg10_11 dX3_copyRow_149 zw839 ?_
  refine s_iconst dX3_copyRow_152 (by decide +kernel) ?_
  refine s_aload hZ.1 dX3_copyRow_153 ?_
  refine yg10_11 dX3_copyRow_155 zw839 ?_
  refine s_iconst dX3_copyRow_158 (by decide +kernel) ?_
  refine s_aload hZ.1 dX3_copyRow_159 ?_
  refine yg10_11 dX3_copyRow_161 zw839 ?_
  refine s_alen (tt := 0) rfl dX3_copyRow_164 ?_
  refine s_copy hZ.1 (tt := 0) (ty := .int) rfl rfl (fun c h => Or.inl (rx_isI_v hZ.1 h).2) rfl (by decide) zw2700 zw1692 zw1691 zw433 dX3_copyRow_165 ?_
  refine s_iconst dX3_copyRow_168 (by decide +kernel) ?_
  refine s_istore hZ.1 dX3_copyRow_169 (Nat.le_of_ble_eq_true rfl) ?_
  exact (wX3_copyRow_171 hZ j hj)
noncomputable def vX3_copyRow_73 (j : Nat → rx_K) : rx_K := o_putf rx_isZ 10 4 (o_ld rx_isR 5 (o_ld rx_isR 4 (o_getf 10 5 (o_putf rx_isZ 10 5 (o_ld rx_isR 5 (o_ld rx_isR 4 (o_getf 10 6 (o_putf rx_isZ 10 6 (o_ld rx_isR 5 (o_ld rx_isR 4 (o_getf 10 7 (o_putf rx_isZ 10 7 (o_ld rx_isR 5 (o_ld rx_isR 4 (o_getf 10 8 (o_putf rx_isL 10 8 (o_ld rx_isR 5 (o_ld rx_isR 4 (o_getf 10 9 (o_putf rx_isL 10 9 (o_ld rx_isR 4 (o_getf 10 10 (o_const 0 ((vX3_copyRow_132 j)))))))))))))))))))))))))
set_option maxRecDepth 20000 in
theorem wX3_copyRow_73 (hZ : zO b e D A X) (j : Nat → rx_K) (hj : ∀ k pc, [171, 203, 278][k]? = some pc → rx_OK (zV b e D A X) mX3_copyRow 3 pc (j k)) : rx_OK (zV b e D A X) mX3_copyRow 3 73 (vX3_copyRow_73 j) := by
  unfold vX3_copyRow_73
  refine yp10_4 hZ.1 dX3_copyRow_73 zw795 ?_
  refine s_aload hZ.1 dX3_copyRow_76 ?_
  refine s_aload hZ.1 dX3_copyRow_78 ?_
  refine yg10_5 dX3_copyRow_80 zw805 ?_
  refine yp10_5 hZ.1 dX3_copyRow_83 zw805 ?_
  refine s_aload hZ.1 dX3_copyRow_86 ?_
  refine s_aload hZ.1 dX3_copyRow_88 ?_
  refine yg10_6 dX3_copyRow_90 zw812 ?_
  refine yp10_6 hZ.1 dX3_copyRow_93 zw812 ?_
  refine s_aload hZ.1 dX3_copyRow_96 ?_
  refine s_aload hZ.1 dX3_copyRow_98 ?_
  refine yg10_7 dX3_copyRow_100 zw817 ?_
  refine yp10_7 hZ.1 dX3_copyRow_103 zw817 ?_
  refine s_aload hZ.1 dX3_copyRow_106 ?_
  refine s_aload hZ.1 dX3_copyRow_108 ?_
  refine yg10_8 dX3_copyRow_110 zw823 ?_
  refine yp10_8 hZ.1 dX3_copyRow_113 zw823 ?_
  refine s_aload hZ.1 dX3_copyRow_116 ?_
  refine s_aload hZ.1 dX3_copyRow_118 ?_
  refine yg10_9 dX3_copyRow_120 zw834 ?_
  refine yp10_9 hZ.1 dX3_copyRow_123 zw834 ?_
  refine s_aload hZ.1 dX3_copyRow_126 ?_
  refine yg10_10 dX3_copyRow_128 zw837 ?_
  refine s_iconst dX3_copyRow_131 (by decide +kernel) ?_
  exact (wX3_copyRow_132 hZ j hj)
noncomputable def vX3_copyRow_20 (j : Nat → rx_K) : rx_K := o_ld rx_isR 0 (o_ld rx_isR 1 (o_putf rx_isR 3 1 (o_ld rx_isR 0 (o_ld rx_isR 5 (o_putf rx_isR 3 2 (o_ld rx_isR 0 (o_ld rx_isI 3 (o_putf rx_isI 3 3 (o_ld rx_isR 5 (o_ld rx_isR 4 (o_getf 10 1 (o_putf rx_isL 10 1 (o_ld rx_isR 5 (o_ld rx_isR 4 (o_getf 10 2 (o_putf rx_isI 10 2 (o_ld rx_isR 5 (o_ld rx_isR 4 (o_getf 10 3 (o_putf rx_isZ 10 3 (o_ld rx_isR 5 (o_ld rx_isR 4 (o_getf 10 4 ((vX3_copyRow_73 j)))))))))))))))))))))))))
set_option maxRecDepth 20000 in
theorem wX3_copyRow_20 (hZ : zO b e D A X) (j : Nat → rx_K) (hj : ∀ k pc, [171, 203, 278][k]? = some pc → rx_OK (zV b e D A X) mX3_copyRow 3 pc (j k)) : rx_OK (zV b e D A X) mX3_copyRow 3 20 (vX3_copyRow_20 j) := by
  unfold vX3_copyRow_20
  refine s_aload_n hZ.1 dX3_copyRow_20 rfl ?_
  refine s_aload_n hZ.1 dX3_copyRow_21 rfl ?_
  refine yp3_1 hZ.1 dX3_copyRow_22 zw722 ?_
  refine s_aload_n hZ.1 dX3_copyRow_25 rfl ?_
  refine s_aload hZ.1 dX3_copyRow_26 ?_
  refine yp3_2 hZ.1 dX3_copyRow_28 zw723 ?_
  refine s_aload_n hZ.1 dX3_copyRow_31 rfl ?_
  refine s_iload_n hZ.1 dX3_copyRow_32 rfl ?_
  refine yp3_3 hZ.1 dX3_copyRow_33 zw724 ?_
  refine s_aload hZ.1 dX3_copyRow_36 ?_
  refine s_aload hZ.1 dX3_copyRow_38 ?_
  refine yg10_1 dX3_copyRow_40 zw774 ?_
  refine yp10_1 hZ.1 dX3_copyRow_43 zw774 ?_
  refine s_aload hZ.1 dX3_copyRow_46 ?_
  refine s_aload hZ.1 dX3_copyRow_48 ?_
  refine yg10_2 dX3_copyRow_50 zw782 ?_
  refine yp10_2 hZ.1 dX3_copyRow_53 zw782 ?_
  refine s_aload hZ.1 dX3_copyRow_56 ?_
  refine s_aload hZ.1 dX3_copyRow_58 ?_
  refine yg10_3 dX3_copyRow_60 zw788 ?_
  refine yp10_3 hZ.1 dX3_copyRow_63 zw788 ?_
  refine s_aload hZ.1 dX3_copyRow_66 ?_
  refine s_aload hZ.1 dX3_copyRow_68 ?_
  refine yg10_4 dX3_copyRow_70 zw795 ?_
  exact (wX3_copyRow_73 hZ j hj)
noncomputable def vX3_copyRow_19 (j : Nat → rx_K) : rx_K := o_ret0
set_option maxRecDepth 20000 in
theorem wX3_copyRow_19 (hZ : zO b e D A X) (j : Nat → rx_K) (hj : ∀ k pc, [171, 203, 278][k]? = some pc → rx_OK (zV b e D A X) mX3_copyRow 3 pc (j k)) : rx_OK (zV b e D A X) mX3_copyRow 3 19 (vX3_copyRow_19 j) := by
  unfold vX3_copyRow_19
  exact s_vret rfl dX3_copyRow_19
noncomputable def vX3_copyRow_0 (j : Nat → rx_K) : rx_K := o_ld rx_isR 2 (o_getf 1 2 (o_ld rx_isI 3 (o_ald 4 (o_st rx_isR 4 (o_ld rx_isR 1 (o_callV 0 1 FX1_newRow (o_st rx_isR 5 (o_ld rx_isR 5 (o_nul (vX3_copyRow_19 j) (vX3_copyRow_20 j))))))))))
set_option maxRecDepth 20000 in
theorem wX3_copyRow_0 (hZ : zO b e D A X) (j : Nat → rx_K) (hj : ∀ k pc, [171, 203, 278][k]? = some pc → rx_OK (zV b e D A X) mX3_copyRow 3 pc (j k)) : rx_OK (zV b e D A X) mX3_copyRow 3 0 (vX3_copyRow_0 j) := by
  unfold vX3_copyRow_0
  refine s_aload_n hZ.1 dX3_copyRow_0 rfl ?_
  refine yg1_2 dX3_copyRow_1 zw1114 ?_
  refine s_iload_n hZ.1 dX3_copyRow_4 rfl ?_
  refine s_aald (tt := 4) rfl rfl dX3_copyRow_5 ?_
  refine s_astore hZ.1 dX3_copyRow_6 (Nat.le_of_ble_eq_true rfl) ?_
  refine s_aload_n hZ.1 dX3_copyRow_8 rfl ?_
  refine s_callV hZ.1 (Met_X1_newRow hZ) (Nat.le_of_ble_eq_true rfl) vy_X1_newRow zcl1 zw1213 zw1214 (Or.inl zw2699) dX3_copyRow_9 ?_
  refine s_astore hZ.1 dX3_copyRow_12 (Nat.le_of_ble_eq_true rfl) ?_
  refine s_aload hZ.1 dX3_copyRow_14 ?_
  exact s_ifnonnull dX3_copyRow_16 (by decide) (wX3_copyRow_20 hZ j hj) (wX3_copyRow_19 hZ j hj)
noncomputable def vhX3_copyRow (j : Nat → rx_K) : List rx_K := [vX3_copyRow_171 j, vX3_copyRow_203 j, vX3_copyRow_278 j]
theorem vlX3_copyRow (hZ : zO b e D A X) : ∀ n k pc, [171, 203, 278][k]? = some pc → rx_OK (zV b e D A X) mX3_copyRow 3 pc (rx_J (vhX3_copyRow) n k) := rx_loop fun j hj k pc h => by
  match k, h with
  | 0, h =>
    have e9 := Option.some.inj (show some 171 = some pc from h)
    subst e9
    exact wX3_copyRow_171 hZ j hj
  | 1, h =>
    have e9 := Option.some.inj (show some 203 = some pc from h)
    subst e9
    exact wX3_copyRow_203 hZ j hj
  | 2, h =>
    have e9 := Option.some.inj (show some 278 = some pc from h)
    subst e9
    exact wX3_copyRow_278 hZ j hj
  | _ + 3, h => exact absurd h (by simp)
noncomputable def FX3_copyRow : List Nat → rx_H → Option (Nat × rx_H) := rx_ent 8 (vX3_copyRow_0 (rx_J (vhX3_copyRow) 4000000000))
theorem Met_X3_copyRow (hZ : zO b e D A X) : rx_Met (zV b e D A X) 3 yX3_copyRow mX3_copyRow (FX3_copyRow) := rx_entry hZ.1 (wX3_copyRow_0 hZ _ (vlX3_copyRow hZ 4000000000)) (by decide +kernel) rfl (fun h => by cases h)
abbrev mX3_addWoven : rx_M := (RX3, cX3_addWoven, 3, none, false)
theorem vy_X3_addWoven : rx_Y (zV b e D A X) yX3_addWoven mX3_addWoven 2 := ⟨zw2716, zw422, by decide, by decide +kernel, by decide +kernel, by decide +kernel⟩
noncomputable def vX3_addWoven_0 : rx_K := o_ld rx_isR 0 (o_ld rx_isR 1 (o_ld rx_isR 2 (o_callV 2 3 FX3_bridge (o_ld rx_isR 0 (o_getf 3 2 (o_ld rx_isR 0 (o_getf 3 1 (o_getf 1 15 (o_ld rx_isR 0 (o_getf 3 2 (o_getf 10 16 (o_bi (fun x y => x - y) (o_putf rx_isI 10 17 (o_ret0))))))))))))))
set_option maxRecDepth 20000 in
theorem wX3_addWoven_0 (hZ : zO b e D A X) : rx_OK (zV b e D A X) mX3_addWoven 3 0 vX3_addWoven_0 := by
  unfold vX3_addWoven_0
  refine s_aload_n hZ.1 dX3_addWoven_0 rfl ?_
  refine s_aload_n hZ.1 dX3_addWoven_1 rfl ?_
  refine s_aload_n hZ.1 dX3_addWoven_2 rfl ?_
  refine s_callV hZ.1 (Met_X3_bridge hZ) (Nat.le_of_ble_eq_true rfl) vy_X3_bridge zcl3 zw2324 zw109 (Or.inl zw2322) dX3_addWoven_3 ?_
  refine s_aload_n hZ.1 dX3_addWoven_6 rfl ?_
  refine yg3_2 dX3_addWoven_7 zw723 ?_
  refine s_aload_n hZ.1 dX3_addWoven_10 rfl ?_
  refine yg3_1 dX3_addWoven_11 zw722 ?_
  refine yg1_15 dX3_addWoven_14 zw1165 ?_
  refine s_aload_n hZ.1 dX3_addWoven_17 rfl ?_
  refine yg3_2 dX3_addWoven_18 zw723 ?_
  refine yg10_16 dX3_addWoven_21 zw875 ?_
  refine s_isub dX3_addWoven_24 ?_
  refine yp10_17 hZ.1 dX3_addWoven_25 zw881 ?_
  exact s_vret rfl dX3_addWoven_28
noncomputable def FX3_addWoven : List Nat → rx_H → Option (Nat × rx_H) := rx_ent 3 vX3_addWoven_0
theorem Met_X3_addWoven (hZ : zO b e D A X) : rx_Met (zV b e D A X) 3 yX3_addWoven mX3_addWoven (FX3_addWoven) := rx_entry hZ.1 (wX3_addWoven_0 hZ) (by decide +kernel) rfl (fun h => by cases h)
abbrev mX4_init : rx_M := (RX4, cX4_init, 1, none, true)
theorem vy_X4_init : rx_Y (zV b e D A X) yX4_init mX4_init 0 := ⟨zw636, zw420, by decide, by decide +kernel, by decide +kernel, by decide +kernel⟩
noncomputable def vX4_init_0 : rx_K := o_ld rx_isR 0 (o_obj (o_ret0))
set_option maxRecDepth 20000 in
theorem wX4_init_0 (hZ : zO b e D A X) : rx_OK (zV b e D A X) mX4_init 1 0 vX4_init_0 := by
  unfold vX4_init_0
  refine s_aload_n hZ.1 dX4_init_0 rfl ?_
  refine s_obj hZ.1 (Nat.le_of_ble_eq_true rfl) zw637 zw440 zw441 dX4_init_1 ?_
  exact s_vret rfl dX4_init_4
noncomputable def FX4_init : List Nat → rx_H → Option (Nat × rx_H) := rx_ent 1 vX4_init_0
theorem Met_X4_init (hZ : zO b e D A X) : rx_Met (zV b e D A X) 1 yX4_init mX4_init (FX4_init) := rx_entry hZ.1 (wX4_init_0 hZ) (by decide +kernel) rfl (fun _ => rfl)
abbrev mX4_fail : rx_M := (RX4, cX4_fail, 3, (some .boolean), false)
theorem vy_X4_fail : rx_Y (zV b e D A X) yX4_fail mX4_fail 2 := ⟨zw1899, zw420, by decide, by decide +kernel, by decide +kernel, by decide +kernel⟩
noncomputable def vX4_fail_17 : rx_K := o_const 0 (o_ret1 rx_isZ)
set_option maxRecDepth 20000 in
theorem wX4_fail_17 (hZ : zO b e D A X) : rx_OK (zV b e D A X) mX4_fail 0 17 vX4_fail_17 := by
  unfold vX4_fail_17
  refine s_iconst dX4_fail_17 (by decide +kernel) ?_
  exact s_zret rx_z_ok rfl dX4_fail_18
noncomputable def vX4_fail_7 : rx_K := o_ld rx_isR 0 (o_ld rx_isI 1 (o_putf rx_isI 4 2 (o_ld rx_isR 0 (o_ld rx_isI 2 (o_putf rx_isI 4 3 (vX4_fail_17))))))
set_option maxRecDepth 20000 in
theorem wX4_fail_7 (hZ : zO b e D A X) : rx_OK (zV b e D A X) mX4_fail 0 7 vX4_fail_7 := by
  unfold vX4_fail_7
  refine s_aload_n hZ.1 dX4_fail_7 rfl ?_
  refine s_iload_n hZ.1 dX4_fail_8 rfl ?_
  refine yp4_2 hZ.1 dX4_fail_9 zw640 ?_
  refine s_aload_n hZ.1 dX4_fail_12 rfl ?_
  refine s_iload_n hZ.1 dX4_fail_13 rfl ?_
  refine yp4_3 hZ.1 dX4_fail_14 zw642 ?_
  exact (wX4_fail_17 hZ)
noncomputable def vX4_fail_0 : rx_K := o_ld rx_isR 0 (o_getf 4 2 (o_c1 rx_eq vX4_fail_7 vX4_fail_17))
set_option maxRecDepth 20000 in
theorem wX4_fail_0 (hZ : zO b e D A X) : rx_OK (zV b e D A X) mX4_fail 0 0 vX4_fail_0 := by
  unfold vX4_fail_0
  refine s_aload_n hZ.1 dX4_fail_0 rfl ?_
  refine yg4_2 dX4_fail_1 zw640 ?_
  exact s_if_ne dX4_fail_4 (by decide) (wX4_fail_17 hZ) (wX4_fail_7 hZ)
noncomputable def FX4_fail : List Nat → rx_H → Option (Nat × rx_H) := rx_ent 3 vX4_fail_0
theorem Met_X4_fail (hZ : zO b e D A X) : rx_Met (zV b e D A X) 0 yX4_fail mX4_fail (FX4_fail) := rx_entry hZ.1 (wX4_fail_0 hZ) (by decide +kernel) rfl (fun h => by cases h)
abbrev mX11_samePackage : rx_M := (RX11, cX11_samePackage, 3, (some .boolean), false)
theorem vy_X11_samePackage : rx_Y (zV b e D A X) yX11_samePackage mX11_samePackage 2 := ⟨zw1972, zw423, by decide, by decide +kernel, by decide +kernel, by decide +kernel⟩
noncomputable def vX11_samePackage_33 : rx_K := o_ret1 rx_isZ
set_option maxRecDepth 20000 in
theorem wX11_samePackage_33 (hZ : zO b e D A X) : rx_OK (zV b e D A X) mX11_samePackage 0 33 vX11_samePackage_33 := by
  unfold vX11_samePackage_33
  exact s_zret rx_z_ok rfl dX11_samePackage_33
noncomputable def vX11_samePackage_32 : rx_K := o_const 0 (vX11_samePackage_33)
set_option maxRecDepth 20000 in
theorem wX11_samePackage_32 (hZ : zO b e D A X) : rx_OK (zV b e D A X) mX11_samePackage 0 32 vX11_samePackage_32 := by
  unfold vX11_samePackage_32
  refine s_iconst dX11_samePackage_32 (by decide +kernel) ?_
  exact (wX11_samePackage_33 hZ)
noncomputable def vX11_samePackage_28 : rx_K := o_const 8 (vX11_samePackage_33)
set_option maxRecDepth 20000 in
theorem wX11_samePackage_28 (hZ : zO b e D A X) : rx_OK (zV b e D A X) mX11_samePackage 0 28 vX11_samePackage_28 := by
  unfold vX11_samePackage_28
  refine s_iconst dX11_samePackage_28 (by decide +kernel) ?_
  exact s_goto dX11_samePackage_29 (by decide) (wX11_samePackage_33 hZ)
noncomputable def vX11_samePackage_0 : rx_K := o_ld rx_isR 0 (o_getf 11 1 (o_ld rx_isI 1 (o_ald 4 (o_getf 10 1 (o_const 472 (o_bs (fun x y => (x.toUInt64 >>> (y.toInt64.toUInt64 &&& Int64.toUInt64 63)).toInt64) (o_ld rx_isR 0 (o_getf 11 1 (o_ld rx_isI 2 (o_ald 4 (o_getf 10 1 (o_const 472 (o_bs (fun x y => (x.toUInt64 >>> (y.toInt64.toUInt64 &&& Int64.toUInt64 63)).toInt64) (o_bc (fun x y => lg_cmp x y) (o_c1 rx_eq vX11_samePackage_28 vX11_samePackage_32)))))))))))))))
set_option maxRecDepth 20000 in
theorem wX11_samePackage_0 (hZ : zO b e D A X) : rx_OK (zV b e D A X) mX11_samePackage 0 0 vX11_samePackage_0 := by
  unfold vX11_samePackage_0
  refine s_aload_n hZ.1 dX11_samePackage_0 rfl ?_
  refine yg11_1 dX11_samePackage_1 zw1252 ?_
  refine s_iload_n hZ.1 dX11_samePackage_4 rfl ?_
  refine s_aald (tt := 4) rfl rfl dX11_samePackage_5 ?_
  refine yg10_1 dX11_samePackage_6 zw768 ?_
  refine s_bipush dX11_samePackage_9 (by decide +kernel) ?_
  refine s_lushr dX11_samePackage_11 ?_
  refine s_aload_n hZ.1 dX11_samePackage_12 rfl ?_
  refine yg11_1 dX11_samePackage_13 zw1252 ?_
  refine s_iload_n hZ.1 dX11_samePackage_16 rfl ?_
  refine s_aald (tt := 4) rfl rfl dX11_samePackage_17 ?_
  refine yg10_1 dX11_samePackage_18 zw768 ?_
  refine s_bipush dX11_samePackage_21 (by decide +kernel) ?_
  refine s_lushr dX11_samePackage_23 ?_
  refine s_lcmp dX11_samePackage_24 ?_
  exact s_if_ne dX11_samePackage_25 (by decide) (wX11_samePackage_32 hZ) (wX11_samePackage_28 hZ)
noncomputable def FX11_samePackage : List Nat → rx_H → Option (Nat × rx_H) := rx_ent 3 vX11_samePackage_0
theorem Met_X11_samePackage (hZ : zO b e D A X) : rx_Met (zV b e D A X) 0 yX11_samePackage mX11_samePackage (FX11_samePackage) := rx_entry hZ.1 (wX11_samePackage_0 hZ) (by decide +kernel) rfl (fun h => by cases h)
abbrev mX4_aboveIn : rx_M := (RX4, cX4_aboveIn, 5, (some (.object "LinkHouse$Member")), false)
theorem vy_X4_aboveIn : rx_Y (zV b e D A X) yX4_aboveIn mX4_aboveIn 3 := ⟨zw1963, zw420, by decide, by decide +kernel, by decide +kernel, by decide +kernel⟩
noncomputable def vX4_aboveIn_74 : rx_K := o_ld rx_isR 4 (o_ret1 rx_isR)
set_option maxRecDepth 20000 in
theorem wX4_aboveIn_74 (hZ : zO b e D A X) : rx_OK (zV b e D A X) mX4_aboveIn 2 74 vX4_aboveIn_74 := by
  unfold vX4_aboveIn_74
  refine s_aload hZ.1 dX4_aboveIn_74 ?_
  exact s_aret hZ.1 rfl (Or.inl ⟨_, rfl⟩) dX4_aboveIn_76
noncomputable def vX4_aboveIn_72 : rx_K := o_const 3 (o_ret1 rx_isR)
set_option maxRecDepth 20000 in
theorem wX4_aboveIn_72 (hZ : zO b e D A X) : rx_OK (zV b e D A X) mX4_aboveIn 2 72 vX4_aboveIn_72 := by
  unfold vX4_aboveIn_72
  refine s_null dX4_aboveIn_72 ?_
  exact s_aret hZ.1 rfl (Or.inl ⟨_, rfl⟩) dX4_aboveIn_73
noncomputable def vX4_aboveIn_57 : rx_K := o_ld rx_isR 0 (o_getf 4 0 (o_getf 11 1 (o_ld rx_isI 1 (o_ald 4 (o_getf 10 4 (o_c1 rx_eq vX4_aboveIn_74 vX4_aboveIn_72))))))
set_option maxRecDepth 20000 in
theorem wX4_aboveIn_57 (hZ : zO b e D A X) : rx_OK (zV b e D A X) mX4_aboveIn 2 57 vX4_aboveIn_57 := by
  unfold vX4_aboveIn_57
  refine s_aload_n hZ.1 dX4_aboveIn_57 rfl ?_
  refine yg4_0 dX4_aboveIn_58 zw638 ?_
  refine yg11_1 dX4_aboveIn_61 zw1254 ?_
  refine s_iload_n hZ.1 dX4_aboveIn_64 rfl ?_
  refine s_aald (tt := 4) rfl rfl dX4_aboveIn_65 ?_
  refine yg10_4 dX4_aboveIn_66 zw792 ?_
  exact s_if_eq dX4_aboveIn_69 (by decide) (wX4_aboveIn_74 hZ) (wX4_aboveIn_72 hZ)
noncomputable def vX4_aboveIn_49 : rx_K := o_ld rx_isR 4 (o_getf 7 2 (o_c1 rx_eq vX4_aboveIn_74 vX4_aboveIn_57))
set_option maxRecDepth 20000 in
theorem wX4_aboveIn_49 (hZ : zO b e D A X) : rx_OK (zV b e D A X) mX4_aboveIn 2 49 vX4_aboveIn_49 := by
  unfold vX4_aboveIn_49
  refine s_aload hZ.1 dX4_aboveIn_49 ?_
  refine yg7_2 dX4_aboveIn_51 zw964 ?_
  exact s_if_eq dX4_aboveIn_54 (by decide) (wX4_aboveIn_74 hZ) (wX4_aboveIn_57 hZ)
noncomputable def vX4_aboveIn_37 : rx_K := o_ld rx_isR 0 (o_getf 4 0 (o_ld rx_isI 1 (o_ld rx_isI 2 (o_callV 2 11 FX11_samePackage (o_c1 rx_eq vX4_aboveIn_72 vX4_aboveIn_49)))))
set_option maxRecDepth 20000 in
theorem wX4_aboveIn_37 (hZ : zO b e D A X) : rx_OK (zV b e D A X) mX4_aboveIn 2 37 vX4_aboveIn_37 := by
  unfold vX4_aboveIn_37
  refine s_aload_n hZ.1 dX4_aboveIn_37 rfl ?_
  refine yg4_0 dX4_aboveIn_38 zw638 ?_
  refine s_iload_n hZ.1 dX4_aboveIn_41 rfl ?_
  refine s_iload_n hZ.1 dX4_aboveIn_42 rfl ?_
  refine s_callV hZ.1 (Met_X11_samePackage hZ) (Nat.le_of_ble_eq_true rfl) vy_X11_samePackage zcl11 zw1970 zw1971 (Or.inl zw1969) dX4_aboveIn_43 ?_
  exact s_if_eq dX4_aboveIn_46 (by decide) (wX4_aboveIn_72 hZ) (wX4_aboveIn_49 hZ)
noncomputable def vX4_aboveIn_28 : rx_K := o_ld rx_isR 4 (o_getf 7 1 (o_const 8 (o_c2 rx_eq vX4_aboveIn_37 vX4_aboveIn_49)))
set_option maxRecDepth 20000 in
theorem wX4_aboveIn_28 (hZ : zO b e D A X) : rx_OK (zV b e D A X) mX4_aboveIn 2 28 vX4_aboveIn_28 := by
  unfold vX4_aboveIn_28
  refine s_aload hZ.1 dX4_aboveIn_28 ?_
  refine yg7_1 dX4_aboveIn_30 zw955 ?_
  refine s_iconst dX4_aboveIn_33 (by decide +kernel) ?_
  exact s_icmp_ne dX4_aboveIn_34 (by decide) (wX4_aboveIn_49 hZ) (wX4_aboveIn_37 hZ)
noncomputable def vX4_aboveIn_20 : rx_K := o_ld rx_isR 4 (o_getf 7 1 (o_c1 rx_eq vX4_aboveIn_72 vX4_aboveIn_28))
set_option maxRecDepth 20000 in
theorem wX4_aboveIn_20 (hZ : zO b e D A X) : rx_OK (zV b e D A X) mX4_aboveIn 2 20 vX4_aboveIn_20 := by
  unfold vX4_aboveIn_20
  refine s_aload hZ.1 dX4_aboveIn_20 ?_
  refine yg7_1 dX4_aboveIn_22 zw955 ?_
  exact s_if_eq dX4_aboveIn_25 (by decide) (wX4_aboveIn_72 hZ) (wX4_aboveIn_28 hZ)
noncomputable def vX4_aboveIn_0 : rx_K := o_ld rx_isR 0 (o_getf 4 0 (o_getf 11 1 (o_ld rx_isI 1 (o_ald 4 (o_ld rx_isR 3 (o_callV 1 10 FX10_plain (o_st rx_isR 4 (o_ld rx_isR 4 (o_nul vX4_aboveIn_72 vX4_aboveIn_20)))))))))
set_option maxRecDepth 20000 in
theorem wX4_aboveIn_0 (hZ : zO b e D A X) : rx_OK (zV b e D A X) mX4_aboveIn 2 0 vX4_aboveIn_0 := by
  unfold vX4_aboveIn_0
  refine s_aload_n hZ.1 dX4_aboveIn_0 rfl ?_
  refine yg4_0 dX4_aboveIn_1 zw638 ?_
  refine yg11_1 dX4_aboveIn_4 zw1254 ?_
  refine s_iload_n hZ.1 dX4_aboveIn_7 rfl ?_
  refine s_aald (tt := 4) rfl rfl dX4_aboveIn_8 ?_
  refine s_aload_n hZ.1 dX4_aboveIn_9 rfl ?_
  refine s_callV hZ.1 (Met_X10_plain hZ) (Nat.le_of_ble_eq_true rfl) vy_X10_plain zcl10 zw1965 zw1966 (Or.inl zw1964) dX4_aboveIn_10 ?_
  refine s_astore hZ.1 dX4_aboveIn_13 (Nat.le_of_ble_eq_true rfl) ?_
  refine s_aload hZ.1 dX4_aboveIn_15 ?_
  exact s_ifnull dX4_aboveIn_17 (by decide) (wX4_aboveIn_72 hZ) (wX4_aboveIn_20 hZ)
noncomputable def FX4_aboveIn : List Nat → rx_H → Option (Nat × rx_H) := rx_ent 5 vX4_aboveIn_0
theorem Met_X4_aboveIn (hZ : zO b e D A X) : rx_Met (zV b e D A X) 2 yX4_aboveIn mX4_aboveIn (FX4_aboveIn) := rx_entry hZ.1 (wX4_aboveIn_0 hZ) (by decide +kernel) rfl (fun h => by cases h)
end ZM12

section ZM72
variable {b : Nat} {e : Nat → Value} {D : va_G} {A : Nat → ClassId} {X : State → Prop}
abbrev mX13_copyBuild : rx_M := (RX13, cX13_copyBuild, 3, none, false)
theorem vy_X13_copyBuild : rx_Y (zV b e D A X) yX13_copyBuild mX13_copyBuild 2 := ⟨zw4083, zw431, by decide, by decide +kernel, by decide +kernel, by decide +kernel⟩
noncomputable def vX13_copyBuild_274 : rx_K := o_ld rx_isR 0 (o_getf 13 19 (o_ld rx_isR 0 (o_getf 13 69 (o_ld rx_isI 1 (o_ald 0 (o_ast 0 (fun v => v) rx_isI (o_ret0)))))))
set_option maxRecDepth 20000 in
theorem wX13_copyBuild_274 (hZ : zO b e D A X) : rx_OK (zV b e D A X) mX13_copyBuild 2 274 vX13_copyBuild_274 := by
  unfold vX13_copyBuild_274
  refine s_aload_n hZ.1 dX13_copyBuild_274 rfl ?_
  refine yg13_19 dX13_copyBuild_275 zw4140 ?_
  refine s_aload_n hZ.1 dX13_copyBuild_278 rfl ?_
  refine yg13_69 dX13_copyBuild_279 zw4190 ?_
  refine s_iload_n hZ.1 dX13_copyBuild_282 rfl ?_
  refine s_iald (tt := 0) rfl dX13_copyBuild_283 ?_
  refine s_iast hZ.1 (tt := 0) rfl dX13_copyBuild_284 ?_
  exact s_vret rfl dX13_copyBuild_285
noncomputable def vX13_copyBuild_231 : rx_K := o_bi (fun x y => x * y) (o_const 272 (o_bi (fun x y => x * y) (o_callV 2 13 FX13_copyMembers (o_ld rx_isR 0 (o_ld rx_isI 1 (o_const 13600 (o_bi (fun x y => x * y) (o_ld rx_isR 0 (o_getf 13 19 (o_const 13600 (o_bi (fun x y => x * y) (o_callV 2 13 FX13_copyNodes (o_ld rx_isR 0 (o_getf 13 23 (o_ld rx_isR 0 (o_getf 13 19 (o_ld rx_isR 0 (o_getf 13 23 (o_ld rx_isI 1 (o_ald 0 (o_ast 0 (fun v => v) rx_isI (o_ld rx_isR 0 (o_getf 13 69 (vX13_copyBuild_274))))))))))))))))))))))))
set_option maxRecDepth 20000 in
theorem wX13_copyBuild_231 (hZ : zO b e D A X) : rx_OK (zV b e D A X) mX13_copyBuild 2 231 vX13_copyBuild_231 := by
  unfold vX13_copyBuild_231
  refine s_imul dX13_copyBuild_231 ?_
  refine s_bipush dX13_copyBuild_232 (by decide +kernel) ?_
  refine s_imul dX13_copyBuild_234 ?_
  refine s_callV hZ.1 (Met_X13_copyMembers hZ) (Nat.le_of_ble_eq_true rfl) vy_X13_copyMembers zcl13 zw4090 zw406 (Or.inl zw4088) dX13_copyBuild_235 ?_
  refine s_aload_n hZ.1 dX13_copyBuild_238 rfl ?_
  refine s_iload_n hZ.1 dX13_copyBuild_239 rfl ?_
  refine s_sipush dX13_copyBuild_240 (by decide +kernel) ?_
  refine s_imul dX13_copyBuild_243 ?_
  refine s_aload_n hZ.1 dX13_copyBuild_244 rfl ?_
  refine yg13_19 dX13_copyBuild_245 zw4140 ?_
  refine s_sipush dX13_copyBuild_248 (by decide +kernel) ?_
  refine s_imul dX13_copyBuild_251 ?_
  refine s_callV hZ.1 (Met_X13_copyNodes hZ) (Nat.le_of_ble_eq_true rfl) vy_X13_copyNodes zcl13 zw4094 zw407 (Or.inl zw4092) dX13_copyBuild_252 ?_
  refine s_aload_n hZ.1 dX13_copyBuild_255 rfl ?_
  refine yg13_23 dX13_copyBuild_256 zw4144 ?_
  refine s_aload_n hZ.1 dX13_copyBuild_259 rfl ?_
  refine yg13_19 dX13_copyBuild_260 zw4140 ?_
  refine s_aload_n hZ.1 dX13_copyBuild_263 rfl ?_
  refine yg13_23 dX13_copyBuild_264 zw4144 ?_
  refine s_iload_n hZ.1 dX13_copyBuild_267 rfl ?_
  refine s_iald (tt := 0) rfl dX13_copyBuild_268 ?_
  refine s_iast hZ.1 (tt := 0) rfl dX13_copyBuild_269 ?_
  refine s_aload_n hZ.1 dX13_copyBuild_270 rfl ?_
  refine yg13_69 dX13_copyBuild_271 zw4190 ?_
  exact (wX13_copyBuild_274 hZ)
noncomputable def vX13_copyBuild_188 : rx_K := o_ld rx_isR 0 (o_getf 13 19 (o_const 5616 (o_bi (fun x y => x * y) (o_const 5616 (o_copy 0 rx_isI (o_ld rx_isR 0 (o_ld rx_isI 1 (o_const 96 (o_bi (fun x y => x * y) (o_ld rx_isR 0 (o_getf 13 19 (o_const 96 (o_bi (fun x y => x * y) (o_callV 2 13 FX13_copyClasses (o_ld rx_isR 0 (o_ld rx_isI 1 (o_const 96 (o_bi (fun x y => x * y) (o_const 272 (o_bi (fun x y => x * y) (o_ld rx_isR 0 (o_getf 13 19 (o_const 96 (vX13_copyBuild_231))))))))))))))))))))))))
set_option maxRecDepth 20000 in
theorem wX13_copyBuild_188 (hZ : zO b e D A X) : rx_OK (zV b e D A X) mX13_copyBuild 2 188 vX13_copyBuild_188 := by
  unfold vX13_copyBuild_188
  refine s_aload_n hZ.1 dX13_copyBuild_188 rfl ?_
  refine yg13_19 dX13_copyBuild_189 zw4140 ?_
  refine s_sipush dX13_copyBuild_192 (by decide +kernel) ?_
  refine s_imul dX13_copyBuild_195 ?_
  refine s_sipush dX13_copyBuild_196 (by decide +kernel) ?_
  refine s_copy hZ.1 (tt := 0) (ty := .int) rfl rfl (fun c h => Or.inl (rx_isI_v hZ.1 h).2) rfl (by decide) zw4062 zw1692 zw1691 zw433 dX13_copyBuild_199 ?_
  refine s_aload_n hZ.1 dX13_copyBuild_202 rfl ?_
  refine s_iload_n hZ.1 dX13_copyBuild_203 rfl ?_
  refine s_bipush dX13_copyBuild_204 (by decide +kernel) ?_
  refine s_imul dX13_copyBuild_206 ?_
  refine s_aload_n hZ.1 dX13_copyBuild_207 rfl ?_
  refine yg13_19 dX13_copyBuild_208 zw4140 ?_
  refine s_bipush dX13_copyBuild_211 (by decide +kernel) ?_
  refine s_imul dX13_copyBuild_213 ?_
  refine s_callV hZ.1 (Met_X13_copyClasses hZ) (Nat.le_of_ble_eq_true rfl) vy_X13_copyClasses zcl13 zw4086 zw405 (Or.inl zw4084) dX13_copyBuild_214 ?_
  refine s_aload_n hZ.1 dX13_copyBuild_217 rfl ?_
  refine s_iload_n hZ.1 dX13_copyBuild_218 rfl ?_
  refine s_bipush dX13_copyBuild_219 (by decide +kernel) ?_
  refine s_imul dX13_copyBuild_221 ?_
  refine s_bipush dX13_copyBuild_222 (by decide +kernel) ?_
  refine s_imul dX13_copyBuild_224 ?_
  refine s_aload_n hZ.1 dX13_copyBuild_225 rfl ?_
  refine yg13_19 dX13_copyBuild_226 zw4140 ?_
  refine s_bipush dX13_copyBuild_229 (by decide +kernel) ?_
  exact (wX13_copyBuild_231 hZ)
noncomputable def vX13_copyBuild_138 : rx_K := o_const 5616 (o_bi (fun x y => x * y) (o_const 5616 (o_copy 0 rx_isI (o_ld rx_isR 0 (o_getf 13 14 (o_ld rx_isI 1 (o_const 5616 (o_bi (fun x y => x * y) (o_ld rx_isR 0 (o_getf 13 14 (o_ld rx_isR 0 (o_getf 13 19 (o_const 5616 (o_bi (fun x y => x * y) (o_const 5616 (o_copy 1 rx_isL (o_ld rx_isR 0 (o_getf 13 15 (o_ld rx_isI 1 (o_const 5616 (o_bi (fun x y => x * y) (o_ld rx_isR 0 (o_getf 13 15 (vX13_copyBuild_188))))))))))))))))))))))))
set_option maxRecDepth 20000 in
theorem wX13_copyBuild_138 (hZ : zO b e D A X) : rx_OK (zV b e D A X) mX13_copyBuild 2 138 vX13_copyBuild_138 := by
  unfold vX13_copyBuild_138
  refine s_sipush dX13_copyBuild_138 (by decide +kernel) ?_
  refine s_imul dX13_copyBuild_141 ?_
  refine s_sipush dX13_copyBuild_142 (by decide +kernel) ?_
  refine s_copy hZ.1 (tt := 0) (ty := .int) rfl rfl (fun c h => Or.inl (rx_isI_v hZ.1 h).2) rfl (by decide) zw4062 zw1692 zw1691 zw433 dX13_copyBuild_145 ?_
  refine s_aload_n hZ.1 dX13_copyBuild_148 rfl ?_
  refine yg13_14 dX13_copyBuild_149 zw4135 ?_
  refine s_iload_n hZ.1 dX13_copyBuild_152 rfl ?_
  refine s_sipush dX13_copyBuild_153 (by decide +kernel) ?_
  refine s_imul dX13_copyBuild_156 ?_
  refine s_aload_n hZ.1 dX13_copyBuild_157 rfl ?_
  refine yg13_14 dX13_copyBuild_158 zw4135 ?_
  refine s_aload_n hZ.1 dX13_copyBuild_161 rfl ?_
  refine yg13_19 dX13_copyBuild_162 zw4140 ?_
  refine s_sipush dX13_copyBuild_165 (by decide +kernel) ?_
  refine s_imul dX13_copyBuild_168 ?_
  refine s_sipush dX13_copyBuild_169 (by decide +kernel) ?_
  refine s_copy hZ.1 (tt := 1) (ty := .long) rfl rfl (fun c h => Or.inr ⟨_, (rx_isL_v h).2⟩) rfl (by decide) zw4062 zw1692 zw1691 zw433 dX13_copyBuild_172 ?_
  refine s_aload_n hZ.1 dX13_copyBuild_175 rfl ?_
  refine yg13_15 dX13_copyBuild_176 zw4136 ?_
  refine s_iload_n hZ.1 dX13_copyBuild_179 rfl ?_
  refine s_sipush dX13_copyBuild_180 (by decide +kernel) ?_
  refine s_imul dX13_copyBuild_183 ?_
  refine s_aload_n hZ.1 dX13_copyBuild_184 rfl ?_
  refine yg13_15 dX13_copyBuild_185 zw4136 ?_
  exact (wX13_copyBuild_188 hZ)
noncomputable def vX13_copyBuild_88 : rx_K := o_const 5616 (o_copy 0 rx_isI (o_ld rx_isR 0 (o_getf 13 12 (o_ld rx_isI 1 (o_const 5616 (o_bi (fun x y => x * y) (o_ld rx_isR 0 (o_getf 13 12 (o_ld rx_isR 0 (o_getf 13 19 (o_const 5616 (o_bi (fun x y => x * y) (o_const 5616 (o_copy 0 rx_isI (o_ld rx_isR 0 (o_getf 13 13 (o_ld rx_isI 1 (o_const 5616 (o_bi (fun x y => x * y) (o_ld rx_isR 0 (o_getf 13 13 (o_ld rx_isR 0 (o_getf 13 19 (vX13_copyBuild_138))))))))))))))))))))))))
set_option maxRecDepth 20000 in
theorem wX13_copyBuild_88 (hZ : zO b e D A X) : rx_OK (zV b e D A X) mX13_copyBuild 2 88 vX13_copyBuild_88 := by
  unfold vX13_copyBuild_88
  refine s_sipush dX13_copyBuild_88 (by decide +kernel) ?_
  refine s_copy hZ.1 (tt := 0) (ty := .int) rfl rfl (fun c h => Or.inl (rx_isI_v hZ.1 h).2) rfl (by decide) zw4062 zw1692 zw1691 zw433 dX13_copyBuild_91 ?_
  refine s_aload_n hZ.1 dX13_copyBuild_94 rfl ?_
  refine yg13_12 dX13_copyBuild_95 zw4133 ?_
  refine s_iload_n hZ.1 dX13_copyBuild_98 rfl ?_
  refine s_sipush dX13_copyBuild_99 (by decide +kernel) ?_
  refine s_imul dX13_copyBuild_102 ?_
  refine s_aload_n hZ.1 dX13_copyBuild_103 rfl ?_
  refine yg13_12 dX13_copyBuild_104 zw4133 ?_
  refine s_aload_n hZ.1 dX13_copyBuild_107 rfl ?_
  refine yg13_19 dX13_copyBuild_108 zw4140 ?_
  refine s_sipush dX13_copyBuild_111 (by decide +kernel) ?_
  refine s_imul dX13_copyBuild_114 ?_
  refine s_sipush dX13_copyBuild_115 (by decide +kernel) ?_
  refine s_copy hZ.1 (tt := 0) (ty := .int) rfl rfl (fun c h => Or.inl (rx_isI_v hZ.1 h).2) rfl (by decide) zw4062 zw1692 zw1691 zw433 dX13_copyBuild_118 ?_
  refine s_aload_n hZ.1 dX13_copyBuild_121 rfl ?_
  refine yg13_13 dX13_copyBuild_122 zw4134 ?_
  refine s_iload_n hZ.1 dX13_copyBuild_125 rfl ?_
  refine s_sipush dX13_copyBuild_126 (by decide +kernel) ?_
  refine s_imul dX13_copyBuild_129 ?_
  refine s_aload_n hZ.1 dX13_copyBuild_130 rfl ?_
  refine yg13_13 dX13_copyBuild_131 zw4134 ?_
  refine s_aload_n hZ.1 dX13_copyBuild_134 rfl ?_
  refine yg13_19 dX13_copyBuild_135 zw4140 ?_
  exact (wX13_copyBuild_138 hZ)
noncomputable def vX13_copyBuild_46 : rx_K := o_ld rx_isR 0 (o_getf 13 19 (o_ld rx_isI 2 (o_ast 0 (fun v => v) rx_isI (o_ld rx_isR 0 (o_getf 13 16 (o_ld rx_isR 0 (o_getf 13 19 (o_ld rx_isR 0 (o_getf 13 16 (o_ld rx_isI 1 (o_ald 0 (o_ast 0 (fun v => v) rx_isI (o_ld rx_isR 0 (o_getf 13 11 (o_ld rx_isI 1 (o_const 5616 (o_bi (fun x y => x * y) (o_ld rx_isR 0 (o_getf 13 11 (o_ld rx_isR 0 (o_getf 13 19 (o_const 5616 (o_bi (fun x y => x * y) (vX13_copyBuild_88))))))))))))))))))))))))
set_option maxRecDepth 20000 in
theorem wX13_copyBuild_46 (hZ : zO b e D A X) : rx_OK (zV b e D A X) mX13_copyBuild 2 46 vX13_copyBuild_46 := by
  unfold vX13_copyBuild_46
  refine s_aload_n hZ.1 dX13_copyBuild_46 rfl ?_
  refine yg13_19 dX13_copyBuild_47 zw4140 ?_
  refine s_iload_n hZ.1 dX13_copyBuild_50 rfl ?_
  refine s_iast hZ.1 (tt := 0) rfl dX13_copyBuild_51 ?_
  refine s_aload_n hZ.1 dX13_copyBuild_52 rfl ?_
  refine yg13_16 dX13_copyBuild_53 zw4137 ?_
  refine s_aload_n hZ.1 dX13_copyBuild_56 rfl ?_
  refine yg13_19 dX13_copyBuild_57 zw4140 ?_
  refine s_aload_n hZ.1 dX13_copyBuild_60 rfl ?_
  refine yg13_16 dX13_copyBuild_61 zw4137 ?_
  refine s_iload_n hZ.1 dX13_copyBuild_64 rfl ?_
  refine s_iald (tt := 0) rfl dX13_copyBuild_65 ?_
  refine s_iast hZ.1 (tt := 0) rfl dX13_copyBuild_66 ?_
  refine s_aload_n hZ.1 dX13_copyBuild_67 rfl ?_
  refine yg13_11 dX13_copyBuild_68 zw4132 ?_
  refine s_iload_n hZ.1 dX13_copyBuild_71 rfl ?_
  refine s_sipush dX13_copyBuild_72 (by decide +kernel) ?_
  refine s_imul dX13_copyBuild_75 ?_
  refine s_aload_n hZ.1 dX13_copyBuild_76 rfl ?_
  refine yg13_11 dX13_copyBuild_77 zw4132 ?_
  refine s_aload_n hZ.1 dX13_copyBuild_80 rfl ?_
  refine yg13_19 dX13_copyBuild_81 zw4140 ?_
  refine s_sipush dX13_copyBuild_84 (by decide +kernel) ?_
  refine s_imul dX13_copyBuild_87 ?_
  exact (wX13_copyBuild_88 hZ)
noncomputable def vX13_copyBuild_0 : rx_K := o_ld rx_isR 0 (o_getf 13 5 (o_ld rx_isI 1 (o_const 32000 (o_bi (fun x y => x * y) (o_ld rx_isR 0 (o_getf 13 5 (o_ld rx_isR 0 (o_getf 13 19 (o_const 32000 (o_bi (fun x y => x * y) (o_const 32000 (o_copy 2 (rx_chk .byte) (o_ld rx_isR 0 (o_getf 13 6 (o_ld rx_isR 0 (o_getf 13 19 (o_ld rx_isR 0 (o_getf 13 6 (o_ld rx_isI 1 (o_ald 0 (o_ast 0 (fun v => v) rx_isI (o_ld rx_isR 0 (o_getf 13 7 (vX13_copyBuild_46))))))))))))))))))))))))
set_option maxRecDepth 20000 in
theorem wX13_copyBuild_0 (hZ : zO b e D A X) : rx_OK (zV b e D A X) mX13_copyBuild 2 0 vX13_copyBuild_0 := by
  unfold vX13_copyBuild_0
  refine s_aload_n hZ.1 dX13_copyBuild_0 rfl ?_
  refine yg13_5 dX13_copyBuild_1 zw4126 ?_
  refine s_iload_n hZ.1 dX13_copyBuild_4 rfl ?_
  refine s_sipush dX13_copyBuild_5 (by decide +kernel) ?_
  refine s_imul dX13_copyBuild_8 ?_
  refine s_aload_n hZ.1 dX13_copyBuild_9 rfl ?_
  refine yg13_5 dX13_copyBuild_10 zw4126 ?_
  refine s_aload_n hZ.1 dX13_copyBuild_13 rfl ?_
  refine yg13_19 dX13_copyBuild_14 zw4140 ?_
  refine s_sipush dX13_copyBuild_17 (by decide +kernel) ?_
  refine s_imul dX13_copyBuild_20 ?_
  refine s_sipush dX13_copyBuild_21 (by decide +kernel) ?_
  refine s_copy hZ.1 (tt := 2) (ty := .byte) rfl rfl (fun c h => Or.inl ⟨_, rx_v_0 (z_chkY8 h)⟩) rfl (by decide) zw4062 zw1692 zw1691 zw433 dX13_copyBuild_24 ?_
  refine s_aload_n hZ.1 dX13_copyBuild_27 rfl ?_
  refine yg13_6 dX13_copyBuild_28 zw4127 ?_
  refine s_aload_n hZ.1 dX13_copyBuild_31 rfl ?_
  refine yg13_19 dX13_copyBuild_32 zw4140 ?_
  refine s_aload_n hZ.1 dX13_copyBuild_35 rfl ?_
  refine yg13_6 dX13_copyBuild_36 zw4127 ?_
  refine s_iload_n hZ.1 dX13_copyBuild_39 rfl ?_
  refine s_iald (tt := 0) rfl dX13_copyBuild_40 ?_
  refine s_iast hZ.1 (tt := 0) rfl dX13_copyBuild_41 ?_
  refine s_aload_n hZ.1 dX13_copyBuild_42 rfl ?_
  refine yg13_7 dX13_copyBuild_43 zw4128 ?_
  exact (wX13_copyBuild_46 hZ)
noncomputable def FX13_copyBuild : List Nat → rx_H → Option (Nat × rx_H) := rx_ent 3 vX13_copyBuild_0
theorem Met_X13_copyBuild (hZ : zO b e D A X) : rx_Met (zV b e D A X) 2 yX13_copyBuild mX13_copyBuild (FX13_copyBuild) := rx_entry hZ.1 (wX13_copyBuild_0 hZ) (by decide +kernel) rfl (fun h => by cases h)
abbrev mX13_heal : rx_M := (RX13, cX13_heal, 9, (some .int), false)
theorem vy_X13_heal : rx_Y (zV b e D A X) yX13_heal mX13_heal 3 := ⟨zw4075, zw431, by decide, by decide +kernel, by decide +kernel, by decide +kernel⟩
noncomputable def vX13_heal_224 (j : Nat → rx_K) : rx_K := o_ld rx_isI 4 (o_ret1 rx_isI)
set_option maxRecDepth 20000 in
theorem wX13_heal_224 (hZ : zO b e D A X) (j : Nat → rx_K) (hj : ∀ k pc, [27][k]? = some pc → rx_OK (zV b e D A X) mX13_heal 5 pc (j k)) : rx_OK (zV b e D A X) mX13_heal 5 224 (vX13_heal_224 j) := by
  unfold vX13_heal_224
  refine s_iload hZ.1 dX13_heal_224 ?_
  exact s_iret hZ.1 rfl dX13_heal_226
noncomputable def vX13_heal_218 (j : Nat → rx_K) : rx_K := o_inc 5 (1) ((j 0))
set_option maxRecDepth 20000 in
theorem wX13_heal_218 (hZ : zO b e D A X) (j : Nat → rx_K) (hj : ∀ k pc, [27][k]? = some pc → rx_OK (zV b e D A X) mX13_heal 5 pc (j k)) : rx_OK (zV b e D A X) mX13_heal 5 218 (vX13_heal_218 j) := by
  unfold vX13_heal_218
  refine s_iinc hZ.1 dX13_heal_218 (Nat.le_of_ble_eq_true rfl) ?_
  exact s_goto dX13_heal_221 (by decide) (hj 0 27 rfl)
noncomputable def vX13_heal_215 (j : Nat → rx_K) : rx_K := o_inc 4 (1) ((vX13_heal_218 j))
set_option maxRecDepth 20000 in
theorem wX13_heal_215 (hZ : zO b e D A X) (j : Nat → rx_K) (hj : ∀ k pc, [27][k]? = some pc → rx_OK (zV b e D A X) mX13_heal 5 pc (j k)) : rx_OK (zV b e D A X) mX13_heal 5 215 (vX13_heal_215 j) := by
  unfold vX13_heal_215
  refine s_iinc hZ.1 dX13_heal_215 (Nat.le_of_ble_eq_true rfl) ?_
  exact (wX13_heal_218 hZ j hj)
noncomputable def vX13_heal_200 (j : Nat → rx_K) : rx_K := o_ld rx_isR 0 (o_ld rx_isI 3 (o_ld rx_isI 8 (o_ld rx_isR 0 (o_getf 13 53 (o_ld rx_isI 6 (o_ald 1 (o_callV 3 13 FX13_bridge (o_pop ((vX13_heal_215 j))))))))))
set_option maxRecDepth 20000 in
theorem wX13_heal_200 (hZ : zO b e D A X) (j : Nat → rx_K) (hj : ∀ k pc, [27][k]? = some pc → rx_OK (zV b e D A X) mX13_heal 5 pc (j k)) : rx_OK (zV b e D A X) mX13_heal 5 200 (vX13_heal_200 j) := by
  unfold vX13_heal_200
  refine s_aload_n hZ.1 dX13_heal_200 rfl ?_
  refine s_iload_n hZ.1 dX13_heal_201 rfl ?_
  refine s_iload hZ.1 dX13_heal_202 ?_
  refine s_aload_n hZ.1 dX13_heal_204 rfl ?_
  refine yg13_53 dX13_heal_205 zw4174 ?_
  refine s_iload hZ.1 dX13_heal_208 ?_
  refine s_lald (tt := 1) rfl dX13_heal_210 ?_
  refine s_callV hZ.1 (Met_X13_bridge hZ) (Nat.le_of_ble_eq_true rfl) vy_X13_bridge zcl13 zw3303 zw252 (Or.inl zw3301) dX13_heal_211 ?_
  refine s_pop hZ.1 dX13_heal_214 ?_
  exact (wX13_heal_215 hZ j hj)
noncomputable def vX13_heal_194 (j : Nat → rx_K) : rx_K := o_ld rx_isI 3 (o_const 34359738352 (o_c2 rx_eq (vX13_heal_215 j) (vX13_heal_200 j)))
set_option maxRecDepth 20000 in
theorem wX13_heal_194 (hZ : zO b e D A X) (j : Nat → rx_K) (hj : ∀ k pc, [27][k]? = some pc → rx_OK (zV b e D A X) mX13_heal 5 pc (j k)) : rx_OK (zV b e D A X) mX13_heal 5 194 (vX13_heal_194 j) := by
  unfold vX13_heal_194
  refine s_iload_n hZ.1 dX13_heal_194 rfl ?_
  refine s_bipush dX13_heal_195 (by decide +kernel) ?_
  exact s_icmp_eq dX13_heal_197 (by decide) (wX13_heal_215 hZ j hj) (wX13_heal_200 hZ j hj)
noncomputable def vX13_heal_173 (j : Nat → rx_K) : rx_K := o_ld rx_isR 0 (o_ld rx_isR 0 (o_getf 13 53 (o_ld rx_isI 8 (o_ald 1 (o_ld rx_isR 0 (o_getf 13 53 (o_ld rx_isI 6 (o_ald 1 (o_callV 2 13 FX13_fits (o_c1 rx_eq (vX13_heal_218 j) (vX13_heal_194 j)))))))))))
set_option maxRecDepth 20000 in
theorem wX13_heal_173 (hZ : zO b e D A X) (j : Nat → rx_K) (hj : ∀ k pc, [27][k]? = some pc → rx_OK (zV b e D A X) mX13_heal 5 pc (j k)) : rx_OK (zV b e D A X) mX13_heal 5 173 (vX13_heal_173 j) := by
  unfold vX13_heal_173
  refine s_aload_n hZ.1 dX13_heal_173 rfl ?_
  refine s_aload_n hZ.1 dX13_heal_174 rfl ?_
  refine yg13_53 dX13_heal_175 zw4174 ?_
  refine s_iload hZ.1 dX13_heal_178 ?_
  refine s_lald (tt := 1) rfl dX13_heal_180 ?_
  refine s_aload_n hZ.1 dX13_heal_181 rfl ?_
  refine yg13_53 dX13_heal_182 zw4174 ?_
  refine s_iload hZ.1 dX13_heal_185 ?_
  refine s_lald (tt := 1) rfl dX13_heal_187 ?_
  refine s_callV hZ.1 (Met_X13_fits hZ) (Nat.le_of_ble_eq_true rfl) vy_X13_fits zcl13 zw3278 zw246 (Or.inl zw3276) dX13_heal_188 ?_
  exact s_if_eq dX13_heal_191 (by decide) (wX13_heal_218 hZ j hj) (wX13_heal_194 hZ j hj)
noncomputable def vX13_heal_160 (j : Nat → rx_K) : rx_K := o_ld rx_isR 0 (o_getf 13 53 (o_ld rx_isI 8 (o_ald 1 (o_callS 1 FX13_isC (o_c1 rx_eq (vX13_heal_218 j) (vX13_heal_173 j))))))
set_option maxRecDepth 20000 in
theorem wX13_heal_160 (hZ : zO b e D A X) (j : Nat → rx_K) (hj : ∀ k pc, [27][k]? = some pc → rx_OK (zV b e D A X) mX13_heal 5 pc (j k)) : rx_OK (zV b e D A X) mX13_heal 5 160 (vX13_heal_160 j) := by
  unfold vX13_heal_160
  refine s_aload_n hZ.1 dX13_heal_160 rfl ?_
  refine yg13_53 dX13_heal_161 zw4174 ?_
  refine s_iload hZ.1 dX13_heal_164 ?_
  refine s_lald (tt := 1) rfl dX13_heal_166 ?_
  refine s_callS hZ.1 (Met_X13_isC hZ) (Nat.le_of_ble_eq_true rfl) vy_X13_isC zw3239 (Or.inl zw3238) dX13_heal_167 ?_
  exact s_if_eq dX13_heal_170 (by decide) (wX13_heal_218 hZ j hj) (wX13_heal_173 hZ j hj)
noncomputable def vX13_heal_143 (j : Nat → rx_K) : rx_K := o_ld rx_isR 0 (o_getf 13 45 (o_ld rx_isI 6 (o_ald 3 (o_ld rx_isR 0 (o_getf 13 45 (o_ld rx_isI 8 (o_ald 3 (o_c2 rx_eq (vX13_heal_160 j) (vX13_heal_218 j)))))))))
set_option maxRecDepth 20000 in
theorem wX13_heal_143 (hZ : zO b e D A X) (j : Nat → rx_K) (hj : ∀ k pc, [27][k]? = some pc → rx_OK (zV b e D A X) mX13_heal 5 pc (j k)) : rx_OK (zV b e D A X) mX13_heal 5 143 (vX13_heal_143 j) := by
  unfold vX13_heal_143
  refine s_aload_n hZ.1 dX13_heal_143 rfl ?_
  refine yg13_45 dX13_heal_144 zw4166 ?_
  refine s_iload hZ.1 dX13_heal_147 ?_
  refine s_zald (tt := 3) rfl dX13_heal_149 ?_
  refine s_aload_n hZ.1 dX13_heal_150 rfl ?_
  refine yg13_45 dX13_heal_151 zw4166 ?_
  refine s_iload hZ.1 dX13_heal_154 ?_
  refine s_zald (tt := 3) rfl dX13_heal_156 ?_
  exact s_icmp_ne dX13_heal_157 (by decide) (wX13_heal_218 hZ j hj) (wX13_heal_160 hZ j hj)
noncomputable def vX13_heal_133 (j : Nat → rx_K) : rx_K := o_ld rx_isR 0 (o_getf 13 44 (o_ld rx_isI 8 (o_ald 0 (o_c1 rx_eq (vX13_heal_218 j) (vX13_heal_143 j)))))
set_option maxRecDepth 20000 in
theorem wX13_heal_133 (hZ : zO b e D A X) (j : Nat → rx_K) (hj : ∀ k pc, [27][k]? = some pc → rx_OK (zV b e D A X) mX13_heal 5 pc (j k)) : rx_OK (zV b e D A X) mX13_heal 5 133 (vX13_heal_133 j) := by
  unfold vX13_heal_133
  refine s_aload_n hZ.1 dX13_heal_133 rfl ?_
  refine yg13_44 dX13_heal_134 zw4165 ?_
  refine s_iload hZ.1 dX13_heal_137 ?_
  refine s_iald (tt := 0) rfl dX13_heal_139 ?_
  exact s_if_eq dX13_heal_140 (by decide) (wX13_heal_218 hZ j hj) (wX13_heal_143 hZ j hj)
noncomputable def vX13_heal_123 (j : Nat → rx_K) : rx_K := o_ld rx_isR 0 (o_getf 13 47 (o_ld rx_isI 8 (o_ald 3 (o_c1 rx_eq (vX13_heal_133 j) (vX13_heal_218 j)))))
set_option maxRecDepth 20000 in
theorem wX13_heal_123 (hZ : zO b e D A X) (j : Nat → rx_K) (hj : ∀ k pc, [27][k]? = some pc → rx_OK (zV b e D A X) mX13_heal 5 pc (j k)) : rx_OK (zV b e D A X) mX13_heal 5 123 (vX13_heal_123 j) := by
  unfold vX13_heal_123
  refine s_aload_n hZ.1 dX13_heal_123 rfl ?_
  refine yg13_47 dX13_heal_124 zw4168 ?_
  refine s_iload hZ.1 dX13_heal_127 ?_
  refine s_zald (tt := 3) rfl dX13_heal_129 ?_
  exact s_if_ne dX13_heal_130 (by decide) (wX13_heal_218 hZ j hj) (wX13_heal_133 hZ j hj)
noncomputable def vX13_heal_114 (j : Nat → rx_K) : rx_K := o_st rx_isI 8 (o_ld rx_isI 8 (o_const 34359738352 (o_c2 rx_eq (vX13_heal_218 j) (vX13_heal_123 j))))
set_option maxRecDepth 20000 in
theorem wX13_heal_114 (hZ : zO b e D A X) (j : Nat → rx_K) (hj : ∀ k pc, [27][k]? = some pc → rx_OK (zV b e D A X) mX13_heal 5 pc (j k)) : rx_OK (zV b e D A X) mX13_heal 5 114 (vX13_heal_114 j) := by
  unfold vX13_heal_114
  refine s_istore hZ.1 dX13_heal_114 (Nat.le_of_ble_eq_true rfl) ?_
  refine s_iload hZ.1 dX13_heal_116 ?_
  refine s_bipush dX13_heal_118 (by decide +kernel) ?_
  exact s_icmp_eq dX13_heal_120 (by decide) (wX13_heal_218 hZ j hj) (wX13_heal_123 hZ j hj)
noncomputable def vX13_heal_112 (j : Nat → rx_K) : rx_K := o_const 34359738352 ((vX13_heal_114 j))
set_option maxRecDepth 20000 in
theorem wX13_heal_112 (hZ : zO b e D A X) (j : Nat → rx_K) (hj : ∀ k pc, [27][k]? = some pc → rx_OK (zV b e D A X) mX13_heal 5 pc (j k)) : rx_OK (zV b e D A X) mX13_heal 5 112 (vX13_heal_112 j) := by
  unfold vX13_heal_112
  refine s_bipush dX13_heal_112 (by decide +kernel) ?_
  exact (wX13_heal_114 hZ j hj)
noncomputable def vX13_heal_102 (j : Nat → rx_K) : rx_K := o_ld rx_isR 0 (o_ld rx_isI 1 (o_ld rx_isI 6 (o_callV 2 13 FX13_alike ((vX13_heal_114 j)))))
set_option maxRecDepth 20000 in
theorem wX13_heal_102 (hZ : zO b e D A X) (j : Nat → rx_K) (hj : ∀ k pc, [27][k]? = some pc → rx_OK (zV b e D A X) mX13_heal 5 pc (j k)) : rx_OK (zV b e D A X) mX13_heal 5 102 (vX13_heal_102 j) := by
  unfold vX13_heal_102
  refine s_aload_n hZ.1 dX13_heal_102 rfl ?_
  refine s_iload_n hZ.1 dX13_heal_103 rfl ?_
  refine s_iload hZ.1 dX13_heal_104 ?_
  refine s_callV hZ.1 (Met_X13_alike hZ) (Nat.le_of_ble_eq_true rfl) vy_X13_alike zcl13 zw4028 zw395 (Or.inl zw4026) dX13_heal_106 ?_
  exact s_goto dX13_heal_109 (by decide) (wX13_heal_114 hZ j hj)
noncomputable def vX13_heal_95 (j : Nat → rx_K) : rx_K := o_st rx_isI 7 (o_ld rx_isI 7 (o_c1 rx_eq (vX13_heal_112 j) (vX13_heal_102 j)))
set_option maxRecDepth 20000 in
theorem wX13_heal_95 (hZ : zO b e D A X) (j : Nat → rx_K) (hj : ∀ k pc, [27][k]? = some pc → rx_OK (zV b e D A X) mX13_heal 5 pc (j k)) : rx_OK (zV b e D A X) mX13_heal 5 95 (vX13_heal_95 j) := by
  unfold vX13_heal_95
  refine s_istore hZ.1 dX13_heal_95 (Nat.le_of_ble_eq_true rfl) ?_
  refine s_iload hZ.1 dX13_heal_97 ?_
  exact s_if_eq dX13_heal_99 (by decide) (wX13_heal_112 hZ j hj) (wX13_heal_102 hZ j hj)
noncomputable def vX13_heal_94 (j : Nat → rx_K) : rx_K := o_const 0 ((vX13_heal_95 j))
set_option maxRecDepth 20000 in
theorem wX13_heal_94 (hZ : zO b e D A X) (j : Nat → rx_K) (hj : ∀ k pc, [27][k]? = some pc → rx_OK (zV b e D A X) mX13_heal 5 pc (j k)) : rx_OK (zV b e D A X) mX13_heal 5 94 (vX13_heal_94 j) := by
  unfold vX13_heal_94
  refine s_iconst dX13_heal_94 (by decide +kernel) ?_
  exact (wX13_heal_95 hZ j hj)
noncomputable def vX13_heal_90 (j : Nat → rx_K) : rx_K := o_const 8 ((vX13_heal_95 j))
set_option maxRecDepth 20000 in
theorem wX13_heal_90 (hZ : zO b e D A X) (j : Nat → rx_K) (hj : ∀ k pc, [27][k]? = some pc → rx_OK (zV b e D A X) mX13_heal 5 pc (j k)) : rx_OK (zV b e D A X) mX13_heal 5 90 (vX13_heal_90 j) := by
  unfold vX13_heal_90
  refine s_iconst dX13_heal_90 (by decide +kernel) ?_
  exact s_goto dX13_heal_91 (by decide) (wX13_heal_95 hZ j hj)
noncomputable def vX13_heal_78 (j : Nat → rx_K) : rx_K := o_ld rx_isR 0 (o_ld rx_isI 1 (o_ld rx_isI 6 (o_callV 2 13 FX13_ownMethod (o_const 34359738352 (o_c2 rx_eq (vX13_heal_90 j) (vX13_heal_94 j))))))
set_option maxRecDepth 20000 in
theorem wX13_heal_78 (hZ : zO b e D A X) (j : Nat → rx_K) (hj : ∀ k pc, [27][k]? = some pc → rx_OK (zV b e D A X) mX13_heal 5 pc (j k)) : rx_OK (zV b e D A X) mX13_heal 5 78 (vX13_heal_78 j) := by
  unfold vX13_heal_78
  refine s_aload_n hZ.1 dX13_heal_78 rfl ?_
  refine s_iload_n hZ.1 dX13_heal_79 rfl ?_
  refine s_iload hZ.1 dX13_heal_80 ?_
  refine s_callV hZ.1 (Met_X13_ownMethod hZ) (Nat.le_of_ble_eq_true rfl) vy_X13_ownMethod zcl13 zw3319 zw256 (Or.inl zw3317) dX13_heal_82 ?_
  refine s_bipush dX13_heal_85 (by decide +kernel) ?_
  exact s_icmp_ne dX13_heal_87 (by decide) (wX13_heal_94 hZ j hj) (wX13_heal_90 hZ j hj)
noncomputable def vX13_heal_68 (j : Nat → rx_K) : rx_K := o_ld rx_isR 0 (o_getf 13 44 (o_ld rx_isI 6 (o_ald 0 (o_c1 rx_eq (vX13_heal_94 j) (vX13_heal_78 j)))))
set_option maxRecDepth 20000 in
theorem wX13_heal_68 (hZ : zO b e D A X) (j : Nat → rx_K) (hj : ∀ k pc, [27][k]? = some pc → rx_OK (zV b e D A X) mX13_heal 5 pc (j k)) : rx_OK (zV b e D A X) mX13_heal 5 68 (vX13_heal_68 j) := by
  unfold vX13_heal_68
  refine s_aload_n hZ.1 dX13_heal_68 rfl ?_
  refine yg13_44 dX13_heal_69 zw4165 ?_
  refine s_iload hZ.1 dX13_heal_72 ?_
  refine s_iald (tt := 0) rfl dX13_heal_74 ?_
  exact s_if_eq dX13_heal_75 (by decide) (wX13_heal_94 hZ j hj) (wX13_heal_78 hZ j hj)
noncomputable def vX13_heal_58 (j : Nat → rx_K) : rx_K := o_ld rx_isR 0 (o_getf 13 49 (o_ld rx_isI 6 (o_ald 3 (o_c1 rx_eq (vX13_heal_68 j) (vX13_heal_94 j)))))
set_option maxRecDepth 20000 in
theorem wX13_heal_58 (hZ : zO b e D A X) (j : Nat → rx_K) (hj : ∀ k pc, [27][k]? = some pc → rx_OK (zV b e D A X) mX13_heal 5 pc (j k)) : rx_OK (zV b e D A X) mX13_heal 5 58 (vX13_heal_58 j) := by
  unfold vX13_heal_58
  refine s_aload_n hZ.1 dX13_heal_58 rfl ?_
  refine yg13_49 dX13_heal_59 zw4170 ?_
  refine s_iload hZ.1 dX13_heal_62 ?_
  refine s_zald (tt := 3) rfl dX13_heal_64 ?_
  exact s_if_ne dX13_heal_65 (by decide) (wX13_heal_94 hZ j hj) (wX13_heal_68 hZ j hj)
noncomputable def vX13_heal_38 (j : Nat → rx_K) : rx_K := o_ld rx_isI 2 (o_const 272 (o_bi (fun x y => x * y) (o_ld rx_isI 5 (o_bi (fun x y => x + y) (o_st rx_isI 6 (o_ld rx_isR 0 (o_getf 13 42 (o_ld rx_isI 6 (o_ald 0 (o_const 8 (o_c2 rx_eq (vX13_heal_58 j) (vX13_heal_94 j))))))))))))
set_option maxRecDepth 20000 in
theorem wX13_heal_38 (hZ : zO b e D A X) (j : Nat → rx_K) (hj : ∀ k pc, [27][k]? = some pc → rx_OK (zV b e D A X) mX13_heal 5 pc (j k)) : rx_OK (zV b e D A X) mX13_heal 5 38 (vX13_heal_38 j) := by
  unfold vX13_heal_38
  refine s_iload_n hZ.1 dX13_heal_38 rfl ?_
  refine s_bipush dX13_heal_39 (by decide +kernel) ?_
  refine s_imul dX13_heal_41 ?_
  refine s_iload hZ.1 dX13_heal_42 ?_
  refine s_iadd dX13_heal_44 ?_
  refine s_istore hZ.1 dX13_heal_45 (Nat.le_of_ble_eq_true rfl) ?_
  refine s_aload_n hZ.1 dX13_heal_47 rfl ?_
  refine yg13_42 dX13_heal_48 zw4163 ?_
  refine s_iload hZ.1 dX13_heal_51 ?_
  refine s_iald (tt := 0) rfl dX13_heal_53 ?_
  refine s_iconst dX13_heal_54 (by decide +kernel) ?_
  exact s_icmp_ne dX13_heal_55 (by decide) (wX13_heal_94 hZ j hj) (wX13_heal_58 hZ j hj)
noncomputable def vX13_heal_27 (j : Nat → rx_K) : rx_K := o_ld rx_isI 5 (o_ld rx_isR 0 (o_getf 13 41 (o_ld rx_isI 2 (o_ald 0 (o_c2 rx_lt (vX13_heal_38 j) (vX13_heal_224 j))))))
set_option maxRecDepth 20000 in
theorem wX13_heal_27 (hZ : zO b e D A X) (j : Nat → rx_K) (hj : ∀ k pc, [27][k]? = some pc → rx_OK (zV b e D A X) mX13_heal 5 pc (j k)) : rx_OK (zV b e D A X) mX13_heal 5 27 (vX13_heal_27 j) := by
  unfold vX13_heal_27
  refine s_iload hZ.1 dX13_heal_27 ?_
  refine s_aload_n hZ.1 dX13_heal_29 rfl ?_
  refine yg13_41 dX13_heal_30 zw4162 ?_
  refine s_iload_n hZ.1 dX13_heal_33 rfl ?_
  refine s_iald (tt := 0) rfl dX13_heal_34 ?_
  exact s_icmp_ge dX13_heal_35 (by decide) (wX13_heal_224 hZ j hj) (wX13_heal_38 hZ j hj)
noncomputable def vX13_heal_21 (j : Nat → rx_K) : rx_K := o_const 0 (o_st rx_isI 4 (o_const 0 (o_st rx_isI 5 ((vX13_heal_27 j)))))
set_option maxRecDepth 20000 in
theorem wX13_heal_21 (hZ : zO b e D A X) (j : Nat → rx_K) (hj : ∀ k pc, [27][k]? = some pc → rx_OK (zV b e D A X) mX13_heal 5 pc (j k)) : rx_OK (zV b e D A X) mX13_heal 5 21 (vX13_heal_21 j) := by
  unfold vX13_heal_21
  refine s_iconst dX13_heal_21 (by decide +kernel) ?_
  refine s_istore hZ.1 dX13_heal_22 (Nat.le_of_ble_eq_true rfl) ?_
  refine s_iconst dX13_heal_24 (by decide +kernel) ?_
  refine s_istore hZ.1 dX13_heal_25 (Nat.le_of_ble_eq_true rfl) ?_
  exact (wX13_heal_27 hZ j hj)
noncomputable def vX13_heal_19 (j : Nat → rx_K) : rx_K := o_const 0 (o_ret1 rx_isI)
set_option maxRecDepth 20000 in
theorem wX13_heal_19 (hZ : zO b e D A X) (j : Nat → rx_K) (hj : ∀ k pc, [27][k]? = some pc → rx_OK (zV b e D A X) mX13_heal 5 pc (j k)) : rx_OK (zV b e D A X) mX13_heal 5 19 (vX13_heal_19 j) := by
  unfold vX13_heal_19
  refine s_iconst dX13_heal_19 (by decide +kernel) ?_
  exact s_iret hZ.1 rfl dX13_heal_20
noncomputable def vX13_heal_6 (j : Nat → rx_K) : rx_K := o_ld rx_isR 0 (o_ld rx_isI 2 (o_callV 1 13 FX13_isFace (o_ld rx_isR 0 (o_ld rx_isI 1 (o_callV 1 13 FX13_isFace (o_c2 rx_eq (vX13_heal_21 j) (vX13_heal_19 j)))))))
set_option maxRecDepth 20000 in
theorem wX13_heal_6 (hZ : zO b e D A X) (j : Nat → rx_K) (hj : ∀ k pc, [27][k]? = some pc → rx_OK (zV b e D A X) mX13_heal 5 pc (j k)) : rx_OK (zV b e D A X) mX13_heal 5 6 (vX13_heal_6 j) := by
  unfold vX13_heal_6
  refine s_aload_n hZ.1 dX13_heal_6 rfl ?_
  refine s_iload_n hZ.1 dX13_heal_7 rfl ?_
  refine s_callV hZ.1 (Met_X13_isFace hZ) (Nat.le_of_ble_eq_true rfl) vy_X13_isFace zcl13 zw3192 zw227 (Or.inl zw3190) dX13_heal_8 ?_
  refine s_aload_n hZ.1 dX13_heal_11 rfl ?_
  refine s_iload_n hZ.1 dX13_heal_12 rfl ?_
  refine s_callV hZ.1 (Met_X13_isFace hZ) (Nat.le_of_ble_eq_true rfl) vy_X13_isFace zcl13 zw3192 zw227 (Or.inl zw3190) dX13_heal_13 ?_
  exact s_icmp_eq dX13_heal_16 (by decide) (wX13_heal_21 hZ j hj) (wX13_heal_19 hZ j hj)
noncomputable def vX13_heal_0 (j : Nat → rx_K) : rx_K := o_ld rx_isI 2 (o_const 34359738352 (o_c2 rx_eq (vX13_heal_19 j) (vX13_heal_6 j)))
set_option maxRecDepth 20000 in
theorem wX13_heal_0 (hZ : zO b e D A X) (j : Nat → rx_K) (hj : ∀ k pc, [27][k]? = some pc → rx_OK (zV b e D A X) mX13_heal 5 pc (j k)) : rx_OK (zV b e D A X) mX13_heal 5 0 (vX13_heal_0 j) := by
  unfold vX13_heal_0
  refine s_iload_n hZ.1 dX13_heal_0 rfl ?_
  refine s_bipush dX13_heal_1 (by decide +kernel) ?_
  exact s_icmp_eq dX13_heal_3 (by decide) (wX13_heal_19 hZ j hj) (wX13_heal_6 hZ j hj)
noncomputable def vhX13_heal (j : Nat → rx_K) : List rx_K := [vX13_heal_27 j]
theorem vlX13_heal (hZ : zO b e D A X) : ∀ n k pc, [27][k]? = some pc → rx_OK (zV b e D A X) mX13_heal 5 pc (rx_J (vhX13_heal) n k) := rx_loop fun j hj k pc h => by
  match k, h with
  | 0, h =>
    have e9 := Option.some.inj (show some 27 = some pc from h)
    subst e9
    exact wX13_heal_27 hZ j hj
  | _ + 1, h => exact absurd h (by simp)
noncomputable def FX13_heal : List Nat → rx_H → Option (Nat × rx_H) := rx_ent 9 (vX13_heal_0 (rx_J (vhX13_heal) 4000000000))
theorem Met_X13_heal (hZ : zO b e D A X) : rx_Met (zV b e D A X) 5 yX13_heal mX13_heal (FX13_heal) := rx_entry hZ.1 (wX13_heal_0 hZ _ (vlX13_heal hZ 4000000000)) (by decide +kernel) rfl (fun h => by cases h)
abbrev mX13_copyUse : rx_M := (RX13, cX13_copyUse, 4, (some .int), false)
theorem vy_X13_copyUse : rx_Y (zV b e D A X) yX13_copyUse mX13_copyUse 1 := ⟨zw4103, zw431, by decide, by decide +kernel, by decide +kernel, by decide +kernel⟩
noncomputable def vX13_copyUse_103 (j : Nat → rx_K) : rx_K := o_ld rx_isR 0 (o_ld rx_isI 2 (o_callV 1 13 FX13_keepUse (o_ret1 rx_isI)))
set_option maxRecDepth 20000 in
theorem wX13_copyUse_103 (hZ : zO b e D A X) (j : Nat → rx_K) (hj : ∀ k pc, [67][k]? = some pc → rx_OK (zV b e D A X) mX13_copyUse 1 pc (j k)) : rx_OK (zV b e D A X) mX13_copyUse 1 103 (vX13_copyUse_103 j) := by
  unfold vX13_copyUse_103
  refine s_aload_n hZ.1 dX13_copyUse_103 rfl ?_
  refine s_iload_n hZ.1 dX13_copyUse_104 rfl ?_
  refine s_callV hZ.1 (Met_X13_keepUse hZ) (Nat.le_of_ble_eq_true rfl) vy_X13_keepUse zcl13 zw3521 zw304 (Or.inl zw3519) dX13_copyUse_105 ?_
  exact s_iret hZ.1 rfl dX13_copyUse_108
noncomputable def vX13_copyUse_77 (j : Nat → rx_K) : rx_K := o_ld rx_isR 0 (o_getf 13 125 (o_const 32 (o_ld rx_isI 2 (o_bi (fun x y => x * y) (o_ld rx_isI 3 (o_bi (fun x y => x + y) (o_ld rx_isR 0 (o_getf 13 125 (o_const 32 (o_ld rx_isI 1 (o_bi (fun x y => x * y) (o_ld rx_isI 3 (o_bi (fun x y => x + y) (o_ald 1 (o_ast 1 (fun v => v) rx_isL (o_inc 3 (1) ((j 0))))))))))))))))))
set_option maxRecDepth 20000 in
theorem wX13_copyUse_77 (hZ : zO b e D A X) (j : Nat → rx_K) (hj : ∀ k pc, [67][k]? = some pc → rx_OK (zV b e D A X) mX13_copyUse 1 pc (j k)) : rx_OK (zV b e D A X) mX13_copyUse 1 77 (vX13_copyUse_77 j) := by
  unfold vX13_copyUse_77
  refine s_aload_n hZ.1 dX13_copyUse_77 rfl ?_
  refine yg13_125 dX13_copyUse_78 zw4245 ?_
  refine s_iconst dX13_copyUse_81 (by decide +kernel) ?_
  refine s_iload_n hZ.1 dX13_copyUse_82 rfl ?_
  refine s_imul dX13_copyUse_83 ?_
  refine s_iload_n hZ.1 dX13_copyUse_84 rfl ?_
  refine s_iadd dX13_copyUse_85 ?_
  refine s_aload_n hZ.1 dX13_copyUse_86 rfl ?_
  refine yg13_125 dX13_copyUse_87 zw4245 ?_
  refine s_iconst dX13_copyUse_90 (by decide +kernel) ?_
  refine s_iload_n hZ.1 dX13_copyUse_91 rfl ?_
  refine s_imul dX13_copyUse_92 ?_
  refine s_iload_n hZ.1 dX13_copyUse_93 rfl ?_
  refine s_iadd dX13_copyUse_94 ?_
  refine s_lald (tt := 1) rfl dX13_copyUse_95 ?_
  refine s_last (tt := 1) rfl dX13_copyUse_96 ?_
  refine s_iinc hZ.1 dX13_copyUse_97 (Nat.le_of_ble_eq_true rfl) ?_
  exact s_goto dX13_copyUse_100 (by decide) (hj 0 67 rfl)
noncomputable def vX13_copyUse_67 (j : Nat → rx_K) : rx_K := o_ld rx_isI 3 (o_ld rx_isR 0 (o_getf 13 124 (o_ld rx_isI 1 (o_ald 0 (o_c2 rx_lt (vX13_copyUse_77 j) (vX13_copyUse_103 j))))))
set_option maxRecDepth 20000 in
theorem wX13_copyUse_67 (hZ : zO b e D A X) (j : Nat → rx_K) (hj : ∀ k pc, [67][k]? = some pc → rx_OK (zV b e D A X) mX13_copyUse 1 pc (j k)) : rx_OK (zV b e D A X) mX13_copyUse 1 67 (vX13_copyUse_67 j) := by
  unfold vX13_copyUse_67
  refine s_iload_n hZ.1 dX13_copyUse_67 rfl ?_
  refine s_aload_n hZ.1 dX13_copyUse_68 rfl ?_
  refine yg13_124 dX13_copyUse_69 zw4244 ?_
  refine s_iload_n hZ.1 dX13_copyUse_72 rfl ?_
  refine s_iald (tt := 0) rfl dX13_copyUse_73 ?_
  exact s_icmp_ge dX13_copyUse_74 (by decide) (wX13_copyUse_103 hZ j hj) (wX13_copyUse_77 hZ j hj)
noncomputable def vX13_copyUse_38 (j : Nat → rx_K) : rx_K := o_ld rx_isI 1 (o_ald 1 (o_ast 1 (fun v => v) rx_isL (o_ld rx_isR 0 (o_getf 13 127 (o_ld rx_isI 2 (o_ld rx_isR 0 (o_getf 13 127 (o_ld rx_isI 1 (o_ald 0 (o_ast 0 (fun v => v) rx_isI (o_ld rx_isR 0 (o_getf 13 124 (o_ld rx_isI 2 (o_ld rx_isR 0 (o_getf 13 124 (o_ld rx_isI 1 (o_ald 0 (o_ast 0 (fun v => v) rx_isI (o_const 0 (o_st rx_isI 3 ((vX13_copyUse_67 j))))))))))))))))))))))
set_option maxRecDepth 20000 in
theorem wX13_copyUse_38 (hZ : zO b e D A X) (j : Nat → rx_K) (hj : ∀ k pc, [67][k]? = some pc → rx_OK (zV b e D A X) mX13_copyUse 1 pc (j k)) : rx_OK (zV b e D A X) mX13_copyUse 1 38 (vX13_copyUse_38 j) := by
  unfold vX13_copyUse_38
  refine s_iload_n hZ.1 dX13_copyUse_38 rfl ?_
  refine s_lald (tt := 1) rfl dX13_copyUse_39 ?_
  refine s_last (tt := 1) rfl dX13_copyUse_40 ?_
  refine s_aload_n hZ.1 dX13_copyUse_41 rfl ?_
  refine yg13_127 dX13_copyUse_42 zw4247 ?_
  refine s_iload_n hZ.1 dX13_copyUse_45 rfl ?_
  refine s_aload_n hZ.1 dX13_copyUse_46 rfl ?_
  refine yg13_127 dX13_copyUse_47 zw4247 ?_
  refine s_iload_n hZ.1 dX13_copyUse_50 rfl ?_
  refine s_iald (tt := 0) rfl dX13_copyUse_51 ?_
  refine s_iast hZ.1 (tt := 0) rfl dX13_copyUse_52 ?_
  refine s_aload_n hZ.1 dX13_copyUse_53 rfl ?_
  refine yg13_124 dX13_copyUse_54 zw4244 ?_
  refine s_iload_n hZ.1 dX13_copyUse_57 rfl ?_
  refine s_aload_n hZ.1 dX13_copyUse_58 rfl ?_
  refine yg13_124 dX13_copyUse_59 zw4244 ?_
  refine s_iload_n hZ.1 dX13_copyUse_62 rfl ?_
  refine s_iald (tt := 0) rfl dX13_copyUse_63 ?_
  refine s_iast hZ.1 (tt := 0) rfl dX13_copyUse_64 ?_
  refine s_iconst dX13_copyUse_65 (by decide +kernel) ?_
  refine s_istore_n hZ.1 dX13_copyUse_66 rfl (Nat.le_of_ble_eq_true rfl) ?_
  exact (wX13_copyUse_67 hZ j hj)
noncomputable def vX13_copyUse_0 (j : Nat → rx_K) : rx_K := o_ld rx_isR 0 (o_ld rx_isR 0 (o_getf 13 119 (o_ld rx_isI 1 (o_ald 0 (o_ld rx_isR 0 (o_getf 13 121 (o_ld rx_isI 1 (o_ald 1 (o_ld rx_isR 0 (o_getf 13 122 (o_ld rx_isI 1 (o_ald 1 (o_ld rx_isR 0 (o_getf 13 123 (o_ld rx_isI 1 (o_ald 1 (o_callV 4 13 FX13_nextUse (o_st rx_isI 2 (o_ld rx_isR 0 (o_getf 13 126 (o_ld rx_isI 2 (o_ld rx_isR 0 (o_getf 13 126 ((vX13_copyUse_38 j)))))))))))))))))))))))))
set_option maxRecDepth 20000 in
theorem wX13_copyUse_0 (hZ : zO b e D A X) (j : Nat → rx_K) (hj : ∀ k pc, [67][k]? = some pc → rx_OK (zV b e D A X) mX13_copyUse 1 pc (j k)) : rx_OK (zV b e D A X) mX13_copyUse 1 0 (vX13_copyUse_0 j) := by
  unfold vX13_copyUse_0
  refine s_aload_n hZ.1 dX13_copyUse_0 rfl ?_
  refine s_aload_n hZ.1 dX13_copyUse_1 rfl ?_
  refine yg13_119 dX13_copyUse_2 zw4239 ?_
  refine s_iload_n hZ.1 dX13_copyUse_5 rfl ?_
  refine s_iald (tt := 0) rfl dX13_copyUse_6 ?_
  refine s_aload_n hZ.1 dX13_copyUse_7 rfl ?_
  refine yg13_121 dX13_copyUse_8 zw4241 ?_
  refine s_iload_n hZ.1 dX13_copyUse_11 rfl ?_
  refine s_lald (tt := 1) rfl dX13_copyUse_12 ?_
  refine s_aload_n hZ.1 dX13_copyUse_13 rfl ?_
  refine yg13_122 dX13_copyUse_14 zw4242 ?_
  refine s_iload_n hZ.1 dX13_copyUse_17 rfl ?_
  refine s_lald (tt := 1) rfl dX13_copyUse_18 ?_
  refine s_aload_n hZ.1 dX13_copyUse_19 rfl ?_
  refine yg13_123 dX13_copyUse_20 zw4243 ?_
  refine s_iload_n hZ.1 dX13_copyUse_23 rfl ?_
  refine s_lald (tt := 1) rfl dX13_copyUse_24 ?_
  refine s_callV hZ.1 (Met_X13_nextUse hZ) (Nat.le_of_ble_eq_true rfl) vy_X13_nextUse zcl13 zw3517 zw303 (Or.inl zw3515) dX13_copyUse_25 ?_
  refine s_istore_n hZ.1 dX13_copyUse_28 rfl (Nat.le_of_ble_eq_true rfl) ?_
  refine s_aload_n hZ.1 dX13_copyUse_29 rfl ?_
  refine yg13_126 dX13_copyUse_30 zw4246 ?_
  refine s_iload_n hZ.1 dX13_copyUse_33 rfl ?_
  refine s_aload_n hZ.1 dX13_copyUse_34 rfl ?_
  refine yg13_126 dX13_copyUse_35 zw4246 ?_
  exact (wX13_copyUse_38 hZ j hj)
noncomputable def vhX13_copyUse (j : Nat → rx_K) : List rx_K := [vX13_copyUse_67 j]
theorem vlX13_copyUse (hZ : zO b e D A X) : ∀ n k pc, [67][k]? = some pc → rx_OK (zV b e D A X) mX13_copyUse 1 pc (rx_J (vhX13_copyUse) n k) := rx_loop fun j hj k pc h => by
  match k, h with
  | 0, h =>
    have e9 := Option.some.inj (show some 67 = some pc from h)
    subst e9
    exact wX13_copyUse_67 hZ j hj
  | _ + 1, h => exact absurd h (by simp)
noncomputable def FX13_copyUse : List Nat → rx_H → Option (Nat × rx_H) := rx_ent 4 (vX13_copyUse_0 (rx_J (vhX13_copyUse) 4000000000))
theorem Met_X13_copyUse (hZ : zO b e D A X) : rx_Met (zV b e D A X) 1 yX13_copyUse mX13_copyUse (FX13_copyUse) := rx_entry hZ.1 (wX13_copyUse_0 hZ _ (vlX13_copyUse hZ 4000000000)) (by decide +kernel) rfl (fun h => by cases h)
abbrev mX13_weaveUses : rx_M := (RX13, cX13_weaveUses, 6, none, false)
theorem vy_X13_weaveUses : rx_Y (zV b e D A X) yX13_weaveUses mX13_weaveUses 1 := ⟨zw4099, zw431, by decide, by decide +kernel, by decide +kernel, by decide +kernel⟩
noncomputable def vX13_weaveUses_333 (j : Nat → rx_K) : rx_K := o_ret0
set_option maxRecDepth 20000 in
theorem wX13_weaveUses_333 (hZ : zO b e D A X) (j : Nat → rx_K) (hj : ∀ k pc, [12, 43, 102, 225][k]? = some pc → rx_OK (zV b e D A X) mX13_weaveUses 2 pc (j k)) : rx_OK (zV b e D A X) mX13_weaveUses 2 333 (vX13_weaveUses_333 j) := by
  unfold vX13_weaveUses_333
  exact s_vret rfl dX13_weaveUses_333
noncomputable def vX13_weaveUses_326 (j : Nat → rx_K) : rx_K := o_ast 0 (fun v => v) rx_isI (o_inc 2 (1) ((j 3)))
set_option maxRecDepth 20000 in
theorem wX13_weaveUses_326 (hZ : zO b e D A X) (j : Nat → rx_K) (hj : ∀ k pc, [12, 43, 102, 225][k]? = some pc → rx_OK (zV b e D A X) mX13_weaveUses 2 pc (j k)) : rx_OK (zV b e D A X) mX13_weaveUses 2 326 (vX13_weaveUses_326 j) := by
  unfold vX13_weaveUses_326
  refine s_iast hZ.1 (tt := 0) rfl dX13_weaveUses_326 ?_
  refine s_iinc hZ.1 dX13_weaveUses_327 (Nat.le_of_ble_eq_true rfl) ?_
  exact s_goto dX13_weaveUses_330 (by decide) (hj 3 225 rfl)
noncomputable def vX13_weaveUses_309 (j : Nat → rx_K) : rx_K := o_ld rx_isR 0 (o_getf 13 179 (o_ld rx_isR 0 (o_getf 13 88 (o_ld rx_isI 3 (o_ald 0 (o_ld rx_isI 1 (o_const 14400 (o_bi (fun x y => x * y) (o_bi (fun x y => x - y) (o_ald 0 ((vX13_weaveUses_326 j))))))))))))
set_option maxRecDepth 20000 in
theorem wX13_weaveUses_309 (hZ : zO b e D A X) (j : Nat → rx_K) (hj : ∀ k pc, [12, 43, 102, 225][k]? = some pc → rx_OK (zV b e D A X) mX13_weaveUses 2 pc (j k)) : rx_OK (zV b e D A X) mX13_weaveUses 2 309 (vX13_weaveUses_309 j) := by
  unfold vX13_weaveUses_309
  refine s_aload_n hZ.1 dX13_weaveUses_309 rfl ?_
  refine yg13_179 dX13_weaveUses_310 zw4299 ?_
  refine s_aload_n hZ.1 dX13_weaveUses_313 rfl ?_
  refine yg13_88 dX13_weaveUses_314 zw4209 ?_
  refine s_iload_n hZ.1 dX13_weaveUses_317 rfl ?_
  refine s_iald (tt := 0) rfl dX13_weaveUses_318 ?_
  refine s_iload_n hZ.1 dX13_weaveUses_319 rfl ?_
  refine s_sipush dX13_weaveUses_320 (by decide +kernel) ?_
  refine s_imul dX13_weaveUses_323 ?_
  refine s_isub dX13_weaveUses_324 ?_
  refine s_iald (tt := 0) rfl dX13_weaveUses_325 ?_
  exact (wX13_weaveUses_326 hZ j hj)
noncomputable def vX13_weaveUses_304 (j : Nat → rx_K) : rx_K := o_const 34359738352 ((vX13_weaveUses_326 j))
set_option maxRecDepth 20000 in
theorem wX13_weaveUses_304 (hZ : zO b e D A X) (j : Nat → rx_K) (hj : ∀ k pc, [12, 43, 102, 225][k]? = some pc → rx_OK (zV b e D A X) mX13_weaveUses 2 pc (j k)) : rx_OK (zV b e D A X) mX13_weaveUses 2 304 (vX13_weaveUses_304 j) := by
  unfold vX13_weaveUses_304
  refine s_bipush dX13_weaveUses_304 (by decide +kernel) ?_
  exact s_goto dX13_weaveUses_306 (by decide) (wX13_weaveUses_326 hZ j hj)
noncomputable def vX13_weaveUses_287 (j : Nat → rx_K) : rx_K := o_ast 0 (fun v => v) rx_isI (o_ld rx_isR 0 (o_getf 13 88 (o_ld rx_isI 3 (o_ld rx_isR 0 (o_getf 13 88 (o_ld rx_isI 3 (o_ald 0 (o_const 34359738352 (o_c2 rx_eq (vX13_weaveUses_304 j) (vX13_weaveUses_309 j))))))))))
set_option maxRecDepth 20000 in
theorem wX13_weaveUses_287 (hZ : zO b e D A X) (j : Nat → rx_K) (hj : ∀ k pc, [12, 43, 102, 225][k]? = some pc → rx_OK (zV b e D A X) mX13_weaveUses 2 pc (j k)) : rx_OK (zV b e D A X) mX13_weaveUses 2 287 (vX13_weaveUses_287 j) := by
  unfold vX13_weaveUses_287
  refine s_iast hZ.1 (tt := 0) rfl dX13_weaveUses_287 ?_
  refine s_aload_n hZ.1 dX13_weaveUses_288 rfl ?_
  refine yg13_88 dX13_weaveUses_289 zw4209 ?_
  refine s_iload_n hZ.1 dX13_weaveUses_292 rfl ?_
  refine s_aload_n hZ.1 dX13_weaveUses_293 rfl ?_
  refine yg13_88 dX13_weaveUses_294 zw4209 ?_
  refine s_iload_n hZ.1 dX13_weaveUses_297 rfl ?_
  refine s_iald (tt := 0) rfl dX13_weaveUses_298 ?_
  refine s_bipush dX13_weaveUses_299 (by decide +kernel) ?_
  exact s_icmp_ne dX13_weaveUses_301 (by decide) (wX13_weaveUses_309 hZ j hj) (wX13_weaveUses_304 hZ j hj)
noncomputable def vX13_weaveUses_270 (j : Nat → rx_K) : rx_K := o_ld rx_isR 0 (o_getf 13 179 (o_ld rx_isR 0 (o_getf 13 87 (o_ld rx_isI 3 (o_ald 0 (o_ld rx_isI 1 (o_const 14400 (o_bi (fun x y => x * y) (o_bi (fun x y => x - y) (o_ald 0 ((vX13_weaveUses_287 j))))))))))))
set_option maxRecDepth 20000 in
theorem wX13_weaveUses_270 (hZ : zO b e D A X) (j : Nat → rx_K) (hj : ∀ k pc, [12, 43, 102, 225][k]? = some pc → rx_OK (zV b e D A X) mX13_weaveUses 2 pc (j k)) : rx_OK (zV b e D A X) mX13_weaveUses 2 270 (vX13_weaveUses_270 j) := by
  unfold vX13_weaveUses_270
  refine s_aload_n hZ.1 dX13_weaveUses_270 rfl ?_
  refine yg13_179 dX13_weaveUses_271 zw4299 ?_
  refine s_aload_n hZ.1 dX13_weaveUses_274 rfl ?_
  refine yg13_87 dX13_weaveUses_275 zw4208 ?_
  refine s_iload_n hZ.1 dX13_weaveUses_278 rfl ?_
  refine s_iald (tt := 0) rfl dX13_weaveUses_279 ?_
  refine s_iload_n hZ.1 dX13_weaveUses_280 rfl ?_
  refine s_sipush dX13_weaveUses_281 (by decide +kernel) ?_
  refine s_imul dX13_weaveUses_284 ?_
  refine s_isub dX13_weaveUses_285 ?_
  refine s_iald (tt := 0) rfl dX13_weaveUses_286 ?_
  exact (wX13_weaveUses_287 hZ j hj)
noncomputable def vX13_weaveUses_265 (j : Nat → rx_K) : rx_K := o_const 34359738352 ((vX13_weaveUses_287 j))
set_option maxRecDepth 20000 in
theorem wX13_weaveUses_265 (hZ : zO b e D A X) (j : Nat → rx_K) (hj : ∀ k pc, [12, 43, 102, 225][k]? = some pc → rx_OK (zV b e D A X) mX13_weaveUses 2 pc (j k)) : rx_OK (zV b e D A X) mX13_weaveUses 2 265 (vX13_weaveUses_265 j) := by
  unfold vX13_weaveUses_265
  refine s_bipush dX13_weaveUses_265 (by decide +kernel) ?_
  exact s_goto dX13_weaveUses_267 (by decide) (wX13_weaveUses_287 hZ j hj)
noncomputable def vX13_weaveUses_238 (j : Nat → rx_K) : rx_K := o_ld rx_isR 0 (o_getf 13 19 (o_const 13600 (o_bi (fun x y => x * y) (o_ld rx_isI 2 (o_bi (fun x y => x + y) (o_st rx_isI 3 (o_ld rx_isR 0 (o_getf 13 87 (o_ld rx_isI 3 (o_ld rx_isR 0 (o_getf 13 87 (o_ld rx_isI 3 (o_ald 0 (o_const 34359738352 (o_c2 rx_eq (vX13_weaveUses_265 j) (vX13_weaveUses_270 j))))))))))))))))
set_option maxRecDepth 20000 in
theorem wX13_weaveUses_238 (hZ : zO b e D A X) (j : Nat → rx_K) (hj : ∀ k pc, [12, 43, 102, 225][k]? = some pc → rx_OK (zV b e D A X) mX13_weaveUses 2 pc (j k)) : rx_OK (zV b e D A X) mX13_weaveUses 2 238 (vX13_weaveUses_238 j) := by
  unfold vX13_weaveUses_238
  refine s_aload_n hZ.1 dX13_weaveUses_238 rfl ?_
  refine yg13_19 dX13_weaveUses_239 zw4140 ?_
  refine s_sipush dX13_weaveUses_242 (by decide +kernel) ?_
  refine s_imul dX13_weaveUses_245 ?_
  refine s_iload_n hZ.1 dX13_weaveUses_246 rfl ?_
  refine s_iadd dX13_weaveUses_247 ?_
  refine s_istore_n hZ.1 dX13_weaveUses_248 rfl (Nat.le_of_ble_eq_true rfl) ?_
  refine s_aload_n hZ.1 dX13_weaveUses_249 rfl ?_
  refine yg13_87 dX13_weaveUses_250 zw4208 ?_
  refine s_iload_n hZ.1 dX13_weaveUses_253 rfl ?_
  refine s_aload_n hZ.1 dX13_weaveUses_254 rfl ?_
  refine yg13_87 dX13_weaveUses_255 zw4208 ?_
  refine s_iload_n hZ.1 dX13_weaveUses_258 rfl ?_
  refine s_iald (tt := 0) rfl dX13_weaveUses_259 ?_
  refine s_bipush dX13_weaveUses_260 (by decide +kernel) ?_
  exact s_icmp_ne dX13_weaveUses_262 (by decide) (wX13_weaveUses_270 hZ j hj) (wX13_weaveUses_265 hZ j hj)
noncomputable def vX13_weaveUses_225 (j : Nat → rx_K) : rx_K := o_ld rx_isI 2 (o_ld rx_isR 0 (o_getf 13 69 (o_ld rx_isR 0 (o_getf 13 19 (o_ald 0 (o_c2 rx_lt (vX13_weaveUses_238 j) (vX13_weaveUses_333 j)))))))
set_option maxRecDepth 20000 in
theorem wX13_weaveUses_225 (hZ : zO b e D A X) (j : Nat → rx_K) (hj : ∀ k pc, [12, 43, 102, 225][k]? = some pc → rx_OK (zV b e D A X) mX13_weaveUses 2 pc (j k)) : rx_OK (zV b e D A X) mX13_weaveUses 2 225 (vX13_weaveUses_225 j) := by
  unfold vX13_weaveUses_225
  refine s_iload_n hZ.1 dX13_weaveUses_225 rfl ?_
  refine s_aload_n hZ.1 dX13_weaveUses_226 rfl ?_
  refine yg13_69 dX13_weaveUses_227 zw4190 ?_
  refine s_aload_n hZ.1 dX13_weaveUses_230 rfl ?_
  refine yg13_19 dX13_weaveUses_231 zw4140 ?_
  refine s_iald (tt := 0) rfl dX13_weaveUses_234 ?_
  exact s_icmp_ge dX13_weaveUses_235 (by decide) (wX13_weaveUses_333 hZ j hj) (wX13_weaveUses_238 hZ j hj)
noncomputable def vX13_weaveUses_223 (j : Nat → rx_K) : rx_K := o_const 0 (o_st rx_isI 2 ((vX13_weaveUses_225 j)))
set_option maxRecDepth 20000 in
theorem wX13_weaveUses_223 (hZ : zO b e D A X) (j : Nat → rx_K) (hj : ∀ k pc, [12, 43, 102, 225][k]? = some pc → rx_OK (zV b e D A X) mX13_weaveUses 2 pc (j k)) : rx_OK (zV b e D A X) mX13_weaveUses 2 223 (vX13_weaveUses_223 j) := by
  unfold vX13_weaveUses_223
  refine s_iconst dX13_weaveUses_223 (by decide +kernel) ?_
  refine s_istore_n hZ.1 dX13_weaveUses_224 rfl (Nat.le_of_ble_eq_true rfl) ?_
  exact (wX13_weaveUses_225 hZ j hj)
noncomputable def vX13_weaveUses_217 (j : Nat → rx_K) : rx_K := o_inc 2 (1) ((j 0))
set_option maxRecDepth 20000 in
theorem wX13_weaveUses_217 (hZ : zO b e D A X) (j : Nat → rx_K) (hj : ∀ k pc, [12, 43, 102, 225][k]? = some pc → rx_OK (zV b e D A X) mX13_weaveUses 2 pc (j k)) : rx_OK (zV b e D A X) mX13_weaveUses 2 217 (vX13_weaveUses_217 j) := by
  unfold vX13_weaveUses_217
  refine s_iinc hZ.1 dX13_weaveUses_217 (Nat.le_of_ble_eq_true rfl) ?_
  exact s_goto dX13_weaveUses_220 (by decide) (hj 0 12 rfl)
noncomputable def vX13_weaveUses_211 (j : Nat → rx_K) : rx_K := o_inc 4 (1) ((j 2))
set_option maxRecDepth 20000 in
theorem wX13_weaveUses_211 (hZ : zO b e D A X) (j : Nat → rx_K) (hj : ∀ k pc, [12, 43, 102, 225][k]? = some pc → rx_OK (zV b e D A X) mX13_weaveUses 2 pc (j k)) : rx_OK (zV b e D A X) mX13_weaveUses 2 211 (vX13_weaveUses_211 j) := by
  unfold vX13_weaveUses_211
  refine s_iinc hZ.1 dX13_weaveUses_211 (Nat.le_of_ble_eq_true rfl) ?_
  exact s_goto dX13_weaveUses_214 (by decide) (hj 2 102 rfl)
noncomputable def vX13_weaveUses_173 (j : Nat → rx_K) : rx_K := o_ld rx_isR 0 (o_getf 13 67 (o_ld rx_isI 5 (o_ld rx_isR 0 (o_getf 13 19 (o_const 14400 (o_bi (fun x y => x * y) (o_ld rx_isR 0 (o_getf 13 179 (o_ld rx_isR 0 (o_getf 13 67 (o_ld rx_isI 5 (o_ald 0 (o_ld rx_isI 1 (o_const 14400 (o_bi (fun x y => x * y) (o_bi (fun x y => x - y) (o_ald 0 (o_const 14400 (o_bin (fun x y => x - x / y * y) (o_bi (fun x y => x + y) (o_ast 0 (fun v => v) rx_isI ((vX13_weaveUses_211 j)))))))))))))))))))))))
set_option maxRecDepth 20000 in
theorem wX13_weaveUses_173 (hZ : zO b e D A X) (j : Nat → rx_K) (hj : ∀ k pc, [12, 43, 102, 225][k]? = some pc → rx_OK (zV b e D A X) mX13_weaveUses 2 pc (j k)) : rx_OK (zV b e D A X) mX13_weaveUses 2 173 (vX13_weaveUses_173 j) := by
  unfold vX13_weaveUses_173
  refine s_aload_n hZ.1 dX13_weaveUses_173 rfl ?_
  refine yg13_67 dX13_weaveUses_174 zw4188 ?_
  refine s_iload hZ.1 dX13_weaveUses_177 ?_
  refine s_aload_n hZ.1 dX13_weaveUses_179 rfl ?_
  refine yg13_19 dX13_weaveUses_180 zw4140 ?_
  refine s_sipush dX13_weaveUses_183 (by decide +kernel) ?_
  refine s_imul dX13_weaveUses_186 ?_
  refine s_aload_n hZ.1 dX13_weaveUses_187 rfl ?_
  refine yg13_179 dX13_weaveUses_188 zw4299 ?_
  refine s_aload_n hZ.1 dX13_weaveUses_191 rfl ?_
  refine yg13_67 dX13_weaveUses_192 zw4188 ?_
  refine s_iload hZ.1 dX13_weaveUses_195 ?_
  refine s_iald (tt := 0) rfl dX13_weaveUses_197 ?_
  refine s_iload_n hZ.1 dX13_weaveUses_198 rfl ?_
  refine s_sipush dX13_weaveUses_199 (by decide +kernel) ?_
  refine s_imul dX13_weaveUses_202 ?_
  refine s_isub dX13_weaveUses_203 ?_
  refine s_iald (tt := 0) rfl dX13_weaveUses_204 ?_
  refine s_sipush dX13_weaveUses_205 (by decide +kernel) ?_
  refine s_irem dX13_weaveUses_208 ?_
  refine s_iadd dX13_weaveUses_209 ?_
  refine s_iast hZ.1 (tt := 0) rfl dX13_weaveUses_210 ?_
  exact (wX13_weaveUses_211 hZ j hj)
noncomputable def vX13_weaveUses_161 (j : Nat → rx_K) : rx_K := o_ld rx_isR 0 (o_getf 13 67 (o_ld rx_isI 5 (o_ald 0 (o_const 34359738352 (o_c2 rx_eq (vX13_weaveUses_211 j) (vX13_weaveUses_173 j))))))
set_option maxRecDepth 20000 in
theorem wX13_weaveUses_161 (hZ : zO b e D A X) (j : Nat → rx_K) (hj : ∀ k pc, [12, 43, 102, 225][k]? = some pc → rx_OK (zV b e D A X) mX13_weaveUses 2 pc (j k)) : rx_OK (zV b e D A X) mX13_weaveUses 2 161 (vX13_weaveUses_161 j) := by
  unfold vX13_weaveUses_161
  refine s_aload_n hZ.1 dX13_weaveUses_161 rfl ?_
  refine yg13_67 dX13_weaveUses_162 zw4188 ?_
  refine s_iload hZ.1 dX13_weaveUses_165 ?_
  refine s_iald (tt := 0) rfl dX13_weaveUses_167 ?_
  refine s_bipush dX13_weaveUses_168 (by decide +kernel) ?_
  exact s_icmp_eq dX13_weaveUses_170 (by decide) (wX13_weaveUses_211 hZ j hj) (wX13_weaveUses_173 hZ j hj)
noncomputable def vX13_weaveUses_144 (j : Nat → rx_K) : rx_K := o_ld rx_isR 0 (o_getf 13 67 (o_ld rx_isI 5 (o_ld rx_isR 0 (o_ld rx_isI 3 (o_ld rx_isI 5 (o_callV 2 13 FX13_bridgeUse (o_ast 0 (fun v => v) rx_isI ((vX13_weaveUses_211 j)))))))))
set_option maxRecDepth 20000 in
theorem wX13_weaveUses_144 (hZ : zO b e D A X) (j : Nat → rx_K) (hj : ∀ k pc, [12, 43, 102, 225][k]? = some pc → rx_OK (zV b e D A X) mX13_weaveUses 2 pc (j k)) : rx_OK (zV b e D A X) mX13_weaveUses 2 144 (vX13_weaveUses_144 j) := by
  unfold vX13_weaveUses_144
  refine s_aload_n hZ.1 dX13_weaveUses_144 rfl ?_
  refine yg13_67 dX13_weaveUses_145 zw4188 ?_
  refine s_iload hZ.1 dX13_weaveUses_148 ?_
  refine s_aload_n hZ.1 dX13_weaveUses_150 rfl ?_
  refine s_iload_n hZ.1 dX13_weaveUses_151 rfl ?_
  refine s_iload hZ.1 dX13_weaveUses_152 ?_
  refine s_callV hZ.1 (Met_X13_bridgeUse hZ) (Nat.le_of_ble_eq_true rfl) vy_X13_bridgeUse zcl13 zw3525 zw305 (Or.inl zw3523) dX13_weaveUses_154 ?_
  refine s_iast hZ.1 (tt := 0) rfl dX13_weaveUses_157 ?_
  exact s_goto dX13_weaveUses_158 (by decide) (wX13_weaveUses_211 hZ j hj)
noncomputable def vX13_weaveUses_134 (j : Nat → rx_K) : rx_K := o_ld rx_isR 0 (o_getf 13 49 (o_ld rx_isI 5 (o_ald 3 (o_c1 rx_eq (vX13_weaveUses_161 j) (vX13_weaveUses_144 j)))))
set_option maxRecDepth 20000 in
theorem wX13_weaveUses_134 (hZ : zO b e D A X) (j : Nat → rx_K) (hj : ∀ k pc, [12, 43, 102, 225][k]? = some pc → rx_OK (zV b e D A X) mX13_weaveUses 2 pc (j k)) : rx_OK (zV b e D A X) mX13_weaveUses 2 134 (vX13_weaveUses_134 j) := by
  unfold vX13_weaveUses_134
  refine s_aload_n hZ.1 dX13_weaveUses_134 rfl ?_
  refine yg13_49 dX13_weaveUses_135 zw4170 ?_
  refine s_iload hZ.1 dX13_weaveUses_138 ?_
  refine s_zald (tt := 3) rfl dX13_weaveUses_140 ?_
  exact s_if_eq dX13_weaveUses_141 (by decide) (wX13_weaveUses_161 hZ j hj) (wX13_weaveUses_144 hZ j hj)
noncomputable def vX13_weaveUses_113 (j : Nat → rx_K) : rx_K := o_ld rx_isI 3 (o_const 272 (o_bi (fun x y => x * y) (o_ld rx_isI 4 (o_bi (fun x y => x + y) (o_st rx_isI 5 (o_ld rx_isR 0 (o_getf 13 67 (o_ld rx_isI 5 (o_ald 0 (o_const 34359738352 (o_c2 rx_eq (vX13_weaveUses_134 j) (vX13_weaveUses_161 j))))))))))))
set_option maxRecDepth 20000 in
theorem wX13_weaveUses_113 (hZ : zO b e D A X) (j : Nat → rx_K) (hj : ∀ k pc, [12, 43, 102, 225][k]? = some pc → rx_OK (zV b e D A X) mX13_weaveUses 2 pc (j k)) : rx_OK (zV b e D A X) mX13_weaveUses 2 113 (vX13_weaveUses_113 j) := by
  unfold vX13_weaveUses_113
  refine s_iload_n hZ.1 dX13_weaveUses_113 rfl ?_
  refine s_bipush dX13_weaveUses_114 (by decide +kernel) ?_
  refine s_imul dX13_weaveUses_116 ?_
  refine s_iload hZ.1 dX13_weaveUses_117 ?_
  refine s_iadd dX13_weaveUses_119 ?_
  refine s_istore hZ.1 dX13_weaveUses_120 (Nat.le_of_ble_eq_true rfl) ?_
  refine s_aload_n hZ.1 dX13_weaveUses_122 rfl ?_
  refine yg13_67 dX13_weaveUses_123 zw4188 ?_
  refine s_iload hZ.1 dX13_weaveUses_126 ?_
  refine s_iald (tt := 0) rfl dX13_weaveUses_128 ?_
  refine s_bipush dX13_weaveUses_129 (by decide +kernel) ?_
  exact s_icmp_ne dX13_weaveUses_131 (by decide) (wX13_weaveUses_161 hZ j hj) (wX13_weaveUses_134 hZ j hj)
noncomputable def vX13_weaveUses_102 (j : Nat → rx_K) : rx_K := o_ld rx_isI 4 (o_ld rx_isR 0 (o_getf 13 41 (o_ld rx_isI 3 (o_ald 0 (o_c2 rx_lt (vX13_weaveUses_113 j) (vX13_weaveUses_217 j))))))
set_option maxRecDepth 20000 in
theorem wX13_weaveUses_102 (hZ : zO b e D A X) (j : Nat → rx_K) (hj : ∀ k pc, [12, 43, 102, 225][k]? = some pc → rx_OK (zV b e D A X) mX13_weaveUses 2 pc (j k)) : rx_OK (zV b e D A X) mX13_weaveUses 2 102 (vX13_weaveUses_102 j) := by
  unfold vX13_weaveUses_102
  refine s_iload hZ.1 dX13_weaveUses_102 ?_
  refine s_aload_n hZ.1 dX13_weaveUses_104 rfl ?_
  refine yg13_41 dX13_weaveUses_105 zw4162 ?_
  refine s_iload_n hZ.1 dX13_weaveUses_108 rfl ?_
  refine s_iald (tt := 0) rfl dX13_weaveUses_109 ?_
  exact s_icmp_ge dX13_weaveUses_110 (by decide) (wX13_weaveUses_217 hZ j hj) (wX13_weaveUses_113 hZ j hj)
noncomputable def vX13_weaveUses_99 (j : Nat → rx_K) : rx_K := o_const 0 (o_st rx_isI 4 ((vX13_weaveUses_102 j)))
set_option maxRecDepth 20000 in
theorem wX13_weaveUses_99 (hZ : zO b e D A X) (j : Nat → rx_K) (hj : ∀ k pc, [12, 43, 102, 225][k]? = some pc → rx_OK (zV b e D A X) mX13_weaveUses 2 pc (j k)) : rx_OK (zV b e D A X) mX13_weaveUses 2 99 (vX13_weaveUses_99 j) := by
  unfold vX13_weaveUses_99
  refine s_iconst dX13_weaveUses_99 (by decide +kernel) ?_
  refine s_istore hZ.1 dX13_weaveUses_100 (Nat.le_of_ble_eq_true rfl) ?_
  exact (wX13_weaveUses_102 hZ j hj)
noncomputable def vX13_weaveUses_93 (j : Nat → rx_K) : rx_K := o_inc 4 (1) ((j 1))
set_option maxRecDepth 20000 in
theorem wX13_weaveUses_93 (hZ : zO b e D A X) (j : Nat → rx_K) (hj : ∀ k pc, [12, 43, 102, 225][k]? = some pc → rx_OK (zV b e D A X) mX13_weaveUses 2 pc (j k)) : rx_OK (zV b e D A X) mX13_weaveUses 2 93 (vX13_weaveUses_93 j) := by
  unfold vX13_weaveUses_93
  refine s_iinc hZ.1 dX13_weaveUses_93 (Nat.le_of_ble_eq_true rfl) ?_
  exact s_goto dX13_weaveUses_96 (by decide) (hj 1 43 rfl)
noncomputable def vX13_weaveUses_80 (j : Nat → rx_K) : rx_K := o_ld rx_isR 0 (o_getf 13 179 (o_ld rx_isI 4 (o_ld rx_isR 0 (o_ld rx_isI 5 (o_callV 1 13 FX13_copyUse (o_ast 0 (fun v => v) rx_isI ((vX13_weaveUses_93 j))))))))
set_option maxRecDepth 20000 in
theorem wX13_weaveUses_80 (hZ : zO b e D A X) (j : Nat → rx_K) (hj : ∀ k pc, [12, 43, 102, 225][k]? = some pc → rx_OK (zV b e D A X) mX13_weaveUses 2 pc (j k)) : rx_OK (zV b e D A X) mX13_weaveUses 2 80 (vX13_weaveUses_80 j) := by
  unfold vX13_weaveUses_80
  refine s_aload_n hZ.1 dX13_weaveUses_80 rfl ?_
  refine yg13_179 dX13_weaveUses_81 zw4299 ?_
  refine s_iload hZ.1 dX13_weaveUses_84 ?_
  refine s_aload_n hZ.1 dX13_weaveUses_86 rfl ?_
  refine s_iload hZ.1 dX13_weaveUses_87 ?_
  refine s_callV hZ.1 (Met_X13_copyUse hZ) (Nat.le_of_ble_eq_true rfl) vy_X13_copyUse zcl13 zw4102 zw409 (Or.inl zw4100) dX13_weaveUses_89 ?_
  refine s_iast hZ.1 (tt := 0) rfl dX13_weaveUses_92 ?_
  exact (wX13_weaveUses_93 hZ j hj)
noncomputable def vX13_weaveUses_54 (j : Nat → rx_K) : rx_K := o_ld rx_isI 1 (o_const 14400 (o_bi (fun x y => x * y) (o_ld rx_isI 4 (o_bi (fun x y => x + y) (o_st rx_isI 5 (o_ld rx_isR 0 (o_getf 13 120 (o_ld rx_isI 5 (o_ald 0 (o_ld rx_isI 1 (o_const 96 (o_bi (fun x y => x * y) (o_ld rx_isI 2 (o_bi (fun x y => x + y) (o_c2 rx_eq (vX13_weaveUses_80 j) (vX13_weaveUses_93 j))))))))))))))))
set_option maxRecDepth 20000 in
theorem wX13_weaveUses_54 (hZ : zO b e D A X) (j : Nat → rx_K) (hj : ∀ k pc, [12, 43, 102, 225][k]? = some pc → rx_OK (zV b e D A X) mX13_weaveUses 2 pc (j k)) : rx_OK (zV b e D A X) mX13_weaveUses 2 54 (vX13_weaveUses_54 j) := by
  unfold vX13_weaveUses_54
  refine s_iload_n hZ.1 dX13_weaveUses_54 rfl ?_
  refine s_sipush dX13_weaveUses_55 (by decide +kernel) ?_
  refine s_imul dX13_weaveUses_58 ?_
  refine s_iload hZ.1 dX13_weaveUses_59 ?_
  refine s_iadd dX13_weaveUses_61 ?_
  refine s_istore hZ.1 dX13_weaveUses_62 (Nat.le_of_ble_eq_true rfl) ?_
  refine s_aload_n hZ.1 dX13_weaveUses_64 rfl ?_
  refine yg13_120 dX13_weaveUses_65 zw4240 ?_
  refine s_iload hZ.1 dX13_weaveUses_68 ?_
  refine s_iald (tt := 0) rfl dX13_weaveUses_70 ?_
  refine s_iload_n hZ.1 dX13_weaveUses_71 rfl ?_
  refine s_bipush dX13_weaveUses_72 (by decide +kernel) ?_
  refine s_imul dX13_weaveUses_74 ?_
  refine s_iload_n hZ.1 dX13_weaveUses_75 rfl ?_
  refine s_iadd dX13_weaveUses_76 ?_
  exact s_icmp_ne dX13_weaveUses_77 (by decide) (wX13_weaveUses_93 hZ j hj) (wX13_weaveUses_80 hZ j hj)
noncomputable def vX13_weaveUses_43 (j : Nat → rx_K) : rx_K := o_ld rx_isI 4 (o_ld rx_isR 0 (o_getf 13 118 (o_ld rx_isI 1 (o_ald 0 (o_c2 rx_lt (vX13_weaveUses_54 j) (vX13_weaveUses_99 j))))))
set_option maxRecDepth 20000 in
theorem wX13_weaveUses_43 (hZ : zO b e D A X) (j : Nat → rx_K) (hj : ∀ k pc, [12, 43, 102, 225][k]? = some pc → rx_OK (zV b e D A X) mX13_weaveUses 2 pc (j k)) : rx_OK (zV b e D A X) mX13_weaveUses 2 43 (vX13_weaveUses_43 j) := by
  unfold vX13_weaveUses_43
  refine s_iload hZ.1 dX13_weaveUses_43 ?_
  refine s_aload_n hZ.1 dX13_weaveUses_45 rfl ?_
  refine yg13_118 dX13_weaveUses_46 zw4238 ?_
  refine s_iload_n hZ.1 dX13_weaveUses_49 rfl ?_
  refine s_iald (tt := 0) rfl dX13_weaveUses_50 ?_
  exact s_icmp_ge dX13_weaveUses_51 (by decide) (wX13_weaveUses_99 hZ j hj) (wX13_weaveUses_54 hZ j hj)
noncomputable def vX13_weaveUses_25 (j : Nat → rx_K) : rx_K := o_ld rx_isR 0 (o_getf 13 19 (o_const 96 (o_bi (fun x y => x * y) (o_ld rx_isI 2 (o_bi (fun x y => x + y) (o_st rx_isI 3 (o_ld rx_isR 0 (o_ld rx_isI 3 (o_putf rx_isI 13 109 (o_const 0 (o_st rx_isI 4 ((vX13_weaveUses_43 j)))))))))))))
set_option maxRecDepth 20000 in
theorem wX13_weaveUses_25 (hZ : zO b e D A X) (j : Nat → rx_K) (hj : ∀ k pc, [12, 43, 102, 225][k]? = some pc → rx_OK (zV b e D A X) mX13_weaveUses 2 pc (j k)) : rx_OK (zV b e D A X) mX13_weaveUses 2 25 (vX13_weaveUses_25 j) := by
  unfold vX13_weaveUses_25
  refine s_aload_n hZ.1 dX13_weaveUses_25 rfl ?_
  refine yg13_19 dX13_weaveUses_26 zw4140 ?_
  refine s_bipush dX13_weaveUses_29 (by decide +kernel) ?_
  refine s_imul dX13_weaveUses_31 ?_
  refine s_iload_n hZ.1 dX13_weaveUses_32 rfl ?_
  refine s_iadd dX13_weaveUses_33 ?_
  refine s_istore_n hZ.1 dX13_weaveUses_34 rfl (Nat.le_of_ble_eq_true rfl) ?_
  refine s_aload_n hZ.1 dX13_weaveUses_35 rfl ?_
  refine s_iload_n hZ.1 dX13_weaveUses_36 rfl ?_
  refine yp13_109 hZ.1 dX13_weaveUses_37 zw4229 ?_
  refine s_iconst dX13_weaveUses_40 (by decide +kernel) ?_
  refine s_istore hZ.1 dX13_weaveUses_41 (Nat.le_of_ble_eq_true rfl) ?_
  exact (wX13_weaveUses_43 hZ j hj)
noncomputable def vX13_weaveUses_12 (j : Nat → rx_K) : rx_K := o_ld rx_isI 2 (o_ld rx_isR 0 (o_getf 13 23 (o_ld rx_isR 0 (o_getf 13 19 (o_ald 0 (o_c2 rx_lt (vX13_weaveUses_25 j) (vX13_weaveUses_223 j)))))))
set_option maxRecDepth 20000 in
theorem wX13_weaveUses_12 (hZ : zO b e D A X) (j : Nat → rx_K) (hj : ∀ k pc, [12, 43, 102, 225][k]? = some pc → rx_OK (zV b e D A X) mX13_weaveUses 2 pc (j k)) : rx_OK (zV b e D A X) mX13_weaveUses 2 12 (vX13_weaveUses_12 j) := by
  unfold vX13_weaveUses_12
  refine s_iload_n hZ.1 dX13_weaveUses_12 rfl ?_
  refine s_aload_n hZ.1 dX13_weaveUses_13 rfl ?_
  refine yg13_23 dX13_weaveUses_14 zw4144 ?_
  refine s_aload_n hZ.1 dX13_weaveUses_17 rfl ?_
  refine yg13_19 dX13_weaveUses_18 zw4140 ?_
  refine s_iald (tt := 0) rfl dX13_weaveUses_21 ?_
  exact s_icmp_ge dX13_weaveUses_22 (by decide) (wX13_weaveUses_223 hZ j hj) (wX13_weaveUses_25 hZ j hj)
noncomputable def vX13_weaveUses_0 (j : Nat → rx_K) : rx_K := o_ld rx_isR 0 (o_getf 13 118 (o_ld rx_isR 0 (o_getf 13 19 (o_const 0 (o_ast 0 (fun v => v) rx_isI (o_const 0 (o_st rx_isI 2 ((vX13_weaveUses_12 j)))))))))
set_option maxRecDepth 20000 in
theorem wX13_weaveUses_0 (hZ : zO b e D A X) (j : Nat → rx_K) (hj : ∀ k pc, [12, 43, 102, 225][k]? = some pc → rx_OK (zV b e D A X) mX13_weaveUses 2 pc (j k)) : rx_OK (zV b e D A X) mX13_weaveUses 2 0 (vX13_weaveUses_0 j) := by
  unfold vX13_weaveUses_0
  refine s_aload_n hZ.1 dX13_weaveUses_0 rfl ?_
  refine yg13_118 dX13_weaveUses_1 zw4238 ?_
  refine s_aload_n hZ.1 dX13_weaveUses_4 rfl ?_
  refine yg13_19 dX13_weaveUses_5 zw4140 ?_
  refine s_iconst dX13_weaveUses_8 (by decide +kernel) ?_
  refine s_iast hZ.1 (tt := 0) rfl dX13_weaveUses_9 ?_
  refine s_iconst dX13_weaveUses_10 (by decide +kernel) ?_
  refine s_istore_n hZ.1 dX13_weaveUses_11 rfl (Nat.le_of_ble_eq_true rfl) ?_
  exact (wX13_weaveUses_12 hZ j hj)
noncomputable def vhX13_weaveUses (j : Nat → rx_K) : List rx_K := [vX13_weaveUses_12 j, vX13_weaveUses_43 j, vX13_weaveUses_102 j, vX13_weaveUses_225 j]
theorem vlX13_weaveUses (hZ : zO b e D A X) : ∀ n k pc, [12, 43, 102, 225][k]? = some pc → rx_OK (zV b e D A X) mX13_weaveUses 2 pc (rx_J (vhX13_weaveUses) n k) := rx_loop fun j hj k pc h => by
  match k, h with
  | 0, h =>
    have e9 := Option.some.inj (show some 12 = some pc from h)
    subst e9
    exact wX13_weaveUses_12 hZ j hj
  | 1, h =>
    have e9 := Option.some.inj (show some 43 = some pc from h)
    subst e9
    exact wX13_weaveUses_43 hZ j hj
  | 2, h =>
    have e9 := Option.some.inj (show some 102 = some pc from h)
    subst e9
    exact wX13_weaveUses_102 hZ j hj
  | 3, h =>
    have e9 := Option.some.inj (show some 225 = some pc from h)
    subst e9
    exact wX13_weaveUses_225 hZ j hj
  | _ + 4, h => exact absurd h (by simp)
noncomputable def FX13_weaveUses : List Nat → rx_H → Option (Nat × rx_H) := rx_ent 6 (vX13_weaveUses_0 (rx_J (vhX13_weaveUses) 4000000000))
theorem Met_X13_weaveUses (hZ : zO b e D A X) : rx_Met (zV b e D A X) 2 yX13_weaveUses mX13_weaveUses (FX13_weaveUses) := rx_entry hZ.1 (wX13_weaveUses_0 hZ _ (vlX13_weaveUses hZ 4000000000)) (by decide +kernel) rfl (fun h => by cases h)
end ZM72

section ZM15
variable {b : Nat} {e : Nat → Value} {D : va_G} {A : Nat → ClassId} {X : State → Prop}
abbrev mX11_mostSpecial : rx_M := (RX11, cX11_mostSpecial, 11, (some .int), false)
theorem vy_X11_mostSpecial : rx_Y (zV b e D A X) yX11_mostSpecial mX11_mostSpecial 2 := ⟨zw2042, zw423, by decide, by decide +kernel, by decide +kernel, by decide +kernel⟩
noncomputable def vX11_mostSpecial_287 (j : Nat → rx_K) : rx_K := o_ld rx_isI 7 (o_ret1 rx_isI)
set_option maxRecDepth 20000 in
theorem wX11_mostSpecial_287 (hZ : zO b e D A X) (j : Nat → rx_K) (hj : ∀ k pc, [18, 60, 151, 193][k]? = some pc → rx_OK (zV b e D A X) mX11_mostSpecial 1 pc (j k)) : rx_OK (zV b e D A X) mX11_mostSpecial 1 287 (vX11_mostSpecial_287 j) := by
  unfold vX11_mostSpecial_287
  refine s_iload hZ.1 dX11_mostSpecial_287 ?_
  exact s_iret hZ.1 rfl dX11_mostSpecial_289
noncomputable def vX11_mostSpecial_281 (j : Nat → rx_K) : rx_K := o_inc 8 (1) ((j 2))
set_option maxRecDepth 20000 in
theorem wX11_mostSpecial_281 (hZ : zO b e D A X) (j : Nat → rx_K) (hj : ∀ k pc, [18, 60, 151, 193][k]? = some pc → rx_OK (zV b e D A X) mX11_mostSpecial 1 pc (j k)) : rx_OK (zV b e D A X) mX11_mostSpecial 1 281 (vX11_mostSpecial_281 j) := by
  unfold vX11_mostSpecial_281
  refine s_iinc hZ.1 dX11_mostSpecial_281 (Nat.le_of_ble_eq_true rfl) ?_
  exact s_goto dX11_mostSpecial_284 (by decide) (hj 2 151 rfl)
noncomputable def vX11_mostSpecial_261 (j : Nat → rx_K) : rx_K := o_inc 7 (1) (o_ld rx_isR 0 (o_ld rx_isR 0 (o_getf 11 16 (o_ld rx_isI 8 (o_ald 5 (o_putf rx_isR 11 17 (o_ld rx_isR 0 (o_ld rx_isI 8 (o_putf rx_isI 11 18 ((vX11_mostSpecial_281 j)))))))))))
set_option maxRecDepth 20000 in
theorem wX11_mostSpecial_261 (hZ : zO b e D A X) (j : Nat → rx_K) (hj : ∀ k pc, [18, 60, 151, 193][k]? = some pc → rx_OK (zV b e D A X) mX11_mostSpecial 1 pc (j k)) : rx_OK (zV b e D A X) mX11_mostSpecial 1 261 (vX11_mostSpecial_261 j) := by
  unfold vX11_mostSpecial_261
  refine s_iinc hZ.1 dX11_mostSpecial_261 (Nat.le_of_ble_eq_true rfl) ?_
  refine s_aload_n hZ.1 dX11_mostSpecial_264 rfl ?_
  refine s_aload_n hZ.1 dX11_mostSpecial_265 rfl ?_
  refine yg11_16 dX11_mostSpecial_266 zw1293 ?_
  refine s_iload hZ.1 dX11_mostSpecial_269 ?_
  refine s_aald (tt := 5) rfl rfl dX11_mostSpecial_271 ?_
  refine yp11_17 hZ.1 dX11_mostSpecial_272 zw1294 ?_
  refine s_aload_n hZ.1 dX11_mostSpecial_275 rfl ?_
  refine s_iload hZ.1 dX11_mostSpecial_276 ?_
  refine yp11_18 hZ.1 dX11_mostSpecial_278 zw1297 ?_
  exact (wX11_mostSpecial_281 hZ j hj)
noncomputable def vX11_mostSpecial_256 (j : Nat → rx_K) : rx_K := o_ld rx_isI 9 (o_c1 rx_eq (vX11_mostSpecial_261 j) (vX11_mostSpecial_281 j))
set_option maxRecDepth 20000 in
theorem wX11_mostSpecial_256 (hZ : zO b e D A X) (j : Nat → rx_K) (hj : ∀ k pc, [18, 60, 151, 193][k]? = some pc → rx_OK (zV b e D A X) mX11_mostSpecial 1 pc (j k)) : rx_OK (zV b e D A X) mX11_mostSpecial 1 256 (vX11_mostSpecial_256 j) := by
  unfold vX11_mostSpecial_256
  refine s_iload hZ.1 dX11_mostSpecial_256 ?_
  exact s_if_ne dX11_mostSpecial_258 (by decide) (wX11_mostSpecial_281 hZ j hj) (wX11_mostSpecial_261 hZ j hj)
noncomputable def vX11_mostSpecial_248 (j : Nat → rx_K) : rx_K := o_st rx_isI 9 (o_inc 10 (1) ((j 3)))
set_option maxRecDepth 20000 in
theorem wX11_mostSpecial_248 (hZ : zO b e D A X) (j : Nat → rx_K) (hj : ∀ k pc, [18, 60, 151, 193][k]? = some pc → rx_OK (zV b e D A X) mX11_mostSpecial 1 pc (j k)) : rx_OK (zV b e D A X) mX11_mostSpecial 1 248 (vX11_mostSpecial_248 j) := by
  unfold vX11_mostSpecial_248
  refine s_istore hZ.1 dX11_mostSpecial_248 (Nat.le_of_ble_eq_true rfl) ?_
  refine s_iinc hZ.1 dX11_mostSpecial_250 (Nat.le_of_ble_eq_true rfl) ?_
  exact s_goto dX11_mostSpecial_253 (by decide) (hj 3 193 rfl)
noncomputable def vX11_mostSpecial_247 (j : Nat → rx_K) : rx_K := o_const 0 ((vX11_mostSpecial_248 j))
set_option maxRecDepth 20000 in
theorem wX11_mostSpecial_247 (hZ : zO b e D A X) (j : Nat → rx_K) (hj : ∀ k pc, [18, 60, 151, 193][k]? = some pc → rx_OK (zV b e D A X) mX11_mostSpecial 1 pc (j k)) : rx_OK (zV b e D A X) mX11_mostSpecial 1 247 (vX11_mostSpecial_247 j) := by
  unfold vX11_mostSpecial_247
  refine s_iconst dX11_mostSpecial_247 (by decide +kernel) ?_
  exact (wX11_mostSpecial_248 hZ j hj)
noncomputable def vX11_mostSpecial_243 (j : Nat → rx_K) : rx_K := o_const 8 ((vX11_mostSpecial_248 j))
set_option maxRecDepth 20000 in
theorem wX11_mostSpecial_243 (hZ : zO b e D A X) (j : Nat → rx_K) (hj : ∀ k pc, [18, 60, 151, 193][k]? = some pc → rx_OK (zV b e D A X) mX11_mostSpecial 1 pc (j k)) : rx_OK (zV b e D A X) mX11_mostSpecial 1 243 (vX11_mostSpecial_243 j) := by
  unfold vX11_mostSpecial_243
  refine s_iconst dX11_mostSpecial_243 (by decide +kernel) ?_
  exact s_goto dX11_mostSpecial_244 (by decide) (wX11_mostSpecial_248 hZ j hj)
noncomputable def vX11_mostSpecial_226 (j : Nat → rx_K) : rx_K := o_ld rx_isR 0 (o_getf 11 9 (o_ld rx_isI 10 (o_ald 1 (o_ld rx_isI 8 (o_bs (fun x y => (x.toUInt64 >>> (y.toInt64.toUInt64 &&& Int64.toUInt64 63)).toInt64) (o_const 9 (o_bl (fun x y => x &&& y) (o_const 1 (o_bc (fun x y => lg_cmp x y) (o_c1 rx_eq (vX11_mostSpecial_247 j) (vX11_mostSpecial_243 j)))))))))))
set_option maxRecDepth 20000 in
theorem wX11_mostSpecial_226 (hZ : zO b e D A X) (j : Nat → rx_K) (hj : ∀ k pc, [18, 60, 151, 193][k]? = some pc → rx_OK (zV b e D A X) mX11_mostSpecial 1 pc (j k)) : rx_OK (zV b e D A X) mX11_mostSpecial 1 226 (vX11_mostSpecial_226 j) := by
  unfold vX11_mostSpecial_226
  refine s_aload_n hZ.1 dX11_mostSpecial_226 rfl ?_
  refine yg11_9 dX11_mostSpecial_227 zw1281 ?_
  refine s_iload hZ.1 dX11_mostSpecial_230 ?_
  refine s_lald (tt := 1) rfl dX11_mostSpecial_232 ?_
  refine s_iload hZ.1 dX11_mostSpecial_233 ?_
  refine s_lushr dX11_mostSpecial_235 ?_
  refine s_lconst dX11_mostSpecial_236 (by decide +kernel) ?_
  refine s_land dX11_mostSpecial_237 ?_
  refine s_lconst dX11_mostSpecial_238 (by decide +kernel) ?_
  refine s_lcmp dX11_mostSpecial_239 ?_
  exact s_if_eq dX11_mostSpecial_240 (by decide) (wX11_mostSpecial_247 hZ j hj) (wX11_mostSpecial_243 hZ j hj)
noncomputable def vX11_mostSpecial_214 (j : Nat → rx_K) : rx_K := o_ld rx_isL 5 (o_ld rx_isI 10 (o_bs (fun x y => (x.toUInt64 >>> (y.toInt64.toUInt64 &&& Int64.toUInt64 63)).toInt64) (o_const 9 (o_bl (fun x y => x &&& y) (o_const 1 (o_bc (fun x y => lg_cmp x y) (o_c1 rx_eq (vX11_mostSpecial_247 j) (vX11_mostSpecial_226 j))))))))
set_option maxRecDepth 20000 in
theorem wX11_mostSpecial_214 (hZ : zO b e D A X) (j : Nat → rx_K) (hj : ∀ k pc, [18, 60, 151, 193][k]? = some pc → rx_OK (zV b e D A X) mX11_mostSpecial 1 pc (j k)) : rx_OK (zV b e D A X) mX11_mostSpecial 1 214 (vX11_mostSpecial_214 j) := by
  unfold vX11_mostSpecial_214
  refine s_lload hZ.1 dX11_mostSpecial_214 ?_
  refine s_iload hZ.1 dX11_mostSpecial_216 ?_
  refine s_lushr dX11_mostSpecial_218 ?_
  refine s_lconst dX11_mostSpecial_219 (by decide +kernel) ?_
  refine s_land dX11_mostSpecial_220 ?_
  refine s_lconst dX11_mostSpecial_221 (by decide +kernel) ?_
  refine s_lcmp dX11_mostSpecial_222 ?_
  exact s_if_eq dX11_mostSpecial_223 (by decide) (wX11_mostSpecial_247 hZ j hj) (wX11_mostSpecial_226 hZ j hj)
noncomputable def vX11_mostSpecial_207 (j : Nat → rx_K) : rx_K := o_ld rx_isI 10 (o_ld rx_isI 8 (o_c2 rx_eq (vX11_mostSpecial_247 j) (vX11_mostSpecial_214 j)))
set_option maxRecDepth 20000 in
theorem wX11_mostSpecial_207 (hZ : zO b e D A X) (j : Nat → rx_K) (hj : ∀ k pc, [18, 60, 151, 193][k]? = some pc → rx_OK (zV b e D A X) mX11_mostSpecial 1 pc (j k)) : rx_OK (zV b e D A X) mX11_mostSpecial 1 207 (vX11_mostSpecial_207 j) := by
  unfold vX11_mostSpecial_207
  refine s_iload hZ.1 dX11_mostSpecial_207 ?_
  refine s_iload hZ.1 dX11_mostSpecial_209 ?_
  exact s_icmp_eq dX11_mostSpecial_211 (by decide) (wX11_mostSpecial_247 hZ j hj) (wX11_mostSpecial_214 hZ j hj)
noncomputable def vX11_mostSpecial_202 (j : Nat → rx_K) : rx_K := o_ld rx_isI 9 (o_c1 rx_eq (vX11_mostSpecial_207 j) (vX11_mostSpecial_256 j))
set_option maxRecDepth 20000 in
theorem wX11_mostSpecial_202 (hZ : zO b e D A X) (j : Nat → rx_K) (hj : ∀ k pc, [18, 60, 151, 193][k]? = some pc → rx_OK (zV b e D A X) mX11_mostSpecial 1 pc (j k)) : rx_OK (zV b e D A X) mX11_mostSpecial 1 202 (vX11_mostSpecial_202 j) := by
  unfold vX11_mostSpecial_202
  refine s_iload hZ.1 dX11_mostSpecial_202 ?_
  exact s_if_ne dX11_mostSpecial_204 (by decide) (wX11_mostSpecial_256 hZ j hj) (wX11_mostSpecial_207 hZ j hj)
noncomputable def vX11_mostSpecial_193 (j : Nat → rx_K) : rx_K := o_ld rx_isI 10 (o_ld rx_isR 0 (o_getf 11 2 (o_c2 rx_lt (vX11_mostSpecial_202 j) (vX11_mostSpecial_256 j))))
set_option maxRecDepth 20000 in
theorem wX11_mostSpecial_193 (hZ : zO b e D A X) (j : Nat → rx_K) (hj : ∀ k pc, [18, 60, 151, 193][k]? = some pc → rx_OK (zV b e D A X) mX11_mostSpecial 1 pc (j k)) : rx_OK (zV b e D A X) mX11_mostSpecial 1 193 (vX11_mostSpecial_193 j) := by
  unfold vX11_mostSpecial_193
  refine s_iload hZ.1 dX11_mostSpecial_193 ?_
  refine s_aload_n hZ.1 dX11_mostSpecial_195 rfl ?_
  refine yg11_2 dX11_mostSpecial_196 zw1260 ?_
  exact s_icmp_ge dX11_mostSpecial_199 (by decide) (wX11_mostSpecial_256 hZ j hj) (wX11_mostSpecial_202 hZ j hj)
noncomputable def vX11_mostSpecial_188 (j : Nat → rx_K) : rx_K := o_st rx_isI 9 (o_const 0 (o_st rx_isI 10 ((vX11_mostSpecial_193 j))))
set_option maxRecDepth 20000 in
theorem wX11_mostSpecial_188 (hZ : zO b e D A X) (j : Nat → rx_K) (hj : ∀ k pc, [18, 60, 151, 193][k]? = some pc → rx_OK (zV b e D A X) mX11_mostSpecial 1 pc (j k)) : rx_OK (zV b e D A X) mX11_mostSpecial 1 188 (vX11_mostSpecial_188 j) := by
  unfold vX11_mostSpecial_188
  refine s_istore hZ.1 dX11_mostSpecial_188 (Nat.le_of_ble_eq_true rfl) ?_
  refine s_iconst dX11_mostSpecial_190 (by decide +kernel) ?_
  refine s_istore hZ.1 dX11_mostSpecial_191 (Nat.le_of_ble_eq_true rfl) ?_
  exact (wX11_mostSpecial_193 hZ j hj)
noncomputable def vX11_mostSpecial_187 (j : Nat → rx_K) : rx_K := o_const 0 ((vX11_mostSpecial_188 j))
set_option maxRecDepth 20000 in
theorem wX11_mostSpecial_187 (hZ : zO b e D A X) (j : Nat → rx_K) (hj : ∀ k pc, [18, 60, 151, 193][k]? = some pc → rx_OK (zV b e D A X) mX11_mostSpecial 1 pc (j k)) : rx_OK (zV b e D A X) mX11_mostSpecial 1 187 (vX11_mostSpecial_187 j) := by
  unfold vX11_mostSpecial_187
  refine s_iconst dX11_mostSpecial_187 (by decide +kernel) ?_
  exact (wX11_mostSpecial_188 hZ j hj)
noncomputable def vX11_mostSpecial_183 (j : Nat → rx_K) : rx_K := o_const 8 ((vX11_mostSpecial_188 j))
set_option maxRecDepth 20000 in
theorem wX11_mostSpecial_183 (hZ : zO b e D A X) (j : Nat → rx_K) (hj : ∀ k pc, [18, 60, 151, 193][k]? = some pc → rx_OK (zV b e D A X) mX11_mostSpecial 1 pc (j k)) : rx_OK (zV b e D A X) mX11_mostSpecial 1 183 (vX11_mostSpecial_183 j) := by
  unfold vX11_mostSpecial_183
  refine s_iconst dX11_mostSpecial_183 (by decide +kernel) ?_
  exact s_goto dX11_mostSpecial_184 (by decide) (wX11_mostSpecial_188 hZ j hj)
noncomputable def vX11_mostSpecial_170 (j : Nat → rx_K) : rx_K := o_ld rx_isR 0 (o_getf 11 16 (o_ld rx_isI 8 (o_ald 5 (o_getf 7 4 (o_c1 rx_eq (vX11_mostSpecial_187 j) (vX11_mostSpecial_183 j))))))
set_option maxRecDepth 20000 in
theorem wX11_mostSpecial_170 (hZ : zO b e D A X) (j : Nat → rx_K) (hj : ∀ k pc, [18, 60, 151, 193][k]? = some pc → rx_OK (zV b e D A X) mX11_mostSpecial 1 pc (j k)) : rx_OK (zV b e D A X) mX11_mostSpecial 1 170 (vX11_mostSpecial_170 j) := by
  unfold vX11_mostSpecial_170
  refine s_aload_n hZ.1 dX11_mostSpecial_170 rfl ?_
  refine yg11_16 dX11_mostSpecial_171 zw1293 ?_
  refine s_iload hZ.1 dX11_mostSpecial_174 ?_
  refine s_aald (tt := 5) rfl rfl dX11_mostSpecial_176 ?_
  refine yg7_4 dX11_mostSpecial_177 zw983 ?_
  exact s_if_eq dX11_mostSpecial_180 (by decide) (wX11_mostSpecial_187 hZ j hj) (wX11_mostSpecial_183 hZ j hj)
noncomputable def vX11_mostSpecial_160 (j : Nat → rx_K) : rx_K := o_ld rx_isR 0 (o_getf 11 16 (o_ld rx_isI 8 (o_ald 5 (o_nul (vX11_mostSpecial_183 j) (vX11_mostSpecial_170 j)))))
set_option maxRecDepth 20000 in
theorem wX11_mostSpecial_160 (hZ : zO b e D A X) (j : Nat → rx_K) (hj : ∀ k pc, [18, 60, 151, 193][k]? = some pc → rx_OK (zV b e D A X) mX11_mostSpecial 1 pc (j k)) : rx_OK (zV b e D A X) mX11_mostSpecial 1 160 (vX11_mostSpecial_160 j) := by
  unfold vX11_mostSpecial_160
  refine s_aload_n hZ.1 dX11_mostSpecial_160 rfl ?_
  refine yg11_16 dX11_mostSpecial_161 zw1293 ?_
  refine s_iload hZ.1 dX11_mostSpecial_164 ?_
  refine s_aald (tt := 5) rfl rfl dX11_mostSpecial_166 ?_
  exact s_ifnull dX11_mostSpecial_167 (by decide) (wX11_mostSpecial_183 hZ j hj) (wX11_mostSpecial_170 hZ j hj)
noncomputable def vX11_mostSpecial_151 (j : Nat → rx_K) : rx_K := o_ld rx_isI 8 (o_ld rx_isR 0 (o_getf 11 2 (o_c2 rx_lt (vX11_mostSpecial_160 j) (vX11_mostSpecial_287 j))))
set_option maxRecDepth 20000 in
theorem wX11_mostSpecial_151 (hZ : zO b e D A X) (j : Nat → rx_K) (hj : ∀ k pc, [18, 60, 151, 193][k]? = some pc → rx_OK (zV b e D A X) mX11_mostSpecial 1 pc (j k)) : rx_OK (zV b e D A X) mX11_mostSpecial 1 151 (vX11_mostSpecial_151 j) := by
  unfold vX11_mostSpecial_151
  refine s_iload hZ.1 dX11_mostSpecial_151 ?_
  refine s_aload_n hZ.1 dX11_mostSpecial_153 rfl ?_
  refine yg11_2 dX11_mostSpecial_154 zw1260 ?_
  exact s_icmp_ge dX11_mostSpecial_157 (by decide) (wX11_mostSpecial_287 hZ j hj) (wX11_mostSpecial_160 hZ j hj)
noncomputable def vX11_mostSpecial_145 (j : Nat → rx_K) : rx_K := o_const 0 (o_st rx_isI 7 (o_const 0 (o_st rx_isI 8 ((vX11_mostSpecial_151 j)))))
set_option maxRecDepth 20000 in
theorem wX11_mostSpecial_145 (hZ : zO b e D A X) (j : Nat → rx_K) (hj : ∀ k pc, [18, 60, 151, 193][k]? = some pc → rx_OK (zV b e D A X) mX11_mostSpecial 1 pc (j k)) : rx_OK (zV b e D A X) mX11_mostSpecial 1 145 (vX11_mostSpecial_145 j) := by
  unfold vX11_mostSpecial_145
  refine s_iconst dX11_mostSpecial_145 (by decide +kernel) ?_
  refine s_istore hZ.1 dX11_mostSpecial_146 (Nat.le_of_ble_eq_true rfl) ?_
  refine s_iconst dX11_mostSpecial_148 (by decide +kernel) ?_
  refine s_istore hZ.1 dX11_mostSpecial_149 (Nat.le_of_ble_eq_true rfl) ?_
  exact (wX11_mostSpecial_151 hZ j hj)
noncomputable def vX11_mostSpecial_139 (j : Nat → rx_K) : rx_K := o_inc 7 (1) ((j 1))
set_option maxRecDepth 20000 in
theorem wX11_mostSpecial_139 (hZ : zO b e D A X) (j : Nat → rx_K) (hj : ∀ k pc, [18, 60, 151, 193][k]? = some pc → rx_OK (zV b e D A X) mX11_mostSpecial 1 pc (j k)) : rx_OK (zV b e D A X) mX11_mostSpecial 1 139 (vX11_mostSpecial_139 j) := by
  unfold vX11_mostSpecial_139
  refine s_iinc hZ.1 dX11_mostSpecial_139 (Nat.le_of_ble_eq_true rfl) ?_
  exact s_goto dX11_mostSpecial_142 (by decide) (hj 1 60 rfl)
noncomputable def vX11_mostSpecial_121 (j : Nat → rx_K) : rx_K := o_ld rx_isR 0 (o_getf 11 16 (o_ld rx_isI 8 (o_ld rx_isR 9 (o_aast 5 [7] (o_ld rx_isL 5 (o_const 9 (o_ld rx_isI 8 (o_bs (fun x y => x <<< (y.toInt64 &&& 63)) (o_bl (fun x y => x ||| y) (o_stL 5 ((vX11_mostSpecial_139 j))))))))))))
set_option maxRecDepth 20000 in
theorem wX11_mostSpecial_121 (hZ : zO b e D A X) (j : Nat → rx_K) (hj : ∀ k pc, [18, 60, 151, 193][k]? = some pc → rx_OK (zV b e D A X) mX11_mostSpecial 1 pc (j k)) : rx_OK (zV b e D A X) mX11_mostSpecial 1 121 (vX11_mostSpecial_121 j) := by
  unfold vX11_mostSpecial_121
  refine s_aload_n hZ.1 dX11_mostSpecial_121 rfl ?_
  refine yg11_16 dX11_mostSpecial_122 zw1293 ?_
  refine s_iload hZ.1 dX11_mostSpecial_125 ?_
  refine s_aload hZ.1 dX11_mostSpecial_127 ?_
  refine s_aast (tt := 5) rfl zaa7 dX11_mostSpecial_129 ?_
  refine s_lload hZ.1 dX11_mostSpecial_130 ?_
  refine s_lconst dX11_mostSpecial_132 (by decide +kernel) ?_
  refine s_iload hZ.1 dX11_mostSpecial_133 ?_
  refine s_lshl dX11_mostSpecial_135 ?_
  refine s_lor dX11_mostSpecial_136 ?_
  refine s_lstore hZ.1 dX11_mostSpecial_137 (Nat.le_of_ble_eq_true rfl) ?_
  exact (wX11_mostSpecial_139 hZ j hj)
noncomputable def vX11_mostSpecial_113 (j : Nat → rx_K) : rx_K := o_ld rx_isR 9 (o_getf 7 1 (o_c1 rx_eq (vX11_mostSpecial_139 j) (vX11_mostSpecial_121 j)))
set_option maxRecDepth 20000 in
theorem wX11_mostSpecial_113 (hZ : zO b e D A X) (j : Nat → rx_K) (hj : ∀ k pc, [18, 60, 151, 193][k]? = some pc → rx_OK (zV b e D A X) mX11_mostSpecial 1 pc (j k)) : rx_OK (zV b e D A X) mX11_mostSpecial 1 113 (vX11_mostSpecial_113 j) := by
  unfold vX11_mostSpecial_113
  refine s_aload hZ.1 dX11_mostSpecial_113 ?_
  refine yg7_1 dX11_mostSpecial_115 zw953 ?_
  exact s_if_eq dX11_mostSpecial_118 (by decide) (wX11_mostSpecial_139 hZ j hj) (wX11_mostSpecial_121 hZ j hj)
noncomputable def vX11_mostSpecial_105 (j : Nat → rx_K) : rx_K := o_ld rx_isR 9 (o_getf 7 2 (o_c1 rx_eq (vX11_mostSpecial_113 j) (vX11_mostSpecial_139 j)))
set_option maxRecDepth 20000 in
theorem wX11_mostSpecial_105 (hZ : zO b e D A X) (j : Nat → rx_K) (hj : ∀ k pc, [18, 60, 151, 193][k]? = some pc → rx_OK (zV b e D A X) mX11_mostSpecial 1 pc (j k)) : rx_OK (zV b e D A X) mX11_mostSpecial 1 105 (vX11_mostSpecial_105 j) := by
  unfold vX11_mostSpecial_105
  refine s_aload hZ.1 dX11_mostSpecial_105 ?_
  refine yg7_2 dX11_mostSpecial_107 zw967 ?_
  exact s_if_ne dX11_mostSpecial_110 (by decide) (wX11_mostSpecial_139 hZ j hj) (wX11_mostSpecial_113 hZ j hj)
noncomputable def vX11_mostSpecial_85 (j : Nat → rx_K) : rx_K := o_st rx_isI 8 (o_ld rx_isR 0 (o_getf 11 1 (o_ld rx_isI 8 (o_ald 4 (o_ld rx_isR 2 (o_callV 1 10 FX10_method (o_st rx_isR 9 (o_ld rx_isR 9 (o_nul (vX11_mostSpecial_139 j) (vX11_mostSpecial_105 j))))))))))
set_option maxRecDepth 20000 in
theorem wX11_mostSpecial_85 (hZ : zO b e D A X) (j : Nat → rx_K) (hj : ∀ k pc, [18, 60, 151, 193][k]? = some pc → rx_OK (zV b e D A X) mX11_mostSpecial 1 pc (j k)) : rx_OK (zV b e D A X) mX11_mostSpecial 1 85 (vX11_mostSpecial_85 j) := by
  unfold vX11_mostSpecial_85
  refine s_istore hZ.1 dX11_mostSpecial_85 (Nat.le_of_ble_eq_true rfl) ?_
  refine s_aload_n hZ.1 dX11_mostSpecial_87 rfl ?_
  refine yg11_1 dX11_mostSpecial_88 zw1252 ?_
  refine s_iload hZ.1 dX11_mostSpecial_91 ?_
  refine s_aald (tt := 4) rfl rfl dX11_mostSpecial_93 ?_
  refine s_aload_n hZ.1 dX11_mostSpecial_94 rfl ?_
  refine s_callV hZ.1 (Met_X10_method hZ) (Nat.le_of_ble_eq_true rfl) vy_X10_method zcl10 zw2011 zw2012 (Or.inl zw2033) dX11_mostSpecial_95 ?_
  refine s_astore hZ.1 dX11_mostSpecial_98 (Nat.le_of_ble_eq_true rfl) ?_
  refine s_aload hZ.1 dX11_mostSpecial_100 ?_
  exact s_ifnull dX11_mostSpecial_102 (by decide) (wX11_mostSpecial_139 hZ j hj) (wX11_mostSpecial_105 hZ j hj)
noncomputable def vX11_mostSpecial_75 (j : Nat → rx_K) : rx_K := o_ld rx_isR 0 (o_getf 11 10 (o_ld rx_isI 4 (o_ld rx_isI 7 (o_bi (fun x y => x + y) (o_ald 0 ((vX11_mostSpecial_85 j)))))))
set_option maxRecDepth 20000 in
theorem wX11_mostSpecial_75 (hZ : zO b e D A X) (j : Nat → rx_K) (hj : ∀ k pc, [18, 60, 151, 193][k]? = some pc → rx_OK (zV b e D A X) mX11_mostSpecial 1 pc (j k)) : rx_OK (zV b e D A X) mX11_mostSpecial 1 75 (vX11_mostSpecial_75 j) := by
  unfold vX11_mostSpecial_75
  refine s_aload_n hZ.1 dX11_mostSpecial_75 rfl ?_
  refine yg11_10 dX11_mostSpecial_76 zw1282 ?_
  refine s_iload hZ.1 dX11_mostSpecial_79 ?_
  refine s_iload hZ.1 dX11_mostSpecial_81 ?_
  refine s_iadd dX11_mostSpecial_83 ?_
  refine s_iald (tt := 0) rfl dX11_mostSpecial_84 ?_
  exact (wX11_mostSpecial_85 hZ j hj)
noncomputable def vX11_mostSpecial_71 (j : Nat → rx_K) : rx_K := o_ld rx_isI 1 ((vX11_mostSpecial_85 j))
set_option maxRecDepth 20000 in
theorem wX11_mostSpecial_71 (hZ : zO b e D A X) (j : Nat → rx_K) (hj : ∀ k pc, [18, 60, 151, 193][k]? = some pc → rx_OK (zV b e D A X) mX11_mostSpecial 1 pc (j k)) : rx_OK (zV b e D A X) mX11_mostSpecial 1 71 (vX11_mostSpecial_71 j) := by
  unfold vX11_mostSpecial_71
  refine s_iload_n hZ.1 dX11_mostSpecial_71 rfl ?_
  exact s_goto dX11_mostSpecial_72 (by decide) (wX11_mostSpecial_85 hZ j hj)
noncomputable def vX11_mostSpecial_66 (j : Nat → rx_K) : rx_K := o_ld rx_isI 7 (o_c1 rx_lt (vX11_mostSpecial_71 j) (vX11_mostSpecial_75 j))
set_option maxRecDepth 20000 in
theorem wX11_mostSpecial_66 (hZ : zO b e D A X) (j : Nat → rx_K) (hj : ∀ k pc, [18, 60, 151, 193][k]? = some pc → rx_OK (zV b e D A X) mX11_mostSpecial 1 pc (j k)) : rx_OK (zV b e D A X) mX11_mostSpecial 1 66 (vX11_mostSpecial_66 j) := by
  unfold vX11_mostSpecial_66
  refine s_iload hZ.1 dX11_mostSpecial_66 ?_
  exact s_if_ge dX11_mostSpecial_68 (by decide) (wX11_mostSpecial_75 hZ j hj) (wX11_mostSpecial_71 hZ j hj)
noncomputable def vX11_mostSpecial_60 (j : Nat → rx_K) : rx_K := o_ld rx_isI 7 (o_ld rx_isI 3 (o_c2 rx_lt (vX11_mostSpecial_66 j) (vX11_mostSpecial_145 j)))
set_option maxRecDepth 20000 in
theorem wX11_mostSpecial_60 (hZ : zO b e D A X) (j : Nat → rx_K) (hj : ∀ k pc, [18, 60, 151, 193][k]? = some pc → rx_OK (zV b e D A X) mX11_mostSpecial 1 pc (j k)) : rx_OK (zV b e D A X) mX11_mostSpecial 1 60 (vX11_mostSpecial_60 j) := by
  unfold vX11_mostSpecial_60
  refine s_iload hZ.1 dX11_mostSpecial_60 ?_
  refine s_iload_n hZ.1 dX11_mostSpecial_62 rfl ?_
  exact s_icmp_ge dX11_mostSpecial_63 (by decide) (wX11_mostSpecial_145 hZ j hj) (wX11_mostSpecial_66 hZ j hj)
noncomputable def vX11_mostSpecial_58 (j : Nat → rx_K) : rx_K := o_st rx_isI 7 ((vX11_mostSpecial_60 j))
set_option maxRecDepth 20000 in
theorem wX11_mostSpecial_58 (hZ : zO b e D A X) (j : Nat → rx_K) (hj : ∀ k pc, [18, 60, 151, 193][k]? = some pc → rx_OK (zV b e D A X) mX11_mostSpecial 1 pc (j k)) : rx_OK (zV b e D A X) mX11_mostSpecial 1 58 (vX11_mostSpecial_58 j) := by
  unfold vX11_mostSpecial_58
  refine s_istore hZ.1 dX11_mostSpecial_58 (Nat.le_of_ble_eq_true rfl) ?_
  exact (wX11_mostSpecial_60 hZ j hj)
noncomputable def vX11_mostSpecial_57 (j : Nat → rx_K) : rx_K := o_const 0 ((vX11_mostSpecial_58 j))
set_option maxRecDepth 20000 in
theorem wX11_mostSpecial_57 (hZ : zO b e D A X) (j : Nat → rx_K) (hj : ∀ k pc, [18, 60, 151, 193][k]? = some pc → rx_OK (zV b e D A X) mX11_mostSpecial 1 pc (j k)) : rx_OK (zV b e D A X) mX11_mostSpecial 1 57 (vX11_mostSpecial_57 j) := by
  unfold vX11_mostSpecial_57
  refine s_iconst dX11_mostSpecial_57 (by decide +kernel) ?_
  exact (wX11_mostSpecial_58 hZ j hj)
noncomputable def vX11_mostSpecial_53 (j : Nat → rx_K) : rx_K := o_const 34359738360 ((vX11_mostSpecial_58 j))
set_option maxRecDepth 20000 in
theorem wX11_mostSpecial_53 (hZ : zO b e D A X) (j : Nat → rx_K) (hj : ∀ k pc, [18, 60, 151, 193][k]? = some pc → rx_OK (zV b e D A X) mX11_mostSpecial 1 pc (j k)) : rx_OK (zV b e D A X) mX11_mostSpecial 1 53 (vX11_mostSpecial_53 j) := by
  unfold vX11_mostSpecial_53
  refine s_iconst dX11_mostSpecial_53 (by decide +kernel) ?_
  exact s_goto dX11_mostSpecial_54 (by decide) (wX11_mostSpecial_58 hZ j hj)
noncomputable def vX11_mostSpecial_41 (j : Nat → rx_K) : rx_K := o_ld rx_isR 0 (o_getf 11 1 (o_ld rx_isI 1 (o_ald 4 (o_getf 10 4 (o_c1 rx_eq (vX11_mostSpecial_57 j) (vX11_mostSpecial_53 j))))))
set_option maxRecDepth 20000 in
theorem wX11_mostSpecial_41 (hZ : zO b e D A X) (j : Nat → rx_K) (hj : ∀ k pc, [18, 60, 151, 193][k]? = some pc → rx_OK (zV b e D A X) mX11_mostSpecial 1 pc (j k)) : rx_OK (zV b e D A X) mX11_mostSpecial 1 41 (vX11_mostSpecial_41 j) := by
  unfold vX11_mostSpecial_41
  refine s_aload_n hZ.1 dX11_mostSpecial_41 rfl ?_
  refine yg11_1 dX11_mostSpecial_42 zw1252 ?_
  refine s_iload_n hZ.1 dX11_mostSpecial_45 rfl ?_
  refine s_aald (tt := 4) rfl rfl dX11_mostSpecial_46 ?_
  refine yg10_4 dX11_mostSpecial_47 zw793 ?_
  exact s_if_eq dX11_mostSpecial_50 (by decide) (wX11_mostSpecial_57 hZ j hj) (wX11_mostSpecial_53 hZ j hj)
noncomputable def vX11_mostSpecial_27 (j : Nat → rx_K) : rx_K := o_ld rx_isR 0 (o_getf 11 16 (o_ld rx_isI 7 (o_const 3 (o_aast 5 [7] (o_inc 7 (1) ((j 0)))))))
set_option maxRecDepth 20000 in
theorem wX11_mostSpecial_27 (hZ : zO b e D A X) (j : Nat → rx_K) (hj : ∀ k pc, [18, 60, 151, 193][k]? = some pc → rx_OK (zV b e D A X) mX11_mostSpecial 1 pc (j k)) : rx_OK (zV b e D A X) mX11_mostSpecial 1 27 (vX11_mostSpecial_27 j) := by
  unfold vX11_mostSpecial_27
  refine s_aload_n hZ.1 dX11_mostSpecial_27 rfl ?_
  refine yg11_16 dX11_mostSpecial_28 zw1293 ?_
  refine s_iload hZ.1 dX11_mostSpecial_31 ?_
  refine s_null dX11_mostSpecial_33 ?_
  refine s_aast (tt := 5) rfl zaa7 dX11_mostSpecial_34 ?_
  refine s_iinc hZ.1 dX11_mostSpecial_35 (Nat.le_of_ble_eq_true rfl) ?_
  exact s_goto dX11_mostSpecial_38 (by decide) (hj 0 18 rfl)
noncomputable def vX11_mostSpecial_18 (j : Nat → rx_K) : rx_K := o_ld rx_isI 7 (o_ld rx_isR 0 (o_getf 11 2 (o_c2 rx_lt (vX11_mostSpecial_27 j) (vX11_mostSpecial_41 j))))
set_option maxRecDepth 20000 in
theorem wX11_mostSpecial_18 (hZ : zO b e D A X) (j : Nat → rx_K) (hj : ∀ k pc, [18, 60, 151, 193][k]? = some pc → rx_OK (zV b e D A X) mX11_mostSpecial 1 pc (j k)) : rx_OK (zV b e D A X) mX11_mostSpecial 1 18 (vX11_mostSpecial_18 j) := by
  unfold vX11_mostSpecial_18
  refine s_iload hZ.1 dX11_mostSpecial_18 ?_
  refine s_aload_n hZ.1 dX11_mostSpecial_20 rfl ?_
  refine yg11_2 dX11_mostSpecial_21 zw1260 ?_
  exact s_icmp_ge dX11_mostSpecial_24 (by decide) (wX11_mostSpecial_41 hZ j hj) (wX11_mostSpecial_27 hZ j hj)
noncomputable def vX11_mostSpecial_0 (j : Nat → rx_K) : rx_K := o_ld rx_isR 0 (o_ld rx_isI 1 (o_callV 1 11 FX11_faces (o_st rx_isI 3 (o_ld rx_isI 1 (o_const 512 (o_bi (fun x y => x * y) (o_st rx_isI 4 (o_const 1 (o_stL 5 (o_const 0 (o_st rx_isI 7 ((vX11_mostSpecial_18 j)))))))))))))
set_option maxRecDepth 20000 in
theorem wX11_mostSpecial_0 (hZ : zO b e D A X) (j : Nat → rx_K) (hj : ∀ k pc, [18, 60, 151, 193][k]? = some pc → rx_OK (zV b e D A X) mX11_mostSpecial 1 pc (j k)) : rx_OK (zV b e D A X) mX11_mostSpecial 1 0 (vX11_mostSpecial_0 j) := by
  unfold vX11_mostSpecial_0
  refine s_aload_n hZ.1 dX11_mostSpecial_0 rfl ?_
  refine s_iload_n hZ.1 dX11_mostSpecial_1 rfl ?_
  refine s_callV hZ.1 (Met_X11_faces hZ) (Nat.le_of_ble_eq_true rfl) vy_X11_faces zcl11 zw1984 zw1985 (Or.inl zw2043) dX11_mostSpecial_2 ?_
  refine s_istore_n hZ.1 dX11_mostSpecial_5 rfl (Nat.le_of_ble_eq_true rfl) ?_
  refine s_iload_n hZ.1 dX11_mostSpecial_6 rfl ?_
  refine s_bipush dX11_mostSpecial_7 (by decide +kernel) ?_
  refine s_imul dX11_mostSpecial_9 ?_
  refine s_istore hZ.1 dX11_mostSpecial_10 (Nat.le_of_ble_eq_true rfl) ?_
  refine s_lconst dX11_mostSpecial_12 (by decide +kernel) ?_
  refine s_lstore hZ.1 dX11_mostSpecial_13 (Nat.le_of_ble_eq_true rfl) ?_
  refine s_iconst dX11_mostSpecial_15 (by decide +kernel) ?_
  refine s_istore hZ.1 dX11_mostSpecial_16 (Nat.le_of_ble_eq_true rfl) ?_
  exact (wX11_mostSpecial_18 hZ j hj)
noncomputable def vhX11_mostSpecial (j : Nat → rx_K) : List rx_K := [vX11_mostSpecial_18 j, vX11_mostSpecial_60 j, vX11_mostSpecial_151 j, vX11_mostSpecial_193 j]
theorem vlX11_mostSpecial (hZ : zO b e D A X) : ∀ n k pc, [18, 60, 151, 193][k]? = some pc → rx_OK (zV b e D A X) mX11_mostSpecial 1 pc (rx_J (vhX11_mostSpecial) n k) := rx_loop fun j hj k pc h => by
  match k, h with
  | 0, h =>
    have e9 := Option.some.inj (show some 18 = some pc from h)
    subst e9
    exact wX11_mostSpecial_18 hZ j hj
  | 1, h =>
    have e9 := Option.some.inj (show some 60 = some pc from h)
    subst e9
    exact wX11_mostSpecial_60 hZ j hj
  | 2, h =>
    have e9 := Option.some.inj (show some 151 = some pc from h)
    subst e9
    exact wX11_mostSpecial_151 hZ j hj
  | 3, h =>
    have e9 := Option.some.inj (show some 193 = some pc from h)
    subst e9
    exact wX11_mostSpecial_193 hZ j hj
  | _ + 4, h => exact absurd h (by simp)
noncomputable def FX11_mostSpecial : List Nat → rx_H → Option (Nat × rx_H) := rx_ent 11 (vX11_mostSpecial_0 (rx_J (vhX11_mostSpecial) 4000000000))
theorem Met_X11_mostSpecial (hZ : zO b e D A X) : rx_Met (zV b e D A X) 1 yX11_mostSpecial mX11_mostSpecial (FX11_mostSpecial) := rx_entry hZ.1 (wX11_mostSpecial_0 hZ _ (vlX11_mostSpecial hZ 4000000000)) (by decide +kernel) rfl (fun h => by cases h)
abbrev mX11_overrides : rx_M := (RX11, cX11_overrides, 12, (some .boolean), false)
theorem vy_X11_overrides : rx_Y (zV b e D A X) yX11_overrides mX11_overrides 3 := ⟨zw2038, zw423, by decide, by decide +kernel, by decide +kernel, by decide +kernel⟩
noncomputable def vX11_overrides_223 (j : Nat → rx_K) : rx_K := o_ld rx_isI 8 (o_ret1 rx_isZ)
set_option maxRecDepth 20000 in
theorem wX11_overrides_223 (hZ : zO b e D A X) (j : Nat → rx_K) (hj : ∀ k pc, [9, 107][k]? = some pc → rx_OK (zV b e D A X) mX11_overrides 1 pc (j k)) : rx_OK (zV b e D A X) mX11_overrides 1 223 (vX11_overrides_223 j) := by
  unfold vX11_overrides_223
  refine s_iload hZ.1 dX11_overrides_223 ?_
  exact s_zret rx_z_ok rfl dX11_overrides_225
noncomputable def vX11_overrides_217 (j : Nat → rx_K) : rx_K := o_inc 9 (-1) ((j 1))
set_option maxRecDepth 20000 in
theorem wX11_overrides_217 (hZ : zO b e D A X) (j : Nat → rx_K) (hj : ∀ k pc, [9, 107][k]? = some pc → rx_OK (zV b e D A X) mX11_overrides 1 pc (j k)) : rx_OK (zV b e D A X) mX11_overrides 1 217 (vX11_overrides_217 j) := by
  unfold vX11_overrides_217
  refine s_iinc hZ.1 dX11_overrides_217 (Nat.le_of_ble_eq_true rfl) ?_
  exact s_goto dX11_overrides_220 (by decide) (hj 1 107 rfl)
noncomputable def vX11_overrides_207 (j : Nat → rx_K) : rx_K := o_bi (fun x y => x ||| y) (o_st rx_isI 6 (o_ld rx_isI 7 (o_ld rx_isI 11 (o_bi (fun x y => x ||| y) (o_st rx_isI 7 ((vX11_overrides_217 j)))))))
set_option maxRecDepth 20000 in
theorem wX11_overrides_207 (hZ : zO b e D A X) (j : Nat → rx_K) (hj : ∀ k pc, [9, 107][k]? = some pc → rx_OK (zV b e D A X) mX11_overrides 1 pc (j k)) : rx_OK (zV b e D A X) mX11_overrides 1 207 (vX11_overrides_207 j) := by
  unfold vX11_overrides_207
  refine s_ior dX11_overrides_207 ?_
  refine s_istore hZ.1 dX11_overrides_208 (Nat.le_of_ble_eq_true rfl) ?_
  refine s_iload hZ.1 dX11_overrides_210 ?_
  refine s_iload hZ.1 dX11_overrides_212 ?_
  refine s_ior dX11_overrides_214 ?_
  refine s_istore hZ.1 dX11_overrides_215 (Nat.le_of_ble_eq_true rfl) ?_
  exact (wX11_overrides_217 hZ j hj)
noncomputable def vX11_overrides_206 (j : Nat → rx_K) : rx_K := o_const 0 ((vX11_overrides_207 j))
set_option maxRecDepth 20000 in
theorem wX11_overrides_206 (hZ : zO b e D A X) (j : Nat → rx_K) (hj : ∀ k pc, [9, 107][k]? = some pc → rx_OK (zV b e D A X) mX11_overrides 1 pc (j k)) : rx_OK (zV b e D A X) mX11_overrides 1 206 (vX11_overrides_206 j) := by
  unfold vX11_overrides_206
  refine s_iconst dX11_overrides_206 (by decide +kernel) ?_
  exact (wX11_overrides_207 hZ j hj)
noncomputable def vX11_overrides_202 (j : Nat → rx_K) : rx_K := o_const 8 ((vX11_overrides_207 j))
set_option maxRecDepth 20000 in
theorem wX11_overrides_202 (hZ : zO b e D A X) (j : Nat → rx_K) (hj : ∀ k pc, [9, 107][k]? = some pc → rx_OK (zV b e D A X) mX11_overrides 1 pc (j k)) : rx_OK (zV b e D A X) mX11_overrides 1 202 (vX11_overrides_202 j) := by
  unfold vX11_overrides_202
  refine s_iconst dX11_overrides_202 (by decide +kernel) ?_
  exact s_goto dX11_overrides_203 (by decide) (wX11_overrides_207 hZ j hj)
noncomputable def vX11_overrides_191 (j : Nat → rx_K) : rx_K := o_ld rx_isI 6 (o_ld rx_isR 10 (o_getf 7 1 (o_const 16 (o_c2 rx_lt (vX11_overrides_206 j) (vX11_overrides_202 j)))))
set_option maxRecDepth 20000 in
theorem wX11_overrides_191 (hZ : zO b e D A X) (j : Nat → rx_K) (hj : ∀ k pc, [9, 107][k]? = some pc → rx_OK (zV b e D A X) mX11_overrides 1 pc (j k)) : rx_OK (zV b e D A X) mX11_overrides 1 191 (vX11_overrides_191 j) := by
  unfold vX11_overrides_191
  refine s_iload hZ.1 dX11_overrides_191 ?_
  refine s_aload hZ.1 dX11_overrides_193 ?_
  refine yg7_1 dX11_overrides_195 zw953 ?_
  refine s_iconst dX11_overrides_198 (by decide +kernel) ?_
  exact s_icmp_lt dX11_overrides_199 (by decide) (wX11_overrides_206 hZ j hj) (wX11_overrides_202 hZ j hj)
noncomputable def vX11_overrides_184 (j : Nat → rx_K) : rx_K := o_st rx_isI 8 (o_ld rx_isI 8 (o_c1 rx_eq (vX11_overrides_217 j) (vX11_overrides_191 j)))
set_option maxRecDepth 20000 in
theorem wX11_overrides_184 (hZ : zO b e D A X) (j : Nat → rx_K) (hj : ∀ k pc, [9, 107][k]? = some pc → rx_OK (zV b e D A X) mX11_overrides 1 pc (j k)) : rx_OK (zV b e D A X) mX11_overrides 1 184 (vX11_overrides_184 j) := by
  unfold vX11_overrides_184
  refine s_istore hZ.1 dX11_overrides_184 (Nat.le_of_ble_eq_true rfl) ?_
  refine s_iload hZ.1 dX11_overrides_186 ?_
  exact s_if_eq dX11_overrides_188 (by decide) (wX11_overrides_217 hZ j hj) (wX11_overrides_191 hZ j hj)
noncomputable def vX11_overrides_183 (j : Nat → rx_K) : rx_K := o_const 0 ((vX11_overrides_184 j))
set_option maxRecDepth 20000 in
theorem wX11_overrides_183 (hZ : zO b e D A X) (j : Nat → rx_K) (hj : ∀ k pc, [9, 107][k]? = some pc → rx_OK (zV b e D A X) mX11_overrides 1 pc (j k)) : rx_OK (zV b e D A X) mX11_overrides 1 183 (vX11_overrides_183 j) := by
  unfold vX11_overrides_183
  refine s_iconst dX11_overrides_183 (by decide +kernel) ?_
  exact (wX11_overrides_184 hZ j hj)
noncomputable def vX11_overrides_179 (j : Nat → rx_K) : rx_K := o_const 8 ((vX11_overrides_184 j))
set_option maxRecDepth 20000 in
theorem wX11_overrides_179 (hZ : zO b e D A X) (j : Nat → rx_K) (hj : ∀ k pc, [9, 107][k]? = some pc → rx_OK (zV b e D A X) mX11_overrides 1 pc (j k)) : rx_OK (zV b e D A X) mX11_overrides 1 179 (vX11_overrides_179 j) := by
  unfold vX11_overrides_179
  refine s_iconst dX11_overrides_179 (by decide +kernel) ?_
  exact s_goto dX11_overrides_180 (by decide) (wX11_overrides_184 hZ j hj)
noncomputable def vX11_overrides_171 (j : Nat → rx_K) : rx_K := o_ld rx_isI 7 (o_ld rx_isI 11 (o_bi (fun x y => x &&& y) (o_c1 rx_eq (vX11_overrides_183 j) (vX11_overrides_179 j))))
set_option maxRecDepth 20000 in
theorem wX11_overrides_171 (hZ : zO b e D A X) (j : Nat → rx_K) (hj : ∀ k pc, [9, 107][k]? = some pc → rx_OK (zV b e D A X) mX11_overrides 1 pc (j k)) : rx_OK (zV b e D A X) mX11_overrides 1 171 (vX11_overrides_171 j) := by
  unfold vX11_overrides_171
  refine s_iload hZ.1 dX11_overrides_171 ?_
  refine s_iload hZ.1 dX11_overrides_173 ?_
  refine s_iand dX11_overrides_175 ?_
  exact s_if_eq dX11_overrides_176 (by decide) (wX11_overrides_183 hZ j hj) (wX11_overrides_179 hZ j hj)
noncomputable def vX11_overrides_166 (j : Nat → rx_K) : rx_K := o_ld rx_isI 6 (o_c1 rx_eq (vX11_overrides_171 j) (vX11_overrides_179 j))
set_option maxRecDepth 20000 in
theorem wX11_overrides_166 (hZ : zO b e D A X) (j : Nat → rx_K) (hj : ∀ k pc, [9, 107][k]? = some pc → rx_OK (zV b e D A X) mX11_overrides 1 pc (j k)) : rx_OK (zV b e D A X) mX11_overrides 1 166 (vX11_overrides_166 j) := by
  unfold vX11_overrides_166
  refine s_iload hZ.1 dX11_overrides_166 ?_
  exact s_if_ne dX11_overrides_168 (by decide) (wX11_overrides_179 hZ j hj) (wX11_overrides_171 hZ j hj)
noncomputable def vX11_overrides_158 (j : Nat → rx_K) : rx_K := o_ld rx_isR 10 (o_callV 0 7 FX7_ofObjects (o_c1 rx_eq (vX11_overrides_183 j) (vX11_overrides_166 j)))
set_option maxRecDepth 20000 in
theorem wX11_overrides_158 (hZ : zO b e D A X) (j : Nat → rx_K) (hj : ∀ k pc, [9, 107][k]? = some pc → rx_OK (zV b e D A X) mX11_overrides 1 pc (j k)) : rx_OK (zV b e D A X) mX11_overrides 1 158 (vX11_overrides_158 j) := by
  unfold vX11_overrides_158
  refine s_aload hZ.1 dX11_overrides_158 ?_
  refine s_callV hZ.1 (Met_X7_ofObjects hZ) (Nat.le_of_ble_eq_true rfl) vy_X7_ofObjects zcl7 zw2003 zw2004 (Or.inl zw2034) dX11_overrides_160 ?_
  exact s_if_eq dX11_overrides_163 (by decide) (wX11_overrides_183 hZ j hj) (wX11_overrides_166 hZ j hj)
noncomputable def vX11_overrides_153 (j : Nat → rx_K) : rx_K := o_ld rx_isR 10 (o_nul (vX11_overrides_183 j) (vX11_overrides_158 j))
set_option maxRecDepth 20000 in
theorem wX11_overrides_153 (hZ : zO b e D A X) (j : Nat → rx_K) (hj : ∀ k pc, [9, 107][k]? = some pc → rx_OK (zV b e D A X) mX11_overrides 1 pc (j k)) : rx_OK (zV b e D A X) mX11_overrides 1 153 (vX11_overrides_153 j) := by
  unfold vX11_overrides_153
  refine s_aload hZ.1 dX11_overrides_153 ?_
  exact s_ifnull dX11_overrides_155 (by decide) (wX11_overrides_183 hZ j hj) (wX11_overrides_158 hZ j hj)
noncomputable def vX11_overrides_112 (j : Nat → rx_K) : rx_K := o_ld rx_isR 0 (o_getf 11 1 (o_ld rx_isR 0 (o_getf 11 12 (o_ld rx_isI 9 (o_ald 0 (o_ald 4 (o_ld rx_isR 3 (o_callV 1 10 FX10_method (o_st rx_isR 10 (o_const 8 (o_ld rx_isR 0 (o_getf 11 1 (o_ld rx_isR 0 (o_getf 11 12 (o_ld rx_isI 9 (o_ald 0 (o_ald 4 (o_getf 10 1 (o_const 472 (o_bs (fun x y => (x.toUInt64 >>> (y.toInt64.toUInt64 &&& Int64.toUInt64 63)).toInt64) (o_li (fun x => x.toInt32) (o_bi (fun x y => x <<< (y &&& 31)) (o_st rx_isI 11 ((vX11_overrides_153 j)))))))))))))))))))))))))
set_option maxRecDepth 20000 in
theorem wX11_overrides_112 (hZ : zO b e D A X) (j : Nat → rx_K) (hj : ∀ k pc, [9, 107][k]? = some pc → rx_OK (zV b e D A X) mX11_overrides 1 pc (j k)) : rx_OK (zV b e D A X) mX11_overrides 1 112 (vX11_overrides_112 j) := by
  unfold vX11_overrides_112
  refine s_aload_n hZ.1 dX11_overrides_112 rfl ?_
  refine yg11_1 dX11_overrides_113 zw1252 ?_
  refine s_aload_n hZ.1 dX11_overrides_116 rfl ?_
  refine yg11_12 dX11_overrides_117 zw1287 ?_
  refine s_iload hZ.1 dX11_overrides_120 ?_
  refine s_iald (tt := 0) rfl dX11_overrides_122 ?_
  refine s_aald (tt := 4) rfl rfl dX11_overrides_123 ?_
  refine s_aload_n hZ.1 dX11_overrides_124 rfl ?_
  refine s_callV hZ.1 (Met_X10_method hZ) (Nat.le_of_ble_eq_true rfl) vy_X10_method zcl10 zw2011 zw2012 (Or.inl zw2033) dX11_overrides_125 ?_
  refine s_astore hZ.1 dX11_overrides_128 (Nat.le_of_ble_eq_true rfl) ?_
  refine s_iconst dX11_overrides_130 (by decide +kernel) ?_
  refine s_aload_n hZ.1 dX11_overrides_131 rfl ?_
  refine yg11_1 dX11_overrides_132 zw1252 ?_
  refine s_aload_n hZ.1 dX11_overrides_135 rfl ?_
  refine yg11_12 dX11_overrides_136 zw1287 ?_
  refine s_iload hZ.1 dX11_overrides_139 ?_
  refine s_iald (tt := 0) rfl dX11_overrides_141 ?_
  refine s_aald (tt := 4) rfl rfl dX11_overrides_142 ?_
  refine yg10_1 dX11_overrides_143 zw768 ?_
  refine s_bipush dX11_overrides_146 (by decide +kernel) ?_
  refine s_lushr dX11_overrides_148 ?_
  refine s_l2i dX11_overrides_149 ?_
  refine s_ishl dX11_overrides_150 ?_
  refine s_istore hZ.1 dX11_overrides_151 (Nat.le_of_ble_eq_true rfl) ?_
  exact (wX11_overrides_153 hZ j hj)
noncomputable def vX11_overrides_107 (j : Nat → rx_K) : rx_K := o_ld rx_isI 9 (o_c1 rx_lt (vX11_overrides_223 j) (vX11_overrides_112 j))
set_option maxRecDepth 20000 in
theorem wX11_overrides_107 (hZ : zO b e D A X) (j : Nat → rx_K) (hj : ∀ k pc, [9, 107][k]? = some pc → rx_OK (zV b e D A X) mX11_overrides 1 pc (j k)) : rx_OK (zV b e D A X) mX11_overrides 1 107 (vX11_overrides_107 j) := by
  unfold vX11_overrides_107
  refine s_iload hZ.1 dX11_overrides_107 ?_
  exact s_if_lt dX11_overrides_109 (by decide) (wX11_overrides_223 hZ j hj) (wX11_overrides_112 hZ j hj)
noncomputable def vX11_overrides_79 (j : Nat → rx_K) : rx_K := o_st rx_isI 6 (o_const 8 (o_ld rx_isR 0 (o_getf 11 1 (o_ld rx_isI 2 (o_ald 4 (o_getf 10 1 (o_const 472 (o_bs (fun x y => (x.toUInt64 >>> (y.toInt64.toUInt64 &&& Int64.toUInt64 63)).toInt64) (o_li (fun x => x.toInt32) (o_bi (fun x y => x <<< (y &&& 31)) (o_st rx_isI 7 (o_const 0 (o_st rx_isI 8 (o_ld rx_isI 4 (o_const 8 (o_bi (fun x y => x - y) (o_st rx_isI 9 ((vX11_overrides_107 j)))))))))))))))))))
set_option maxRecDepth 20000 in
theorem wX11_overrides_79 (hZ : zO b e D A X) (j : Nat → rx_K) (hj : ∀ k pc, [9, 107][k]? = some pc → rx_OK (zV b e D A X) mX11_overrides 1 pc (j k)) : rx_OK (zV b e D A X) mX11_overrides 1 79 (vX11_overrides_79 j) := by
  unfold vX11_overrides_79
  refine s_istore hZ.1 dX11_overrides_79 (Nat.le_of_ble_eq_true rfl) ?_
  refine s_iconst dX11_overrides_81 (by decide +kernel) ?_
  refine s_aload_n hZ.1 dX11_overrides_82 rfl ?_
  refine yg11_1 dX11_overrides_83 zw1252 ?_
  refine s_iload_n hZ.1 dX11_overrides_86 rfl ?_
  refine s_aald (tt := 4) rfl rfl dX11_overrides_87 ?_
  refine yg10_1 dX11_overrides_88 zw768 ?_
  refine s_bipush dX11_overrides_91 (by decide +kernel) ?_
  refine s_lushr dX11_overrides_93 ?_
  refine s_l2i dX11_overrides_94 ?_
  refine s_ishl dX11_overrides_95 ?_
  refine s_istore hZ.1 dX11_overrides_96 (Nat.le_of_ble_eq_true rfl) ?_
  refine s_iconst dX11_overrides_98 (by decide +kernel) ?_
  refine s_istore hZ.1 dX11_overrides_99 (Nat.le_of_ble_eq_true rfl) ?_
  refine s_iload hZ.1 dX11_overrides_101 ?_
  refine s_iconst dX11_overrides_103 (by decide +kernel) ?_
  refine s_isub dX11_overrides_104 ?_
  refine s_istore hZ.1 dX11_overrides_105 (Nat.le_of_ble_eq_true rfl) ?_
  exact (wX11_overrides_107 hZ j hj)
noncomputable def vX11_overrides_78 (j : Nat → rx_K) : rx_K := o_const 0 ((vX11_overrides_79 j))
set_option maxRecDepth 20000 in
theorem wX11_overrides_78 (hZ : zO b e D A X) (j : Nat → rx_K) (hj : ∀ k pc, [9, 107][k]? = some pc → rx_OK (zV b e D A X) mX11_overrides 1 pc (j k)) : rx_OK (zV b e D A X) mX11_overrides 1 78 (vX11_overrides_78 j) := by
  unfold vX11_overrides_78
  refine s_iconst dX11_overrides_78 (by decide +kernel) ?_
  exact (wX11_overrides_79 hZ j hj)
noncomputable def vX11_overrides_74 (j : Nat → rx_K) : rx_K := o_const 8 ((vX11_overrides_79 j))
set_option maxRecDepth 20000 in
theorem wX11_overrides_74 (hZ : zO b e D A X) (j : Nat → rx_K) (hj : ∀ k pc, [9, 107][k]? = some pc → rx_OK (zV b e D A X) mX11_overrides 1 pc (j k)) : rx_OK (zV b e D A X) mX11_overrides 1 74 (vX11_overrides_74 j) := by
  unfold vX11_overrides_74
  refine s_iconst dX11_overrides_74 (by decide +kernel) ?_
  exact s_goto dX11_overrides_75 (by decide) (wX11_overrides_79 hZ j hj)
noncomputable def vX11_overrides_66 (j : Nat → rx_K) : rx_K := o_ld rx_isR 3 (o_getf 7 1 (o_const 16 (o_c2 rx_lt (vX11_overrides_78 j) (vX11_overrides_74 j))))
set_option maxRecDepth 20000 in
theorem wX11_overrides_66 (hZ : zO b e D A X) (j : Nat → rx_K) (hj : ∀ k pc, [9, 107][k]? = some pc → rx_OK (zV b e D A X) mX11_overrides 1 pc (j k)) : rx_OK (zV b e D A X) mX11_overrides 1 66 (vX11_overrides_66 j) := by
  unfold vX11_overrides_66
  refine s_aload_n hZ.1 dX11_overrides_66 rfl ?_
  refine yg7_1 dX11_overrides_67 zw953 ?_
  refine s_iconst dX11_overrides_70 (by decide +kernel) ?_
  exact s_icmp_lt dX11_overrides_71 (by decide) (wX11_overrides_78 hZ j hj) (wX11_overrides_74 hZ j hj)
noncomputable def vX11_overrides_64 (j : Nat → rx_K) : rx_K := o_const 0 (o_ret1 rx_isZ)
set_option maxRecDepth 20000 in
theorem wX11_overrides_64 (hZ : zO b e D A X) (j : Nat → rx_K) (hj : ∀ k pc, [9, 107][k]? = some pc → rx_OK (zV b e D A X) mX11_overrides 1 pc (j k)) : rx_OK (zV b e D A X) mX11_overrides 1 64 (vX11_overrides_64 j) := by
  unfold vX11_overrides_64
  refine s_iconst dX11_overrides_64 (by decide +kernel) ?_
  exact s_zret rx_z_ok rfl dX11_overrides_65
noncomputable def vX11_overrides_59 (j : Nat → rx_K) : rx_K := o_ld rx_isI 4 (o_c1 rx_eq (vX11_overrides_64 j) (vX11_overrides_66 j))
set_option maxRecDepth 20000 in
theorem wX11_overrides_59 (hZ : zO b e D A X) (j : Nat → rx_K) (hj : ∀ k pc, [9, 107][k]? = some pc → rx_OK (zV b e D A X) mX11_overrides 1 pc (j k)) : rx_OK (zV b e D A X) mX11_overrides 1 59 (vX11_overrides_59 j) := by
  unfold vX11_overrides_59
  refine s_iload hZ.1 dX11_overrides_59 ?_
  exact s_if_ne dX11_overrides_61 (by decide) (wX11_overrides_66 hZ j hj) (wX11_overrides_64 hZ j hj)
noncomputable def vX11_overrides_53 (j : Nat → rx_K) : rx_K := o_ld rx_isI 5 (o_ld rx_isI 2 (o_c2 rx_eq (vX11_overrides_59 j) (vX11_overrides_64 j)))
set_option maxRecDepth 20000 in
theorem wX11_overrides_53 (hZ : zO b e D A X) (j : Nat → rx_K) (hj : ∀ k pc, [9, 107][k]? = some pc → rx_OK (zV b e D A X) mX11_overrides 1 pc (j k)) : rx_OK (zV b e D A X) mX11_overrides 1 53 (vX11_overrides_53 j) := by
  unfold vX11_overrides_53
  refine s_iload hZ.1 dX11_overrides_53 ?_
  refine s_iload_n hZ.1 dX11_overrides_55 rfl ?_
  exact s_icmp_ne dX11_overrides_56 (by decide) (wX11_overrides_64 hZ j hj) (wX11_overrides_59 hZ j hj)
noncomputable def vX11_overrides_26 (j : Nat → rx_K) : rx_K := o_ld rx_isR 0 (o_getf 11 12 (o_ld rx_isI 4 (o_ld rx_isI 5 (o_ast 0 (fun v => v) rx_isI (o_inc 4 (1) (o_ld rx_isR 0 (o_getf 11 3 (o_ld rx_isI 5 (o_ald 0 (o_st rx_isI 5 (o_inc 6 (1) ((j 0)))))))))))))
set_option maxRecDepth 20000 in
theorem wX11_overrides_26 (hZ : zO b e D A X) (j : Nat → rx_K) (hj : ∀ k pc, [9, 107][k]? = some pc → rx_OK (zV b e D A X) mX11_overrides 1 pc (j k)) : rx_OK (zV b e D A X) mX11_overrides 1 26 (vX11_overrides_26 j) := by
  unfold vX11_overrides_26
  refine s_aload_n hZ.1 dX11_overrides_26 rfl ?_
  refine yg11_12 dX11_overrides_27 zw1287 ?_
  refine s_iload hZ.1 dX11_overrides_30 ?_
  refine s_iload hZ.1 dX11_overrides_32 ?_
  refine s_iast hZ.1 (tt := 0) rfl dX11_overrides_34 ?_
  refine s_iinc hZ.1 dX11_overrides_35 (Nat.le_of_ble_eq_true rfl) ?_
  refine s_aload_n hZ.1 dX11_overrides_38 rfl ?_
  refine yg11_3 dX11_overrides_39 zw1262 ?_
  refine s_iload hZ.1 dX11_overrides_42 ?_
  refine s_iald (tt := 0) rfl dX11_overrides_44 ?_
  refine s_istore hZ.1 dX11_overrides_45 (Nat.le_of_ble_eq_true rfl) ?_
  refine s_iinc hZ.1 dX11_overrides_47 (Nat.le_of_ble_eq_true rfl) ?_
  exact s_goto dX11_overrides_50 (by decide) (hj 0 9 rfl)
noncomputable def vX11_overrides_20 (j : Nat → rx_K) : rx_K := o_ld rx_isI 5 (o_ld rx_isI 2 (o_c2 rx_eq (vX11_overrides_53 j) (vX11_overrides_26 j)))
set_option maxRecDepth 20000 in
theorem wX11_overrides_20 (hZ : zO b e D A X) (j : Nat → rx_K) (hj : ∀ k pc, [9, 107][k]? = some pc → rx_OK (zV b e D A X) mX11_overrides 1 pc (j k)) : rx_OK (zV b e D A X) mX11_overrides 1 20 (vX11_overrides_20 j) := by
  unfold vX11_overrides_20
  refine s_iload hZ.1 dX11_overrides_20 ?_
  refine s_iload_n hZ.1 dX11_overrides_22 rfl ?_
  exact s_icmp_eq dX11_overrides_23 (by decide) (wX11_overrides_53 hZ j hj) (wX11_overrides_26 hZ j hj)
noncomputable def vX11_overrides_9 (j : Nat → rx_K) : rx_K := o_ld rx_isI 6 (o_ld rx_isR 0 (o_getf 11 4 (o_ld rx_isI 1 (o_ald 0 (o_c2 rx_lt (vX11_overrides_20 j) (vX11_overrides_53 j))))))
set_option maxRecDepth 20000 in
theorem wX11_overrides_9 (hZ : zO b e D A X) (j : Nat → rx_K) (hj : ∀ k pc, [9, 107][k]? = some pc → rx_OK (zV b e D A X) mX11_overrides 1 pc (j k)) : rx_OK (zV b e D A X) mX11_overrides 1 9 (vX11_overrides_9 j) := by
  unfold vX11_overrides_9
  refine s_iload hZ.1 dX11_overrides_9 ?_
  refine s_aload_n hZ.1 dX11_overrides_11 rfl ?_
  refine yg11_4 dX11_overrides_12 zw1267 ?_
  refine s_iload_n hZ.1 dX11_overrides_15 rfl ?_
  refine s_iald (tt := 0) rfl dX11_overrides_16 ?_
  exact s_icmp_ge dX11_overrides_17 (by decide) (wX11_overrides_53 hZ j hj) (wX11_overrides_20 hZ j hj)
noncomputable def vX11_overrides_0 (j : Nat → rx_K) : rx_K := o_const 0 (o_st rx_isI 4 (o_ld rx_isI 1 (o_st rx_isI 5 (o_const 0 (o_st rx_isI 6 ((vX11_overrides_9 j)))))))
set_option maxRecDepth 20000 in
theorem wX11_overrides_0 (hZ : zO b e D A X) (j : Nat → rx_K) (hj : ∀ k pc, [9, 107][k]? = some pc → rx_OK (zV b e D A X) mX11_overrides 1 pc (j k)) : rx_OK (zV b e D A X) mX11_overrides 1 0 (vX11_overrides_0 j) := by
  unfold vX11_overrides_0
  refine s_iconst dX11_overrides_0 (by decide +kernel) ?_
  refine s_istore hZ.1 dX11_overrides_1 (Nat.le_of_ble_eq_true rfl) ?_
  refine s_iload_n hZ.1 dX11_overrides_3 rfl ?_
  refine s_istore hZ.1 dX11_overrides_4 (Nat.le_of_ble_eq_true rfl) ?_
  refine s_iconst dX11_overrides_6 (by decide +kernel) ?_
  refine s_istore hZ.1 dX11_overrides_7 (Nat.le_of_ble_eq_true rfl) ?_
  exact (wX11_overrides_9 hZ j hj)
noncomputable def vhX11_overrides (j : Nat → rx_K) : List rx_K := [vX11_overrides_9 j, vX11_overrides_107 j]
theorem vlX11_overrides (hZ : zO b e D A X) : ∀ n k pc, [9, 107][k]? = some pc → rx_OK (zV b e D A X) mX11_overrides 1 pc (rx_J (vhX11_overrides) n k) := rx_loop fun j hj k pc h => by
  match k, h with
  | 0, h =>
    have e9 := Option.some.inj (show some 9 = some pc from h)
    subst e9
    exact wX11_overrides_9 hZ j hj
  | 1, h =>
    have e9 := Option.some.inj (show some 107 = some pc from h)
    subst e9
    exact wX11_overrides_107 hZ j hj
  | _ + 2, h => exact absurd h (by simp)
noncomputable def FX11_overrides : List Nat → rx_H → Option (Nat × rx_H) := rx_ent 12 (vX11_overrides_0 (rx_J (vhX11_overrides) 4000000000))
theorem Met_X11_overrides (hZ : zO b e D A X) : rx_Met (zV b e D A X) 1 yX11_overrides mX11_overrides (FX11_overrides) := rx_entry hZ.1 (wX11_overrides_0 hZ _ (vlX11_overrides hZ 4000000000)) (by decide +kernel) rfl (fun h => by cases h)
abbrev mX11_selected : rx_M := (RX11, cX11_selected, 7, (some (.object "LinkHouse$Member")), false)
theorem vy_X11_selected : rx_Y (zV b e D A X) yX11_selected mX11_selected 3 := ⟨zw2032, zw423, by decide, by decide +kernel, by decide +kernel, by decide +kernel⟩
noncomputable def vX11_selected_171 (j : Nat → rx_K) : rx_K := o_ret1 rx_isR
set_option maxRecDepth 20000 in
theorem wX11_selected_171 (hZ : zO b e D A X) (j : Nat → rx_K) (hj : ∀ k pc, [20][k]? = some pc → rx_OK (zV b e D A X) mX11_selected 2 pc (j k)) : rx_OK (zV b e D A X) mX11_selected 2 171 (vX11_selected_171 j) := by
  unfold vX11_selected_171
  exact s_aret hZ.1 rfl (Or.inl ⟨_, rfl⟩) dX11_selected_171
noncomputable def vX11_selected_170 (j : Nat → rx_K) : rx_K := o_const 3 ((vX11_selected_171 j))
set_option maxRecDepth 20000 in
theorem wX11_selected_170 (hZ : zO b e D A X) (j : Nat → rx_K) (hj : ∀ k pc, [20][k]? = some pc → rx_OK (zV b e D A X) mX11_selected 2 pc (j k)) : rx_OK (zV b e D A X) mX11_selected 2 170 (vX11_selected_170 j) := by
  unfold vX11_selected_170
  refine s_null dX11_selected_170 ?_
  exact (wX11_selected_171 hZ j hj)
noncomputable def vX11_selected_163 (j : Nat → rx_K) : rx_K := o_ld rx_isR 0 (o_getf 11 17 ((vX11_selected_171 j)))
set_option maxRecDepth 20000 in
theorem wX11_selected_163 (hZ : zO b e D A X) (j : Nat → rx_K) (hj : ∀ k pc, [20][k]? = some pc → rx_OK (zV b e D A X) mX11_selected 2 pc (j k)) : rx_OK (zV b e D A X) mX11_selected 2 163 (vX11_selected_163 j) := by
  unfold vX11_selected_163
  refine s_aload_n hZ.1 dX11_selected_163 rfl ?_
  refine yg11_17 dX11_selected_164 zw1294 ?_
  exact s_goto dX11_selected_167 (by decide) (wX11_selected_171 hZ j hj)
noncomputable def vX11_selected_154 (j : Nat → rx_K) : rx_K := o_putf rx_isI 11 19 (o_ld rx_isI 5 (o_const 8 (o_c2 rx_eq (vX11_selected_163 j) (vX11_selected_170 j))))
set_option maxRecDepth 20000 in
theorem wX11_selected_154 (hZ : zO b e D A X) (j : Nat → rx_K) (hj : ∀ k pc, [20][k]? = some pc → rx_OK (zV b e D A X) mX11_selected 2 pc (j k)) : rx_OK (zV b e D A X) mX11_selected 2 154 (vX11_selected_154 j) := by
  unfold vX11_selected_154
  refine yp11_19 hZ.1 dX11_selected_154 zw1300 ?_
  refine s_iload hZ.1 dX11_selected_157 ?_
  refine s_iconst dX11_selected_159 (by decide +kernel) ?_
  exact s_icmp_ne dX11_selected_160 (by decide) (wX11_selected_170 hZ j hj) (wX11_selected_163 hZ j hj)
noncomputable def vX11_selected_152 (j : Nat → rx_K) : rx_K := o_const 48 ((vX11_selected_154 j))
set_option maxRecDepth 20000 in
theorem wX11_selected_152 (hZ : zO b e D A X) (j : Nat → rx_K) (hj : ∀ k pc, [20][k]? = some pc → rx_OK (zV b e D A X) mX11_selected 2 pc (j k)) : rx_OK (zV b e D A X) mX11_selected 2 152 (vX11_selected_152 j) := by
  unfold vX11_selected_152
  refine s_bipush dX11_selected_152 (by decide +kernel) ?_
  exact (wX11_selected_154 hZ j hj)
noncomputable def vX11_selected_148 (j : Nat → rx_K) : rx_K := o_const 24 ((vX11_selected_154 j))
set_option maxRecDepth 20000 in
theorem wX11_selected_148 (hZ : zO b e D A X) (j : Nat → rx_K) (hj : ∀ k pc, [20][k]? = some pc → rx_OK (zV b e D A X) mX11_selected 2 pc (j k)) : rx_OK (zV b e D A X) mX11_selected 2 148 (vX11_selected_148 j) := by
  unfold vX11_selected_148
  refine s_iconst dX11_selected_148 (by decide +kernel) ?_
  exact s_goto dX11_selected_149 (by decide) (wX11_selected_154 hZ j hj)
noncomputable def vX11_selected_133 (j : Nat → rx_K) : rx_K := o_ld rx_isR 0 (o_ld rx_isI 3 (o_ld rx_isR 1 (o_callV 2 11 FX11_mostSpecial (o_st rx_isI 5 (o_ld rx_isR 0 (o_ld rx_isI 5 (o_const 8 (o_c2 (fun h x y => rx_lt h y x) (vX11_selected_148 j) (vX11_selected_152 j)))))))))
set_option maxRecDepth 20000 in
theorem wX11_selected_133 (hZ : zO b e D A X) (j : Nat → rx_K) (hj : ∀ k pc, [20][k]? = some pc → rx_OK (zV b e D A X) mX11_selected 2 pc (j k)) : rx_OK (zV b e D A X) mX11_selected 2 133 (vX11_selected_133 j) := by
  unfold vX11_selected_133
  refine s_aload_n hZ.1 dX11_selected_133 rfl ?_
  refine s_iload_n hZ.1 dX11_selected_134 rfl ?_
  refine s_aload_n hZ.1 dX11_selected_135 rfl ?_
  refine s_callV hZ.1 (Met_X11_mostSpecial hZ) (Nat.le_of_ble_eq_true rfl) vy_X11_mostSpecial zcl11 zw2040 zw2041 (Or.inl zw2039) dX11_selected_136 ?_
  refine s_istore hZ.1 dX11_selected_139 (Nat.le_of_ble_eq_true rfl) ?_
  refine s_aload_n hZ.1 dX11_selected_141 rfl ?_
  refine s_iload hZ.1 dX11_selected_142 ?_
  refine s_iconst dX11_selected_144 (by decide +kernel) ?_
  exact s_icmp_le dX11_selected_145 (by decide) (wX11_selected_152 hZ j hj) (wX11_selected_148 hZ j hj)
noncomputable def vX11_selected_118 (j : Nat → rx_K) : rx_K := o_ld rx_isR 0 (o_getf 11 3 (o_ld rx_isI 4 (o_ald 0 (o_st rx_isI 4 (o_inc 5 (1) ((j 0)))))))
set_option maxRecDepth 20000 in
theorem wX11_selected_118 (hZ : zO b e D A X) (j : Nat → rx_K) (hj : ∀ k pc, [20][k]? = some pc → rx_OK (zV b e D A X) mX11_selected 2 pc (j k)) : rx_OK (zV b e D A X) mX11_selected 2 118 (vX11_selected_118 j) := by
  unfold vX11_selected_118
  refine s_aload_n hZ.1 dX11_selected_118 rfl ?_
  refine yg11_3 dX11_selected_119 zw1262 ?_
  refine s_iload hZ.1 dX11_selected_122 ?_
  refine s_iald (tt := 0) rfl dX11_selected_124 ?_
  refine s_istore hZ.1 dX11_selected_125 (Nat.le_of_ble_eq_true rfl) ?_
  refine s_iinc hZ.1 dX11_selected_127 (Nat.le_of_ble_eq_true rfl) ?_
  exact s_goto dX11_selected_130 (by decide) (hj 0 20 rfl)
noncomputable def vX11_selected_117 (j : Nat → rx_K) : rx_K := o_ret1 rx_isR
set_option maxRecDepth 20000 in
theorem wX11_selected_117 (hZ : zO b e D A X) (j : Nat → rx_K) (hj : ∀ k pc, [20][k]? = some pc → rx_OK (zV b e D A X) mX11_selected 2 pc (j k)) : rx_OK (zV b e D A X) mX11_selected 2 117 (vX11_selected_117 j) := by
  unfold vX11_selected_117
  exact s_aret hZ.1 rfl (Or.inl ⟨_, rfl⟩) dX11_selected_117
noncomputable def vX11_selected_115 (j : Nat → rx_K) : rx_K := o_ld rx_isR 6 ((vX11_selected_117 j))
set_option maxRecDepth 20000 in
theorem wX11_selected_115 (hZ : zO b e D A X) (j : Nat → rx_K) (hj : ∀ k pc, [20][k]? = some pc → rx_OK (zV b e D A X) mX11_selected 2 pc (j k)) : rx_OK (zV b e D A X) mX11_selected 2 115 (vX11_selected_115 j) := by
  unfold vX11_selected_115
  refine s_aload hZ.1 dX11_selected_115 ?_
  exact (wX11_selected_117 hZ j hj)
noncomputable def vX11_selected_111 (j : Nat → rx_K) : rx_K := o_const 3 ((vX11_selected_117 j))
set_option maxRecDepth 20000 in
theorem wX11_selected_111 (hZ : zO b e D A X) (j : Nat → rx_K) (hj : ∀ k pc, [20][k]? = some pc → rx_OK (zV b e D A X) mX11_selected 2 pc (j k)) : rx_OK (zV b e D A X) mX11_selected 2 111 (vX11_selected_111 j) := by
  unfold vX11_selected_111
  refine s_null dX11_selected_111 ?_
  exact s_goto dX11_selected_112 (by decide) (wX11_selected_117 hZ j hj)
noncomputable def vX11_selected_91 (j : Nat → rx_K) : rx_K := o_ld rx_isR 0 (o_ld rx_isI 4 (o_putf rx_isI 11 18 (o_ld rx_isR 0 (o_const 48 (o_putf rx_isI 11 19 (o_ld rx_isR 6 (o_getf 7 4 (o_c1 rx_eq (vX11_selected_115 j) (vX11_selected_111 j)))))))))
set_option maxRecDepth 20000 in
theorem wX11_selected_91 (hZ : zO b e D A X) (j : Nat → rx_K) (hj : ∀ k pc, [20][k]? = some pc → rx_OK (zV b e D A X) mX11_selected 2 pc (j k)) : rx_OK (zV b e D A X) mX11_selected 2 91 (vX11_selected_91 j) := by
  unfold vX11_selected_91
  refine s_aload_n hZ.1 dX11_selected_91 rfl ?_
  refine s_iload hZ.1 dX11_selected_92 ?_
  refine yp11_18 hZ.1 dX11_selected_94 zw1297 ?_
  refine s_aload_n hZ.1 dX11_selected_97 rfl ?_
  refine s_bipush dX11_selected_98 (by decide +kernel) ?_
  refine yp11_19 hZ.1 dX11_selected_100 zw1300 ?_
  refine s_aload hZ.1 dX11_selected_103 ?_
  refine yg7_4 dX11_selected_105 zw983 ?_
  exact s_if_eq dX11_selected_108 (by decide) (wX11_selected_115 hZ j hj) (wX11_selected_111 hZ j hj)
noncomputable def vX11_selected_80 (j : Nat → rx_K) : rx_K := o_ld rx_isR 0 (o_ld rx_isI 4 (o_ld rx_isI 2 (o_ld rx_isR 1 (o_callV 3 11 FX11_overrides (o_c1 rx_eq (vX11_selected_118 j) (vX11_selected_91 j))))))
set_option maxRecDepth 20000 in
theorem wX11_selected_80 (hZ : zO b e D A X) (j : Nat → rx_K) (hj : ∀ k pc, [20][k]? = some pc → rx_OK (zV b e D A X) mX11_selected 2 pc (j k)) : rx_OK (zV b e D A X) mX11_selected 2 80 (vX11_selected_80 j) := by
  unfold vX11_selected_80
  refine s_aload_n hZ.1 dX11_selected_80 rfl ?_
  refine s_iload hZ.1 dX11_selected_81 ?_
  refine s_iload_n hZ.1 dX11_selected_83 rfl ?_
  refine s_aload_n hZ.1 dX11_selected_84 rfl ?_
  refine s_callV hZ.1 (Met_X11_overrides hZ) (Nat.le_of_ble_eq_true rfl) vy_X11_overrides zcl11 zw2036 zw2037 (Or.inl zw2035) dX11_selected_85 ?_
  exact s_if_eq dX11_selected_88 (by decide) (wX11_selected_118 hZ j hj) (wX11_selected_91 hZ j hj)
noncomputable def vX11_selected_68 (j : Nat → rx_K) : rx_K := o_ld rx_isR 0 (o_getf 11 1 (o_ld rx_isI 2 (o_ald 4 (o_getf 10 4 (o_c1 rx_eq (vX11_selected_80 j) (vX11_selected_91 j))))))
set_option maxRecDepth 20000 in
theorem wX11_selected_68 (hZ : zO b e D A X) (j : Nat → rx_K) (hj : ∀ k pc, [20][k]? = some pc → rx_OK (zV b e D A X) mX11_selected 2 pc (j k)) : rx_OK (zV b e D A X) mX11_selected 2 68 (vX11_selected_68 j) := by
  unfold vX11_selected_68
  refine s_aload_n hZ.1 dX11_selected_68 rfl ?_
  refine yg11_1 dX11_selected_69 zw1252 ?_
  refine s_iload_n hZ.1 dX11_selected_72 rfl ?_
  refine s_aald (tt := 4) rfl rfl dX11_selected_73 ?_
  refine yg10_4 dX11_selected_74 zw793 ?_
  exact s_if_ne dX11_selected_77 (by decide) (wX11_selected_91 hZ j hj) (wX11_selected_80 hZ j hj)
noncomputable def vX11_selected_62 (j : Nat → rx_K) : rx_K := o_ld rx_isI 4 (o_ld rx_isI 2 (o_c2 rx_eq (vX11_selected_91 j) (vX11_selected_68 j)))
set_option maxRecDepth 20000 in
theorem wX11_selected_62 (hZ : zO b e D A X) (j : Nat → rx_K) (hj : ∀ k pc, [20][k]? = some pc → rx_OK (zV b e D A X) mX11_selected 2 pc (j k)) : rx_OK (zV b e D A X) mX11_selected 2 62 (vX11_selected_62 j) := by
  unfold vX11_selected_62
  refine s_iload hZ.1 dX11_selected_62 ?_
  refine s_iload_n hZ.1 dX11_selected_64 rfl ?_
  exact s_icmp_eq dX11_selected_65 (by decide) (wX11_selected_91 hZ j hj) (wX11_selected_68 hZ j hj)
noncomputable def vX11_selected_54 (j : Nat → rx_K) : rx_K := o_ld rx_isR 6 (o_callV 0 7 FX7_ofObjects (o_c1 rx_eq (vX11_selected_118 j) (vX11_selected_62 j)))
set_option maxRecDepth 20000 in
theorem wX11_selected_54 (hZ : zO b e D A X) (j : Nat → rx_K) (hj : ∀ k pc, [20][k]? = some pc → rx_OK (zV b e D A X) mX11_selected 2 pc (j k)) : rx_OK (zV b e D A X) mX11_selected 2 54 (vX11_selected_54 j) := by
  unfold vX11_selected_54
  refine s_aload hZ.1 dX11_selected_54 ?_
  refine s_callV hZ.1 (Met_X7_ofObjects hZ) (Nat.le_of_ble_eq_true rfl) vy_X7_ofObjects zcl7 zw2003 zw2004 (Or.inl zw2034) dX11_selected_56 ?_
  exact s_if_eq dX11_selected_59 (by decide) (wX11_selected_118 hZ j hj) (wX11_selected_62 hZ j hj)
noncomputable def vX11_selected_36 (j : Nat → rx_K) : rx_K := o_ld rx_isR 0 (o_getf 11 1 (o_ld rx_isI 4 (o_ald 4 (o_ld rx_isR 1 (o_callV 1 10 FX10_method (o_st rx_isR 6 (o_ld rx_isR 6 (o_nul (vX11_selected_118 j) (vX11_selected_54 j)))))))))
set_option maxRecDepth 20000 in
theorem wX11_selected_36 (hZ : zO b e D A X) (j : Nat → rx_K) (hj : ∀ k pc, [20][k]? = some pc → rx_OK (zV b e D A X) mX11_selected 2 pc (j k)) : rx_OK (zV b e D A X) mX11_selected 2 36 (vX11_selected_36 j) := by
  unfold vX11_selected_36
  refine s_aload_n hZ.1 dX11_selected_36 rfl ?_
  refine yg11_1 dX11_selected_37 zw1252 ?_
  refine s_iload hZ.1 dX11_selected_40 ?_
  refine s_aald (tt := 4) rfl rfl dX11_selected_42 ?_
  refine s_aload_n hZ.1 dX11_selected_43 rfl ?_
  refine s_callV hZ.1 (Met_X10_method hZ) (Nat.le_of_ble_eq_true rfl) vy_X10_method zcl10 zw2011 zw2012 (Or.inl zw2033) dX11_selected_44 ?_
  refine s_astore hZ.1 dX11_selected_47 (Nat.le_of_ble_eq_true rfl) ?_
  refine s_aload hZ.1 dX11_selected_49 ?_
  exact s_ifnull dX11_selected_51 (by decide) (wX11_selected_118 hZ j hj) (wX11_selected_54 hZ j hj)
noncomputable def vX11_selected_31 (j : Nat → rx_K) : rx_K := o_ld rx_isI 4 (o_c1 rx_lt (vX11_selected_133 j) (vX11_selected_36 j))
set_option maxRecDepth 20000 in
theorem wX11_selected_31 (hZ : zO b e D A X) (j : Nat → rx_K) (hj : ∀ k pc, [20][k]? = some pc → rx_OK (zV b e D A X) mX11_selected 2 pc (j k)) : rx_OK (zV b e D A X) mX11_selected 2 31 (vX11_selected_31 j) := by
  unfold vX11_selected_31
  refine s_iload hZ.1 dX11_selected_31 ?_
  exact s_if_lt dX11_selected_33 (by decide) (wX11_selected_133 hZ j hj) (wX11_selected_36 hZ j hj)
noncomputable def vX11_selected_20 (j : Nat → rx_K) : rx_K := o_ld rx_isI 5 (o_ld rx_isR 0 (o_getf 11 4 (o_ld rx_isI 3 (o_ald 0 (o_c2 (fun h x y => rx_lt h y x) (vX11_selected_133 j) (vX11_selected_31 j))))))
set_option maxRecDepth 20000 in
theorem wX11_selected_20 (hZ : zO b e D A X) (j : Nat → rx_K) (hj : ∀ k pc, [20][k]? = some pc → rx_OK (zV b e D A X) mX11_selected 2 pc (j k)) : rx_OK (zV b e D A X) mX11_selected 2 20 (vX11_selected_20 j) := by
  unfold vX11_selected_20
  refine s_iload hZ.1 dX11_selected_20 ?_
  refine s_aload_n hZ.1 dX11_selected_22 rfl ?_
  refine yg11_4 dX11_selected_23 zw1267 ?_
  refine s_iload_n hZ.1 dX11_selected_26 rfl ?_
  refine s_iald (tt := 0) rfl dX11_selected_27 ?_
  exact s_icmp_gt dX11_selected_28 (by decide) (wX11_selected_133 hZ j hj) (wX11_selected_31 hZ j hj)
noncomputable def vX11_selected_14 (j : Nat → rx_K) : rx_K := o_ld rx_isI 3 (o_st rx_isI 4 (o_const 0 (o_st rx_isI 5 ((vX11_selected_20 j)))))
set_option maxRecDepth 20000 in
theorem wX11_selected_14 (hZ : zO b e D A X) (j : Nat → rx_K) (hj : ∀ k pc, [20][k]? = some pc → rx_OK (zV b e D A X) mX11_selected 2 pc (j k)) : rx_OK (zV b e D A X) mX11_selected 2 14 (vX11_selected_14 j) := by
  unfold vX11_selected_14
  refine s_iload_n hZ.1 dX11_selected_14 rfl ?_
  refine s_istore hZ.1 dX11_selected_15 (Nat.le_of_ble_eq_true rfl) ?_
  refine s_iconst dX11_selected_17 (by decide +kernel) ?_
  refine s_istore hZ.1 dX11_selected_18 (Nat.le_of_ble_eq_true rfl) ?_
  exact (wX11_selected_20 hZ j hj)
noncomputable def vX11_selected_12 (j : Nat → rx_K) : rx_K := o_ld rx_isR 1 (o_ret1 rx_isR)
set_option maxRecDepth 20000 in
theorem wX11_selected_12 (hZ : zO b e D A X) (j : Nat → rx_K) (hj : ∀ k pc, [20][k]? = some pc → rx_OK (zV b e D A X) mX11_selected 2 pc (j k)) : rx_OK (zV b e D A X) mX11_selected 2 12 (vX11_selected_12 j) := by
  unfold vX11_selected_12
  refine s_aload_n hZ.1 dX11_selected_12 rfl ?_
  exact s_aret hZ.1 rfl (Or.inl ⟨_, rfl⟩) dX11_selected_13
noncomputable def vX11_selected_0 (j : Nat → rx_K) : rx_K := o_ld rx_isR 0 (o_ld rx_isI 2 (o_putf rx_isI 11 18 (o_ld rx_isR 1 (o_getf 7 1 (o_c1 rx_eq (vX11_selected_12 j) (vX11_selected_14 j))))))
set_option maxRecDepth 20000 in
theorem wX11_selected_0 (hZ : zO b e D A X) (j : Nat → rx_K) (hj : ∀ k pc, [20][k]? = some pc → rx_OK (zV b e D A X) mX11_selected 2 pc (j k)) : rx_OK (zV b e D A X) mX11_selected 2 0 (vX11_selected_0 j) := by
  unfold vX11_selected_0
  refine s_aload_n hZ.1 dX11_selected_0 rfl ?_
  refine s_iload_n hZ.1 dX11_selected_1 rfl ?_
  refine yp11_18 hZ.1 dX11_selected_2 zw1297 ?_
  refine s_aload_n hZ.1 dX11_selected_5 rfl ?_
  refine yg7_1 dX11_selected_6 zw953 ?_
  exact s_if_ne dX11_selected_9 (by decide) (wX11_selected_14 hZ j hj) (wX11_selected_12 hZ j hj)
noncomputable def vhX11_selected (j : Nat → rx_K) : List rx_K := [vX11_selected_20 j]
theorem vlX11_selected (hZ : zO b e D A X) : ∀ n k pc, [20][k]? = some pc → rx_OK (zV b e D A X) mX11_selected 2 pc (rx_J (vhX11_selected) n k) := rx_loop fun j hj k pc h => by
  match k, h with
  | 0, h =>
    have e9 := Option.some.inj (show some 20 = some pc from h)
    subst e9
    exact wX11_selected_20 hZ j hj
  | _ + 1, h => exact absurd h (by simp)
noncomputable def FX11_selected : List Nat → rx_H → Option (Nat × rx_H) := rx_ent 7 (vX11_selected_0 (rx_J (vhX11_selected) 4000000000))
theorem Met_X11_selected (hZ : zO b e D A X) : rx_Met (zV b e D A X) 2 yX11_selected mX11_selected (FX11_selected) := rx_entry hZ.1 (wX11_selected_0 hZ _ (vlX11_selected hZ 4000000000)) (by decide +kernel) rfl (fun h => by cases h)
abbrev mX4_owed : rx_M := (RX4, cX4_owed, 7, none, false)
theorem vy_X4_owed : rx_Y (zV b e D A X) yX4_owed mX4_owed 3 := ⟨zw2028, zw420, by decide, by decide +kernel, by decide +kernel, by decide +kernel⟩
noncomputable def vX4_owed_97 (j : Nat → rx_K) : rx_K := o_ret0
set_option maxRecDepth 20000 in
theorem wX4_owed_97 (hZ : zO b e D A X) (j : Nat → rx_K) (hj : ∀ k pc, [14][k]? = some pc → rx_OK (zV b e D A X) mX4_owed 3 pc (j k)) : rx_OK (zV b e D A X) mX4_owed 3 97 (vX4_owed_97 j) := by
  unfold vX4_owed_97
  exact s_vret rfl dX4_owed_97
noncomputable def vX4_owed_91 (j : Nat → rx_K) : rx_K := o_inc 5 (1) ((j 0))
set_option maxRecDepth 20000 in
theorem wX4_owed_91 (hZ : zO b e D A X) (j : Nat → rx_K) (hj : ∀ k pc, [14][k]? = some pc → rx_OK (zV b e D A X) mX4_owed 3 pc (j k)) : rx_OK (zV b e D A X) mX4_owed 3 91 (vX4_owed_91 j) := by
  unfold vX4_owed_91
  refine s_iinc hZ.1 dX4_owed_91 (Nat.le_of_ble_eq_true rfl) ?_
  exact s_goto dX4_owed_94 (by decide) (hj 0 14 rfl)
noncomputable def vX4_owed_80 (j : Nat → rx_K) : rx_K := o_ld rx_isR 0 (o_const 80 (o_ld rx_isR 1 (o_getf 10 2 (o_callV 2 4 FX4_fail (o_pop ((vX4_owed_91 j)))))))
set_option maxRecDepth 20000 in
theorem wX4_owed_80 (hZ : zO b e D A X) (j : Nat → rx_K) (hj : ∀ k pc, [14][k]? = some pc → rx_OK (zV b e D A X) mX4_owed 3 pc (j k)) : rx_OK (zV b e D A X) mX4_owed 3 80 (vX4_owed_80 j) := by
  unfold vX4_owed_80
  refine s_aload_n hZ.1 dX4_owed_80 rfl ?_
  refine s_bipush dX4_owed_81 (by decide +kernel) ?_
  refine s_aload_n hZ.1 dX4_owed_83 rfl ?_
  refine yg10_2 dX4_owed_84 zw779 ?_
  refine s_callV hZ.1 (Met_X4_fail hZ) (Nat.le_of_ble_eq_true rfl) vy_X4_fail zcl4 zw1898 zw43 (Or.inl zw1896) dX4_owed_87 ?_
  refine s_pop hZ.1 dX4_owed_90 ?_
  exact (wX4_owed_91 hZ j hj)
noncomputable def vX4_owed_66 (j : Nat → rx_K) : rx_K := o_ld rx_isR 0 (o_getf 4 0 (o_ld rx_isR 6 (o_ld rx_isI 3 (o_ld rx_isI 2 (o_callV 3 11 FX11_selected (o_nul (vX4_owed_80 j) (vX4_owed_91 j)))))))
set_option maxRecDepth 20000 in
theorem wX4_owed_66 (hZ : zO b e D A X) (j : Nat → rx_K) (hj : ∀ k pc, [14][k]? = some pc → rx_OK (zV b e D A X) mX4_owed 3 pc (j k)) : rx_OK (zV b e D A X) mX4_owed 3 66 (vX4_owed_66 j) := by
  unfold vX4_owed_66
  refine s_aload_n hZ.1 dX4_owed_66 rfl ?_
  refine yg4_0 dX4_owed_67 zw638 ?_
  refine s_aload hZ.1 dX4_owed_70 ?_
  refine s_iload_n hZ.1 dX4_owed_72 rfl ?_
  refine s_iload_n hZ.1 dX4_owed_73 rfl ?_
  refine s_callV hZ.1 (Met_X11_selected hZ) (Nat.le_of_ble_eq_true rfl) vy_X11_selected zcl11 zw2030 zw2031 (Or.inl zw2029) dX4_owed_74 ?_
  exact s_ifnonnull dX4_owed_77 (by decide) (wX4_owed_91 hZ j hj) (wX4_owed_80 hZ j hj)
noncomputable def vX4_owed_58 (j : Nat → rx_K) : rx_K := o_ld rx_isR 6 (o_getf 7 5 (o_c1 rx_eq (vX4_owed_66 j) (vX4_owed_91 j)))
set_option maxRecDepth 20000 in
theorem wX4_owed_58 (hZ : zO b e D A X) (j : Nat → rx_K) (hj : ∀ k pc, [14][k]? = some pc → rx_OK (zV b e D A X) mX4_owed 3 pc (j k)) : rx_OK (zV b e D A X) mX4_owed 3 58 (vX4_owed_58 j) := by
  unfold vX4_owed_58
  refine s_aload hZ.1 dX4_owed_58 ?_
  refine yg7_5 dX4_owed_60 zw992 ?_
  exact s_if_ne dX4_owed_63 (by decide) (wX4_owed_91 hZ j hj) (wX4_owed_66 hZ j hj)
noncomputable def vX4_owed_50 (j : Nat → rx_K) : rx_K := o_ld rx_isR 6 (o_callV 0 7 FX7_ofObjects (o_c1 rx_eq (vX4_owed_91 j) (vX4_owed_58 j)))
set_option maxRecDepth 20000 in
theorem wX4_owed_50 (hZ : zO b e D A X) (j : Nat → rx_K) (hj : ∀ k pc, [14][k]? = some pc → rx_OK (zV b e D A X) mX4_owed 3 pc (j k)) : rx_OK (zV b e D A X) mX4_owed 3 50 (vX4_owed_50 j) := by
  unfold vX4_owed_50
  refine s_aload hZ.1 dX4_owed_50 ?_
  refine s_callV hZ.1 (Met_X7_ofObjects hZ) (Nat.le_of_ble_eq_true rfl) vy_X7_ofObjects zcl7 zw2003 zw2004 (Or.inl zw2002) dX4_owed_52 ?_
  exact s_if_eq dX4_owed_55 (by decide) (wX4_owed_91 hZ j hj) (wX4_owed_58 hZ j hj)
noncomputable def vX4_owed_31 (j : Nat → rx_K) : rx_K := o_ld rx_isR 4 (o_getf 10 14 (o_ld rx_isI 5 (o_ald 5 (o_st rx_isR 6 (o_ld rx_isR 6 (o_getf 7 0 (o_const 8 (o_c2 rx_eq (vX4_owed_50 j) (vX4_owed_91 j)))))))))
set_option maxRecDepth 20000 in
theorem wX4_owed_31 (hZ : zO b e D A X) (j : Nat → rx_K) (hj : ∀ k pc, [14][k]? = some pc → rx_OK (zV b e D A X) mX4_owed 3 pc (j k)) : rx_OK (zV b e D A X) mX4_owed 3 31 (vX4_owed_31 j) := by
  unfold vX4_owed_31
  refine s_aload hZ.1 dX4_owed_31 ?_
  refine yg10_14 dX4_owed_33 zw864 ?_
  refine s_iload hZ.1 dX4_owed_36 ?_
  refine s_aald (tt := 5) rfl rfl dX4_owed_38 ?_
  refine s_astore hZ.1 dX4_owed_39 (Nat.le_of_ble_eq_true rfl) ?_
  refine s_aload hZ.1 dX4_owed_41 ?_
  refine yg7_0 dX4_owed_43 zw946 ?_
  refine s_iconst dX4_owed_46 (by decide +kernel) ?_
  exact s_icmp_ne dX4_owed_47 (by decide) (wX4_owed_91 hZ j hj) (wX4_owed_50 hZ j hj)
noncomputable def vX4_owed_24 (j : Nat → rx_K) : rx_K := o_ld rx_isR 0 (o_getf 4 2 (o_c1 rx_eq (vX4_owed_31 j) (vX4_owed_97 j)))
set_option maxRecDepth 20000 in
theorem wX4_owed_24 (hZ : zO b e D A X) (j : Nat → rx_K) (hj : ∀ k pc, [14][k]? = some pc → rx_OK (zV b e D A X) mX4_owed 3 pc (j k)) : rx_OK (zV b e D A X) mX4_owed 3 24 (vX4_owed_24 j) := by
  unfold vX4_owed_24
  refine s_aload_n hZ.1 dX4_owed_24 rfl ?_
  refine yg4_2 dX4_owed_25 zw640 ?_
  exact s_if_ne dX4_owed_28 (by decide) (wX4_owed_97 hZ j hj) (wX4_owed_31 hZ j hj)
noncomputable def vX4_owed_14 (j : Nat → rx_K) : rx_K := o_ld rx_isI 5 (o_ld rx_isR 4 (o_getf 10 15 (o_c2 rx_lt (vX4_owed_24 j) (vX4_owed_97 j))))
set_option maxRecDepth 20000 in
theorem wX4_owed_14 (hZ : zO b e D A X) (j : Nat → rx_K) (hj : ∀ k pc, [14][k]? = some pc → rx_OK (zV b e D A X) mX4_owed 3 pc (j k)) : rx_OK (zV b e D A X) mX4_owed 3 14 (vX4_owed_14 j) := by
  unfold vX4_owed_14
  refine s_iload hZ.1 dX4_owed_14 ?_
  refine s_aload hZ.1 dX4_owed_16 ?_
  refine yg10_15 dX4_owed_18 zw872 ?_
  exact s_icmp_ge dX4_owed_21 (by decide) (wX4_owed_97 hZ j hj) (wX4_owed_24 hZ j hj)
noncomputable def vX4_owed_0 (j : Nat → rx_K) : rx_K := o_ld rx_isR 0 (o_getf 4 0 (o_getf 11 1 (o_ld rx_isI 3 (o_ald 4 (o_st rx_isR 4 (o_const 0 (o_st rx_isI 5 ((vX4_owed_14 j)))))))))
set_option maxRecDepth 20000 in
theorem wX4_owed_0 (hZ : zO b e D A X) (j : Nat → rx_K) (hj : ∀ k pc, [14][k]? = some pc → rx_OK (zV b e D A X) mX4_owed 3 pc (j k)) : rx_OK (zV b e D A X) mX4_owed 3 0 (vX4_owed_0 j) := by
  unfold vX4_owed_0
  refine s_aload_n hZ.1 dX4_owed_0 rfl ?_
  refine yg4_0 dX4_owed_1 zw638 ?_
  refine yg11_1 dX4_owed_4 zw1254 ?_
  refine s_iload_n hZ.1 dX4_owed_7 rfl ?_
  refine s_aald (tt := 4) rfl rfl dX4_owed_8 ?_
  refine s_astore hZ.1 dX4_owed_9 (Nat.le_of_ble_eq_true rfl) ?_
  refine s_iconst dX4_owed_11 (by decide +kernel) ?_
  refine s_istore hZ.1 dX4_owed_12 (Nat.le_of_ble_eq_true rfl) ?_
  exact (wX4_owed_14 hZ j hj)
noncomputable def vhX4_owed (j : Nat → rx_K) : List rx_K := [vX4_owed_14 j]
theorem vlX4_owed (hZ : zO b e D A X) : ∀ n k pc, [14][k]? = some pc → rx_OK (zV b e D A X) mX4_owed 3 pc (rx_J (vhX4_owed) n k) := rx_loop fun j hj k pc h => by
  match k, h with
  | 0, h =>
    have e9 := Option.some.inj (show some 14 = some pc from h)
    subst e9
    exact wX4_owed_14 hZ j hj
  | _ + 1, h => exact absurd h (by simp)
noncomputable def FX4_owed : List Nat → rx_H → Option (Nat × rx_H) := rx_ent 7 (vX4_owed_0 (rx_J (vhX4_owed) 4000000000))
theorem Met_X4_owed (hZ : zO b e D A X) : rx_Met (zV b e D A X) 3 yX4_owed mX4_owed (FX4_owed) := rx_entry hZ.1 (wX4_owed_0 hZ _ (vlX4_owed hZ 4000000000)) (by decide +kernel) rfl (fun h => by cases h)
abbrev mX4_whole : rx_M := (RX4, cX4_whole, 6, none, false)
theorem vy_X4_whole : rx_Y (zV b e D A X) yX4_whole mX4_whole 2 := ⟨zw2024, zw420, by decide, by decide +kernel, by decide +kernel, by decide +kernel⟩
noncomputable def vX4_whole_116 (j : Nat → rx_K) : rx_K := o_ret0
set_option maxRecDepth 20000 in
theorem wX4_whole_116 (hZ : zO b e D A X) (j : Nat → rx_K) (hj : ∀ k pc, [28, 82][k]? = some pc → rx_OK (zV b e D A X) mX4_whole 4 pc (j k)) : rx_OK (zV b e D A X) mX4_whole 4 116 (vX4_whole_116 j) := by
  unfold vX4_whole_116
  exact s_vret rfl dX4_whole_116
noncomputable def vX4_whole_89 (j : Nat → rx_K) : rx_K := o_ld rx_isR 0 (o_ld rx_isR 1 (o_ld rx_isI 2 (o_ld rx_isR 0 (o_getf 4 0 (o_getf 11 10 (o_ld rx_isI 2 (o_const 512 (o_bi (fun x y => x * y) (o_ld rx_isI 5 (o_bi (fun x y => x + y) (o_ald 0 (o_callV 3 4 FX4_owed (o_inc 5 (1) ((j 1)))))))))))))))
set_option maxRecDepth 20000 in
theorem wX4_whole_89 (hZ : zO b e D A X) (j : Nat → rx_K) (hj : ∀ k pc, [28, 82][k]? = some pc → rx_OK (zV b e D A X) mX4_whole 4 pc (j k)) : rx_OK (zV b e D A X) mX4_whole 4 89 (vX4_whole_89 j) := by
  unfold vX4_whole_89
  refine s_aload_n hZ.1 dX4_whole_89 rfl ?_
  refine s_aload_n hZ.1 dX4_whole_90 rfl ?_
  refine s_iload_n hZ.1 dX4_whole_91 rfl ?_
  refine s_aload_n hZ.1 dX4_whole_92 rfl ?_
  refine yg4_0 dX4_whole_93 zw638 ?_
  refine yg11_10 dX4_whole_96 zw1283 ?_
  refine s_iload_n hZ.1 dX4_whole_99 rfl ?_
  refine s_bipush dX4_whole_100 (by decide +kernel) ?_
  refine s_imul dX4_whole_102 ?_
  refine s_iload hZ.1 dX4_whole_103 ?_
  refine s_iadd dX4_whole_105 ?_
  refine s_iald (tt := 0) rfl dX4_whole_106 ?_
  refine s_callV hZ.1 (Met_X4_owed hZ) (Nat.le_of_ble_eq_true rfl) vy_X4_owed zcl4 zw2027 zw57 (Or.inl zw2025) dX4_whole_107 ?_
  refine s_iinc hZ.1 dX4_whole_110 (Nat.le_of_ble_eq_true rfl) ?_
  exact s_goto dX4_whole_113 (by decide) (hj 1 82 rfl)
noncomputable def vX4_whole_82 (j : Nat → rx_K) : rx_K := o_ld rx_isI 5 (o_ld rx_isI 4 (o_c2 rx_lt (vX4_whole_89 j) (vX4_whole_116 j)))
set_option maxRecDepth 20000 in
theorem wX4_whole_82 (hZ : zO b e D A X) (j : Nat → rx_K) (hj : ∀ k pc, [28, 82][k]? = some pc → rx_OK (zV b e D A X) mX4_whole 4 pc (j k)) : rx_OK (zV b e D A X) mX4_whole 4 82 (vX4_whole_82 j) := by
  unfold vX4_whole_82
  refine s_iload hZ.1 dX4_whole_82 ?_
  refine s_iload hZ.1 dX4_whole_84 ?_
  exact s_icmp_ge dX4_whole_86 (by decide) (wX4_whole_116 hZ j hj) (wX4_whole_89 hZ j hj)
noncomputable def vX4_whole_69 (j : Nat → rx_K) : rx_K := o_ld rx_isR 0 (o_getf 4 0 (o_ld rx_isI 2 (o_callV 1 11 FX11_faces (o_st rx_isI 4 (o_const 0 (o_st rx_isI 5 ((vX4_whole_82 j))))))))
set_option maxRecDepth 20000 in
theorem wX4_whole_69 (hZ : zO b e D A X) (j : Nat → rx_K) (hj : ∀ k pc, [28, 82][k]? = some pc → rx_OK (zV b e D A X) mX4_whole 4 pc (j k)) : rx_OK (zV b e D A X) mX4_whole 4 69 (vX4_whole_69 j) := by
  unfold vX4_whole_69
  refine s_aload_n hZ.1 dX4_whole_69 rfl ?_
  refine yg4_0 dX4_whole_70 zw638 ?_
  refine s_iload_n hZ.1 dX4_whole_73 rfl ?_
  refine s_callV hZ.1 (Met_X11_faces hZ) (Nat.le_of_ble_eq_true rfl) vy_X11_faces zcl11 zw1984 zw1985 (Or.inl zw1983) dX4_whole_74 ?_
  refine s_istore hZ.1 dX4_whole_77 (Nat.le_of_ble_eq_true rfl) ?_
  refine s_iconst dX4_whole_79 (by decide +kernel) ?_
  refine s_istore hZ.1 dX4_whole_80 (Nat.le_of_ble_eq_true rfl) ?_
  exact (wX4_whole_82 hZ j hj)
noncomputable def vX4_whole_46 (j : Nat → rx_K) : rx_K := o_ld rx_isR 0 (o_ld rx_isR 1 (o_ld rx_isI 2 (o_ld rx_isI 3 (o_callV 3 4 FX4_owed (o_ld rx_isR 0 (o_getf 4 0 (o_getf 11 3 (o_ld rx_isI 3 (o_ald 0 (o_st rx_isI 3 (o_inc 4 (1) ((j 0)))))))))))))
set_option maxRecDepth 20000 in
theorem wX4_whole_46 (hZ : zO b e D A X) (j : Nat → rx_K) (hj : ∀ k pc, [28, 82][k]? = some pc → rx_OK (zV b e D A X) mX4_whole 4 pc (j k)) : rx_OK (zV b e D A X) mX4_whole 4 46 (vX4_whole_46 j) := by
  unfold vX4_whole_46
  refine s_aload_n hZ.1 dX4_whole_46 rfl ?_
  refine s_aload_n hZ.1 dX4_whole_47 rfl ?_
  refine s_iload_n hZ.1 dX4_whole_48 rfl ?_
  refine s_iload_n hZ.1 dX4_whole_49 rfl ?_
  refine s_callV hZ.1 (Met_X4_owed hZ) (Nat.le_of_ble_eq_true rfl) vy_X4_owed zcl4 zw2027 zw57 (Or.inl zw2025) dX4_whole_50 ?_
  refine s_aload_n hZ.1 dX4_whole_53 rfl ?_
  refine yg4_0 dX4_whole_54 zw638 ?_
  refine yg11_3 dX4_whole_57 zw1266 ?_
  refine s_iload_n hZ.1 dX4_whole_60 rfl ?_
  refine s_iald (tt := 0) rfl dX4_whole_61 ?_
  refine s_istore_n hZ.1 dX4_whole_62 rfl (Nat.le_of_ble_eq_true rfl) ?_
  refine s_iinc hZ.1 dX4_whole_63 (Nat.le_of_ble_eq_true rfl) ?_
  exact s_goto dX4_whole_66 (by decide) (hj 0 28 rfl)
noncomputable def vX4_whole_42 (j : Nat → rx_K) : rx_K := o_ld rx_isI 3 (o_c1 rx_lt (vX4_whole_69 j) (vX4_whole_46 j))
set_option maxRecDepth 20000 in
theorem wX4_whole_42 (hZ : zO b e D A X) (j : Nat → rx_K) (hj : ∀ k pc, [28, 82][k]? = some pc → rx_OK (zV b e D A X) mX4_whole 4 pc (j k)) : rx_OK (zV b e D A X) mX4_whole 4 42 (vX4_whole_42 j) := by
  unfold vX4_whole_42
  refine s_iload_n hZ.1 dX4_whole_42 rfl ?_
  exact s_if_lt dX4_whole_43 (by decide) (wX4_whole_69 hZ j hj) (wX4_whole_46 hZ j hj)
noncomputable def vX4_whole_28 (j : Nat → rx_K) : rx_K := o_ld rx_isI 4 (o_ld rx_isR 0 (o_getf 4 0 (o_getf 11 4 (o_ld rx_isI 2 (o_ald 0 (o_c2 rx_lt (vX4_whole_42 j) (vX4_whole_69 j)))))))
set_option maxRecDepth 20000 in
theorem wX4_whole_28 (hZ : zO b e D A X) (j : Nat → rx_K) (hj : ∀ k pc, [28, 82][k]? = some pc → rx_OK (zV b e D A X) mX4_whole 4 pc (j k)) : rx_OK (zV b e D A X) mX4_whole 4 28 (vX4_whole_28 j) := by
  unfold vX4_whole_28
  refine s_iload hZ.1 dX4_whole_28 ?_
  refine s_aload_n hZ.1 dX4_whole_30 rfl ?_
  refine yg4_0 dX4_whole_31 zw638 ?_
  refine yg11_4 dX4_whole_34 zw1269 ?_
  refine s_iload_n hZ.1 dX4_whole_37 rfl ?_
  refine s_iald (tt := 0) rfl dX4_whole_38 ?_
  exact s_icmp_ge dX4_whole_39 (by decide) (wX4_whole_69 hZ j hj) (wX4_whole_42 hZ j hj)
noncomputable def vX4_whole_15 (j : Nat → rx_K) : rx_K := o_ld rx_isR 0 (o_getf 4 0 (o_getf 11 3 (o_ld rx_isI 2 (o_ald 0 (o_st rx_isI 3 (o_const 0 (o_st rx_isI 4 ((vX4_whole_28 j)))))))))
set_option maxRecDepth 20000 in
theorem wX4_whole_15 (hZ : zO b e D A X) (j : Nat → rx_K) (hj : ∀ k pc, [28, 82][k]? = some pc → rx_OK (zV b e D A X) mX4_whole 4 pc (j k)) : rx_OK (zV b e D A X) mX4_whole 4 15 (vX4_whole_15 j) := by
  unfold vX4_whole_15
  refine s_aload_n hZ.1 dX4_whole_15 rfl ?_
  refine yg4_0 dX4_whole_16 zw638 ?_
  refine yg11_3 dX4_whole_19 zw1266 ?_
  refine s_iload_n hZ.1 dX4_whole_22 rfl ?_
  refine s_iald (tt := 0) rfl dX4_whole_23 ?_
  refine s_istore_n hZ.1 dX4_whole_24 rfl (Nat.le_of_ble_eq_true rfl) ?_
  refine s_iconst dX4_whole_25 (by decide +kernel) ?_
  refine s_istore hZ.1 dX4_whole_26 (Nat.le_of_ble_eq_true rfl) ?_
  exact (wX4_whole_28 hZ j hj)
noncomputable def vX4_whole_14 (j : Nat → rx_K) : rx_K := o_ret0
set_option maxRecDepth 20000 in
theorem wX4_whole_14 (hZ : zO b e D A X) (j : Nat → rx_K) (hj : ∀ k pc, [28, 82][k]? = some pc → rx_OK (zV b e D A X) mX4_whole 4 pc (j k)) : rx_OK (zV b e D A X) mX4_whole 4 14 (vX4_whole_14 j) := by
  unfold vX4_whole_14
  exact s_vret rfl dX4_whole_14
noncomputable def vX4_whole_7 (j : Nat → rx_K) : rx_K := o_ld rx_isR 1 (o_getf 10 4 (o_c1 rx_eq (vX4_whole_15 j) (vX4_whole_14 j)))
set_option maxRecDepth 20000 in
theorem wX4_whole_7 (hZ : zO b e D A X) (j : Nat → rx_K) (hj : ∀ k pc, [28, 82][k]? = some pc → rx_OK (zV b e D A X) mX4_whole 4 pc (j k)) : rx_OK (zV b e D A X) mX4_whole 4 7 (vX4_whole_7 j) := by
  unfold vX4_whole_7
  refine s_aload_n hZ.1 dX4_whole_7 rfl ?_
  refine yg10_4 dX4_whole_8 zw792 ?_
  exact s_if_eq dX4_whole_11 (by decide) (wX4_whole_15 hZ j hj) (wX4_whole_14 hZ j hj)
noncomputable def vX4_whole_0 (j : Nat → rx_K) : rx_K := o_ld rx_isR 1 (o_getf 10 6 (o_c1 rx_eq (vX4_whole_7 j) (vX4_whole_14 j)))
set_option maxRecDepth 20000 in
theorem wX4_whole_0 (hZ : zO b e D A X) (j : Nat → rx_K) (hj : ∀ k pc, [28, 82][k]? = some pc → rx_OK (zV b e D A X) mX4_whole 4 pc (j k)) : rx_OK (zV b e D A X) mX4_whole 4 0 (vX4_whole_0 j) := by
  unfold vX4_whole_0
  refine s_aload_n hZ.1 dX4_whole_0 rfl ?_
  refine yg10_6 dX4_whole_1 zw809 ?_
  exact s_if_ne dX4_whole_4 (by decide) (wX4_whole_14 hZ j hj) (wX4_whole_7 hZ j hj)
noncomputable def vhX4_whole (j : Nat → rx_K) : List rx_K := [vX4_whole_28 j, vX4_whole_82 j]
theorem vlX4_whole (hZ : zO b e D A X) : ∀ n k pc, [28, 82][k]? = some pc → rx_OK (zV b e D A X) mX4_whole 4 pc (rx_J (vhX4_whole) n k) := rx_loop fun j hj k pc h => by
  match k, h with
  | 0, h =>
    have e9 := Option.some.inj (show some 28 = some pc from h)
    subst e9
    exact wX4_whole_28 hZ j hj
  | 1, h =>
    have e9 := Option.some.inj (show some 82 = some pc from h)
    subst e9
    exact wX4_whole_82 hZ j hj
  | _ + 2, h => exact absurd h (by simp)
noncomputable def FX4_whole : List Nat → rx_H → Option (Nat × rx_H) := rx_ent 6 (vX4_whole_0 (rx_J (vhX4_whole) 4000000000))
theorem Met_X4_whole (hZ : zO b e D A X) : rx_Met (zV b e D A X) 4 yX4_whole mX4_whole (FX4_whole) := rx_entry hZ.1 (wX4_whole_0 hZ _ (vlX4_whole hZ 4000000000)) (by decide +kernel) rfl (fun h => by cases h)
abbrev mX11_heir : rx_M := (RX11, cX11_heir, 3, (some .boolean), false)
theorem vy_X11_heir : rx_Y (zV b e D A X) yX11_heir mX11_heir 2 := ⟨zw1920, zw423, by decide, by decide +kernel, by decide +kernel, by decide +kernel⟩
noncomputable def vX11_heir_20 : rx_K := o_ret1 rx_isZ
set_option maxRecDepth 20000 in
theorem wX11_heir_20 (hZ : zO b e D A X) : rx_OK (zV b e D A X) mX11_heir 0 20 vX11_heir_20 := by
  unfold vX11_heir_20
  exact s_zret rx_z_ok rfl dX11_heir_20
noncomputable def vX11_heir_19 : rx_K := o_const 0 (vX11_heir_20)
set_option maxRecDepth 20000 in
theorem wX11_heir_19 (hZ : zO b e D A X) : rx_OK (zV b e D A X) mX11_heir 0 19 vX11_heir_19 := by
  unfold vX11_heir_19
  refine s_iconst dX11_heir_19 (by decide +kernel) ?_
  exact (wX11_heir_20 hZ)
noncomputable def vX11_heir_15 : rx_K := o_const 8 (vX11_heir_20)
set_option maxRecDepth 20000 in
theorem wX11_heir_15 (hZ : zO b e D A X) : rx_OK (zV b e D A X) mX11_heir 0 15 vX11_heir_15 := by
  unfold vX11_heir_15
  refine s_iconst dX11_heir_15 (by decide +kernel) ?_
  exact s_goto dX11_heir_16 (by decide) (wX11_heir_20 hZ)
noncomputable def vX11_heir_0 : rx_K := o_ld rx_isR 0 (o_getf 11 9 (o_ld rx_isI 1 (o_ald 1 (o_ld rx_isI 2 (o_bs (fun x y => (x.toUInt64 >>> (y.toInt64.toUInt64 &&& Int64.toUInt64 63)).toInt64) (o_const 9 (o_bl (fun x y => x &&& y) (o_const 1 (o_bc (fun x y => lg_cmp x y) (o_c1 rx_eq vX11_heir_19 vX11_heir_15))))))))))
set_option maxRecDepth 20000 in
theorem wX11_heir_0 (hZ : zO b e D A X) : rx_OK (zV b e D A X) mX11_heir 0 0 vX11_heir_0 := by
  unfold vX11_heir_0
  refine s_aload_n hZ.1 dX11_heir_0 rfl ?_
  refine yg11_9 dX11_heir_1 zw1281 ?_
  refine s_iload_n hZ.1 dX11_heir_4 rfl ?_
  refine s_lald (tt := 1) rfl dX11_heir_5 ?_
  refine s_iload_n hZ.1 dX11_heir_6 rfl ?_
  refine s_lushr dX11_heir_7 ?_
  refine s_lconst dX11_heir_8 (by decide +kernel) ?_
  refine s_land dX11_heir_9 ?_
  refine s_lconst dX11_heir_10 (by decide +kernel) ?_
  refine s_lcmp dX11_heir_11 ?_
  exact s_if_eq dX11_heir_12 (by decide) (wX11_heir_19 hZ) (wX11_heir_15 hZ)
noncomputable def FX11_heir : List Nat → rx_H → Option (Nat × rx_H) := rx_ent 3 vX11_heir_0
theorem Met_X11_heir (hZ : zO b e D A X) : rx_Met (zV b e D A X) 0 yX11_heir mX11_heir (FX11_heir) := rx_entry hZ.1 (wX11_heir_0 hZ) (by decide +kernel) rfl (fun h => by cases h)
end ZM15

section ZM14
variable {b : Nat} {e : Nat → Value} {D : va_G} {A : Nat → ClassId} {X : State → Prop}
abbrev mX4_head : rx_M := (RX4, cX4_head, 8, (some .boolean), false)
theorem vy_X4_head : rx_Y (zV b e D A X) yX4_head mX4_head 2 := ⟨zw1895, zw420, by decide, by decide +kernel, by decide +kernel, by decide +kernel⟩
noncomputable def vX4_head_291 (j : Nat → rx_K) : rx_K := o_ld rx_isR 0 (o_ld rx_isR 1 (o_ld rx_isI 3 (o_callV 2 4 FX4_within (o_ret1 rx_isZ))))
set_option maxRecDepth 20000 in
theorem wX4_head_291 (hZ : zO b e D A X) (j : Nat → rx_K) (hj : ∀ k pc, [2, 163, 196][k]? = some pc → rx_OK (zV b e D A X) mX4_head 2 pc (j k)) : rx_OK (zV b e D A X) mX4_head 2 291 (vX4_head_291 j) := by
  unfold vX4_head_291
  refine s_aload_n hZ.1 dX4_head_291 rfl ?_
  refine s_aload_n hZ.1 dX4_head_292 rfl ?_
  refine s_iload_n hZ.1 dX4_head_293 rfl ?_
  refine s_callV hZ.1 (Met_X4_within hZ) (Nat.le_of_ble_eq_true rfl) vy_X4_within zcl4 zw1910 zw45 (Or.inl zw1908) dX4_head_294 ?_
  exact s_zret rx_z_ok rfl dX4_head_297
noncomputable def vX4_head_282 (j : Nat → rx_K) : rx_K := o_inc 3 (2) (o_inc 4 (1) ((j 1)))
set_option maxRecDepth 20000 in
theorem wX4_head_282 (hZ : zO b e D A X) (j : Nat → rx_K) (hj : ∀ k pc, [2, 163, 196][k]? = some pc → rx_OK (zV b e D A X) mX4_head 2 pc (j k)) : rx_OK (zV b e D A X) mX4_head 2 282 (vX4_head_282 j) := by
  unfold vX4_head_282
  refine s_iinc hZ.1 dX4_head_282 (Nat.le_of_ble_eq_true rfl) ?_
  refine s_iinc hZ.1 dX4_head_285 (Nat.le_of_ble_eq_true rfl) ?_
  exact s_goto dX4_head_288 (by decide) (hj 1 163 rfl)
noncomputable def vX4_head_273 (j : Nat → rx_K) : rx_K := o_ld rx_isR 0 (o_const 40 (o_ld rx_isI 3 (o_const 8 (o_bi (fun x y => x + y) (o_callV 2 4 FX4_fail (o_ret1 rx_isZ))))))
set_option maxRecDepth 20000 in
theorem wX4_head_273 (hZ : zO b e D A X) (j : Nat → rx_K) (hj : ∀ k pc, [2, 163, 196][k]? = some pc → rx_OK (zV b e D A X) mX4_head 2 pc (j k)) : rx_OK (zV b e D A X) mX4_head 2 273 (vX4_head_273 j) := by
  unfold vX4_head_273
  refine s_aload_n hZ.1 dX4_head_273 rfl ?_
  refine s_iconst dX4_head_274 (by decide +kernel) ?_
  refine s_iload_n hZ.1 dX4_head_275 rfl ?_
  refine s_iconst dX4_head_276 (by decide +kernel) ?_
  refine s_iadd dX4_head_277 ?_
  refine s_callV hZ.1 (Met_X4_fail hZ) (Nat.le_of_ble_eq_true rfl) vy_X4_fail zcl4 zw1898 zw43 (Or.inl zw1896) dX4_head_278 ?_
  exact s_zret rx_z_ok rfl dX4_head_281
noncomputable def vX4_head_263 (j : Nat → rx_K) : rx_K := o_ld rx_isR 0 (o_ld rx_isI 5 (o_ld rx_isR 1 (o_callV 2 4 FX4_barred (o_c1 rx_eq (vX4_head_282 j) (vX4_head_273 j)))))
set_option maxRecDepth 20000 in
theorem wX4_head_263 (hZ : zO b e D A X) (j : Nat → rx_K) (hj : ∀ k pc, [2, 163, 196][k]? = some pc → rx_OK (zV b e D A X) mX4_head 2 pc (j k)) : rx_OK (zV b e D A X) mX4_head 2 263 (vX4_head_263 j) := by
  unfold vX4_head_263
  refine s_aload_n hZ.1 dX4_head_263 rfl ?_
  refine s_iload hZ.1 dX4_head_264 ?_
  refine s_aload_n hZ.1 dX4_head_266 rfl ?_
  refine s_callV hZ.1 (Met_X4_barred hZ) (Nat.le_of_ble_eq_true rfl) vy_X4_barred zcl4 zw1904 zw44 (Or.inl zw1902) dX4_head_267 ?_
  exact s_if_eq dX4_head_270 (by decide) (wX4_head_282 hZ j hj) (wX4_head_273 hZ j hj)
noncomputable def vX4_head_247 (j : Nat → rx_K) : rx_K := o_ld rx_isR 0 (o_getf 4 0 (o_getf 11 1 (o_ld rx_isI 5 (o_ald 4 (o_getf 10 4 (o_c1 rx_eq (vX4_head_273 j) (vX4_head_263 j)))))))
set_option maxRecDepth 20000 in
theorem wX4_head_247 (hZ : zO b e D A X) (j : Nat → rx_K) (hj : ∀ k pc, [2, 163, 196][k]? = some pc → rx_OK (zV b e D A X) mX4_head 2 pc (j k)) : rx_OK (zV b e D A X) mX4_head 2 247 (vX4_head_247 j) := by
  unfold vX4_head_247
  refine s_aload_n hZ.1 dX4_head_247 rfl ?_
  refine yg4_0 dX4_head_248 zw638 ?_
  refine yg11_1 dX4_head_251 zw1254 ?_
  refine s_iload hZ.1 dX4_head_254 ?_
  refine s_aald (tt := 4) rfl rfl dX4_head_256 ?_
  refine yg10_4 dX4_head_257 zw792 ?_
  exact s_if_eq dX4_head_260 (by decide) (wX4_head_273 hZ j hj) (wX4_head_263 hZ j hj)
noncomputable def vX4_head_242 (j : Nat → rx_K) : rx_K := o_ld rx_isI 5 (o_c1 rx_lt (vX4_head_273 j) (vX4_head_247 j))
set_option maxRecDepth 20000 in
theorem wX4_head_242 (hZ : zO b e D A X) (j : Nat → rx_K) (hj : ∀ k pc, [2, 163, 196][k]? = some pc → rx_OK (zV b e D A X) mX4_head 2 pc (j k)) : rx_OK (zV b e D A X) mX4_head 2 242 (vX4_head_242 j) := by
  unfold vX4_head_242
  refine s_iload hZ.1 dX4_head_242 ?_
  exact s_if_lt dX4_head_244 (by decide) (wX4_head_273 hZ j hj) (wX4_head_247 hZ j hj)
noncomputable def vX4_head_237 (j : Nat → rx_K) : rx_K := o_ld rx_isI 6 (o_c1 rx_eq (vX4_head_242 j) (vX4_head_273 j))
set_option maxRecDepth 20000 in
theorem wX4_head_237 (hZ : zO b e D A X) (j : Nat → rx_K) (hj : ∀ k pc, [2, 163, 196][k]? = some pc → rx_OK (zV b e D A X) mX4_head 2 pc (j k)) : rx_OK (zV b e D A X) mX4_head 2 237 (vX4_head_237 j) := by
  unfold vX4_head_237
  refine s_iload hZ.1 dX4_head_237 ?_
  exact s_if_ne dX4_head_239 (by decide) (wX4_head_273 hZ j hj) (wX4_head_242 hZ j hj)
noncomputable def vX4_head_228 (j : Nat → rx_K) : rx_K := o_bi (fun x y => x ||| y) (o_st rx_isI 6 (o_inc 7 (1) ((j 2))))
set_option maxRecDepth 20000 in
theorem wX4_head_228 (hZ : zO b e D A X) (j : Nat → rx_K) (hj : ∀ k pc, [2, 163, 196][k]? = some pc → rx_OK (zV b e D A X) mX4_head 2 pc (j k)) : rx_OK (zV b e D A X) mX4_head 2 228 (vX4_head_228 j) := by
  unfold vX4_head_228
  refine s_ior dX4_head_228 ?_
  refine s_istore hZ.1 dX4_head_229 (Nat.le_of_ble_eq_true rfl) ?_
  refine s_iinc hZ.1 dX4_head_231 (Nat.le_of_ble_eq_true rfl) ?_
  exact s_goto dX4_head_234 (by decide) (hj 2 196 rfl)
noncomputable def vX4_head_227 (j : Nat → rx_K) : rx_K := o_const 0 ((vX4_head_228 j))
set_option maxRecDepth 20000 in
theorem wX4_head_227 (hZ : zO b e D A X) (j : Nat → rx_K) (hj : ∀ k pc, [2, 163, 196][k]? = some pc → rx_OK (zV b e D A X) mX4_head 2 pc (j k)) : rx_OK (zV b e D A X) mX4_head 2 227 (vX4_head_227 j) := by
  unfold vX4_head_227
  refine s_iconst dX4_head_227 (by decide +kernel) ?_
  exact (wX4_head_228 hZ j hj)
noncomputable def vX4_head_223 (j : Nat → rx_K) : rx_K := o_const 8 ((vX4_head_228 j))
set_option maxRecDepth 20000 in
theorem wX4_head_223 (hZ : zO b e D A X) (j : Nat → rx_K) (hj : ∀ k pc, [2, 163, 196][k]? = some pc → rx_OK (zV b e D A X) mX4_head 2 pc (j k)) : rx_OK (zV b e D A X) mX4_head 2 223 (vX4_head_223 j) := by
  unfold vX4_head_223
  refine s_iconst dX4_head_223 (by decide +kernel) ?_
  exact s_goto dX4_head_224 (by decide) (wX4_head_228 hZ j hj)
noncomputable def vX4_head_203 (j : Nat → rx_K) : rx_K := o_ld rx_isI 6 (o_ld rx_isR 1 (o_const 0 (o_ld rx_isI 7 (o_callV 2 10 FX10_listedAt (o_ld rx_isR 1 (o_const 0 (o_ld rx_isI 4 (o_callV 2 10 FX10_listedAt (o_bc (fun x y => lg_cmp x y) (o_c1 rx_eq (vX4_head_223 j) (vX4_head_227 j)))))))))))
set_option maxRecDepth 20000 in
theorem wX4_head_203 (hZ : zO b e D A X) (j : Nat → rx_K) (hj : ∀ k pc, [2, 163, 196][k]? = some pc → rx_OK (zV b e D A X) mX4_head 2 pc (j k)) : rx_OK (zV b e D A X) mX4_head 2 203 (vX4_head_203 j) := by
  unfold vX4_head_203
  refine s_iload hZ.1 dX4_head_203 ?_
  refine s_aload_n hZ.1 dX4_head_205 rfl ?_
  refine s_iconst dX4_head_206 (by decide +kernel) ?_
  refine s_iload hZ.1 dX4_head_207 ?_
  refine s_callV hZ.1 (Met_X10_listedAt hZ) (Nat.le_of_ble_eq_true rfl) vy_X10_listedAt zcl10 zw1586 zw1587 (Or.inl zw1907) dX4_head_209 ?_
  refine s_aload_n hZ.1 dX4_head_212 rfl ?_
  refine s_iconst dX4_head_213 (by decide +kernel) ?_
  refine s_iload hZ.1 dX4_head_214 ?_
  refine s_callV hZ.1 (Met_X10_listedAt hZ) (Nat.le_of_ble_eq_true rfl) vy_X10_listedAt zcl10 zw1586 zw1587 (Or.inl zw1907) dX4_head_216 ?_
  refine s_lcmp dX4_head_219 ?_
  exact s_if_ne dX4_head_220 (by decide) (wX4_head_227 hZ j hj) (wX4_head_223 hZ j hj)
noncomputable def vX4_head_196 (j : Nat → rx_K) : rx_K := o_ld rx_isI 7 (o_ld rx_isI 4 (o_c2 rx_lt (vX4_head_203 j) (vX4_head_237 j)))
set_option maxRecDepth 20000 in
theorem wX4_head_196 (hZ : zO b e D A X) (j : Nat → rx_K) (hj : ∀ k pc, [2, 163, 196][k]? = some pc → rx_OK (zV b e D A X) mX4_head 2 pc (j k)) : rx_OK (zV b e D A X) mX4_head 2 196 (vX4_head_196 j) := by
  unfold vX4_head_196
  refine s_iload hZ.1 dX4_head_196 ?_
  refine s_iload hZ.1 dX4_head_198 ?_
  exact s_icmp_ge dX4_head_200 (by decide) (wX4_head_237 hZ j hj) (wX4_head_203 hZ j hj)
noncomputable def vX4_head_174 (j : Nat → rx_K) : rx_K := o_ld rx_isR 0 (o_getf 4 0 (o_ld rx_isR 1 (o_const 0 (o_ld rx_isI 4 (o_callV 2 10 FX10_listedAt (o_callV 1 11 FX11_find (o_st rx_isI 5 (o_const 0 (o_st rx_isI 6 (o_const 0 (o_st rx_isI 7 ((vX4_head_196 j)))))))))))))
set_option maxRecDepth 20000 in
theorem wX4_head_174 (hZ : zO b e D A X) (j : Nat → rx_K) (hj : ∀ k pc, [2, 163, 196][k]? = some pc → rx_OK (zV b e D A X) mX4_head 2 pc (j k)) : rx_OK (zV b e D A X) mX4_head 2 174 (vX4_head_174 j) := by
  unfold vX4_head_174
  refine s_aload_n hZ.1 dX4_head_174 rfl ?_
  refine yg4_0 dX4_head_175 zw638 ?_
  refine s_aload_n hZ.1 dX4_head_178 rfl ?_
  refine s_iconst dX4_head_179 (by decide +kernel) ?_
  refine s_iload hZ.1 dX4_head_180 ?_
  refine s_callV hZ.1 (Met_X10_listedAt hZ) (Nat.le_of_ble_eq_true rfl) vy_X10_listedAt zcl10 zw1586 zw1587 (Or.inl zw1907) dX4_head_182 ?_
  refine s_callV hZ.1 (Met_X11_find hZ) (Nat.le_of_ble_eq_true rfl) vy_X11_find zcl11 zw1574 zw1575 (Or.inl zw1901) dX4_head_185 ?_
  refine s_istore hZ.1 dX4_head_188 (Nat.le_of_ble_eq_true rfl) ?_
  refine s_iconst dX4_head_190 (by decide +kernel) ?_
  refine s_istore hZ.1 dX4_head_191 (Nat.le_of_ble_eq_true rfl) ?_
  refine s_iconst dX4_head_193 (by decide +kernel) ?_
  refine s_istore hZ.1 dX4_head_194 (Nat.le_of_ble_eq_true rfl) ?_
  exact (wX4_head_196 hZ j hj)
noncomputable def vX4_head_163 (j : Nat → rx_K) : rx_K := o_ld rx_isI 4 (o_ld rx_isR 1 (o_getf 10 11 (o_const 0 (o_ald 0 (o_c2 rx_lt (vX4_head_174 j) (vX4_head_291 j))))))
set_option maxRecDepth 20000 in
theorem wX4_head_163 (hZ : zO b e D A X) (j : Nat → rx_K) (hj : ∀ k pc, [2, 163, 196][k]? = some pc → rx_OK (zV b e D A X) mX4_head 2 pc (j k)) : rx_OK (zV b e D A X) mX4_head 2 163 (vX4_head_163 j) := by
  unfold vX4_head_163
  refine s_iload hZ.1 dX4_head_163 ?_
  refine s_aload_n hZ.1 dX4_head_165 rfl ?_
  refine yg10_11 dX4_head_166 zw840 ?_
  refine s_iconst dX4_head_169 (by decide +kernel) ?_
  refine s_iald (tt := 0) rfl dX4_head_170 ?_
  exact s_icmp_ge dX4_head_171 (by decide) (wX4_head_291 hZ j hj) (wX4_head_174 hZ j hj)
noncomputable def vX4_head_160 (j : Nat → rx_K) : rx_K := o_const 0 (o_st rx_isI 4 ((vX4_head_163 j)))
set_option maxRecDepth 20000 in
theorem wX4_head_160 (hZ : zO b e D A X) (j : Nat → rx_K) (hj : ∀ k pc, [2, 163, 196][k]? = some pc → rx_OK (zV b e D A X) mX4_head 2 pc (j k)) : rx_OK (zV b e D A X) mX4_head 2 160 (vX4_head_160 j) := by
  unfold vX4_head_160
  refine s_iconst dX4_head_160 (by decide +kernel) ?_
  refine s_istore hZ.1 dX4_head_161 (Nat.le_of_ble_eq_true rfl) ?_
  exact (wX4_head_163 hZ j hj)
noncomputable def vX4_head_157 (j : Nat → rx_K) : rx_K := o_inc 3 (2) ((vX4_head_160 j))
set_option maxRecDepth 20000 in
theorem wX4_head_157 (hZ : zO b e D A X) (j : Nat → rx_K) (hj : ∀ k pc, [2, 163, 196][k]? = some pc → rx_OK (zV b e D A X) mX4_head 2 pc (j k)) : rx_OK (zV b e D A X) mX4_head 2 157 (vX4_head_157 j) := by
  unfold vX4_head_157
  refine s_iinc hZ.1 dX4_head_157 (Nat.le_of_ble_eq_true rfl) ?_
  exact (wX4_head_160 hZ j hj)
noncomputable def vX4_head_148 (j : Nat → rx_K) : rx_K := o_ld rx_isR 0 (o_const 40 (o_ld rx_isI 3 (o_const 8 (o_bi (fun x y => x + y) (o_callV 2 4 FX4_fail (o_ret1 rx_isZ))))))
set_option maxRecDepth 20000 in
theorem wX4_head_148 (hZ : zO b e D A X) (j : Nat → rx_K) (hj : ∀ k pc, [2, 163, 196][k]? = some pc → rx_OK (zV b e D A X) mX4_head 2 pc (j k)) : rx_OK (zV b e D A X) mX4_head 2 148 (vX4_head_148 j) := by
  unfold vX4_head_148
  refine s_aload_n hZ.1 dX4_head_148 rfl ?_
  refine s_iconst dX4_head_149 (by decide +kernel) ?_
  refine s_iload_n hZ.1 dX4_head_150 rfl ?_
  refine s_iconst dX4_head_151 (by decide +kernel) ?_
  refine s_iadd dX4_head_152 ?_
  refine s_callV hZ.1 (Met_X4_fail hZ) (Nat.le_of_ble_eq_true rfl) vy_X4_fail zcl4 zw1898 zw43 (Or.inl zw1896) dX4_head_153 ?_
  exact s_zret rx_z_ok rfl dX4_head_156
noncomputable def vX4_head_138 (j : Nat → rx_K) : rx_K := o_ld rx_isR 0 (o_ld rx_isI 4 (o_ld rx_isR 1 (o_callV 2 4 FX4_barred (o_c1 rx_eq (vX4_head_157 j) (vX4_head_148 j)))))
set_option maxRecDepth 20000 in
theorem wX4_head_138 (hZ : zO b e D A X) (j : Nat → rx_K) (hj : ∀ k pc, [2, 163, 196][k]? = some pc → rx_OK (zV b e D A X) mX4_head 2 pc (j k)) : rx_OK (zV b e D A X) mX4_head 2 138 (vX4_head_138 j) := by
  unfold vX4_head_138
  refine s_aload_n hZ.1 dX4_head_138 rfl ?_
  refine s_iload hZ.1 dX4_head_139 ?_
  refine s_aload_n hZ.1 dX4_head_141 rfl ?_
  refine s_callV hZ.1 (Met_X4_barred hZ) (Nat.le_of_ble_eq_true rfl) vy_X4_barred zcl4 zw1904 zw44 (Or.inl zw1902) dX4_head_142 ?_
  exact s_if_eq dX4_head_145 (by decide) (wX4_head_157 hZ j hj) (wX4_head_148 hZ j hj)
noncomputable def vX4_head_122 (j : Nat → rx_K) : rx_K := o_ld rx_isR 0 (o_getf 4 0 (o_getf 11 1 (o_ld rx_isI 4 (o_ald 4 (o_getf 10 5 (o_c1 rx_eq (vX4_head_138 j) (vX4_head_148 j)))))))
set_option maxRecDepth 20000 in
theorem wX4_head_122 (hZ : zO b e D A X) (j : Nat → rx_K) (hj : ∀ k pc, [2, 163, 196][k]? = some pc → rx_OK (zV b e D A X) mX4_head 2 pc (j k)) : rx_OK (zV b e D A X) mX4_head 2 122 (vX4_head_122 j) := by
  unfold vX4_head_122
  refine s_aload_n hZ.1 dX4_head_122 rfl ?_
  refine yg4_0 dX4_head_123 zw638 ?_
  refine yg11_1 dX4_head_126 zw1254 ?_
  refine s_iload hZ.1 dX4_head_129 ?_
  refine s_aald (tt := 4) rfl rfl dX4_head_131 ?_
  refine yg10_5 dX4_head_132 zw801 ?_
  exact s_if_ne dX4_head_135 (by decide) (wX4_head_148 hZ j hj) (wX4_head_138 hZ j hj)
noncomputable def vX4_head_106 (j : Nat → rx_K) : rx_K := o_ld rx_isR 0 (o_getf 4 0 (o_getf 11 1 (o_ld rx_isI 4 (o_ald 4 (o_getf 10 4 (o_c1 rx_eq (vX4_head_122 j) (vX4_head_148 j)))))))
set_option maxRecDepth 20000 in
theorem wX4_head_106 (hZ : zO b e D A X) (j : Nat → rx_K) (hj : ∀ k pc, [2, 163, 196][k]? = some pc → rx_OK (zV b e D A X) mX4_head 2 pc (j k)) : rx_OK (zV b e D A X) mX4_head 2 106 (vX4_head_106 j) := by
  unfold vX4_head_106
  refine s_aload_n hZ.1 dX4_head_106 rfl ?_
  refine yg4_0 dX4_head_107 zw638 ?_
  refine yg11_1 dX4_head_110 zw1254 ?_
  refine s_iload hZ.1 dX4_head_113 ?_
  refine s_aald (tt := 4) rfl rfl dX4_head_115 ?_
  refine yg10_4 dX4_head_116 zw792 ?_
  exact s_if_ne dX4_head_119 (by decide) (wX4_head_148 hZ j hj) (wX4_head_122 hZ j hj)
noncomputable def vX4_head_101 (j : Nat → rx_K) : rx_K := o_ld rx_isI 4 (o_c1 rx_lt (vX4_head_148 j) (vX4_head_106 j))
set_option maxRecDepth 20000 in
theorem wX4_head_101 (hZ : zO b e D A X) (j : Nat → rx_K) (hj : ∀ k pc, [2, 163, 196][k]? = some pc → rx_OK (zV b e D A X) mX4_head 2 pc (j k)) : rx_OK (zV b e D A X) mX4_head 2 101 (vX4_head_101 j) := by
  unfold vX4_head_101
  refine s_iload hZ.1 dX4_head_101 ?_
  exact s_if_lt dX4_head_103 (by decide) (wX4_head_148 hZ j hj) (wX4_head_106 hZ j hj)
noncomputable def vX4_head_81 (j : Nat → rx_K) : rx_K := o_ld rx_isR 0 (o_getf 4 0 (o_ld rx_isR 1 (o_getf 10 8 (o_callV 1 11 FX11_find (o_st rx_isI 4 (o_ld rx_isR 1 (o_getf 10 4 (o_c1 rx_eq (vX4_head_101 j) (vX4_head_148 j)))))))))
set_option maxRecDepth 20000 in
theorem wX4_head_81 (hZ : zO b e D A X) (j : Nat → rx_K) (hj : ∀ k pc, [2, 163, 196][k]? = some pc → rx_OK (zV b e D A X) mX4_head 2 pc (j k)) : rx_OK (zV b e D A X) mX4_head 2 81 (vX4_head_81 j) := by
  unfold vX4_head_81
  refine s_aload_n hZ.1 dX4_head_81 rfl ?_
  refine yg4_0 dX4_head_82 zw638 ?_
  refine s_aload_n hZ.1 dX4_head_85 rfl ?_
  refine yg10_8 dX4_head_86 zw824 ?_
  refine s_callV hZ.1 (Met_X11_find hZ) (Nat.le_of_ble_eq_true rfl) vy_X11_find zcl11 zw1574 zw1575 (Or.inl zw1901) dX4_head_89 ?_
  refine s_istore hZ.1 dX4_head_92 (Nat.le_of_ble_eq_true rfl) ?_
  refine s_aload_n hZ.1 dX4_head_94 rfl ?_
  refine yg10_4 dX4_head_95 zw792 ?_
  exact s_if_ne dX4_head_98 (by decide) (wX4_head_148 hZ j hj) (wX4_head_101 hZ j hj)
noncomputable def vX4_head_67 (j : Nat → rx_K) : rx_K := o_ld rx_isR 1 (o_getf 10 2 (o_const 8 (o_bi (fun x y => x + y) (o_st rx_isI 3 (o_ld rx_isR 1 (o_getf 10 7 (o_c1 rx_eq (vX4_head_160 j) (vX4_head_81 j))))))))
set_option maxRecDepth 20000 in
theorem wX4_head_67 (hZ : zO b e D A X) (j : Nat → rx_K) (hj : ∀ k pc, [2, 163, 196][k]? = some pc → rx_OK (zV b e D A X) mX4_head 2 pc (j k)) : rx_OK (zV b e D A X) mX4_head 2 67 (vX4_head_67 j) := by
  unfold vX4_head_67
  refine s_aload_n hZ.1 dX4_head_67 rfl ?_
  refine yg10_2 dX4_head_68 zw779 ?_
  refine s_iconst dX4_head_71 (by decide +kernel) ?_
  refine s_iadd dX4_head_72 ?_
  refine s_istore_n hZ.1 dX4_head_73 rfl (Nat.le_of_ble_eq_true rfl) ?_
  refine s_aload_n hZ.1 dX4_head_74 rfl ?_
  refine yg10_7 dX4_head_75 zw818 ?_
  exact s_if_eq dX4_head_78 (by decide) (wX4_head_160 hZ j hj) (wX4_head_81 hZ j hj)
noncomputable def vX4_head_57 (j : Nat → rx_K) : rx_K := o_ld rx_isR 0 (o_const 32 (o_ld rx_isR 1 (o_getf 10 2 (o_callV 2 4 FX4_fail (o_ret1 rx_isZ)))))
set_option maxRecDepth 20000 in
theorem wX4_head_57 (hZ : zO b e D A X) (j : Nat → rx_K) (hj : ∀ k pc, [2, 163, 196][k]? = some pc → rx_OK (zV b e D A X) mX4_head 2 pc (j k)) : rx_OK (zV b e D A X) mX4_head 2 57 (vX4_head_57 j) := by
  unfold vX4_head_57
  refine s_aload_n hZ.1 dX4_head_57 rfl ?_
  refine s_iconst dX4_head_58 (by decide +kernel) ?_
  refine s_aload_n hZ.1 dX4_head_59 rfl ?_
  refine yg10_2 dX4_head_60 zw779 ?_
  refine s_callV hZ.1 (Met_X4_fail hZ) (Nat.le_of_ble_eq_true rfl) vy_X4_fail zcl4 zw1898 zw43 (Or.inl zw1896) dX4_head_63 ?_
  exact s_zret rx_z_ok rfl dX4_head_66
noncomputable def vX4_head_43 (j : Nat → rx_K) : rx_K := o_ld rx_isR 1 (o_getf 10 1 (o_const 472 (o_bs (fun x y => (x.toUInt64 >>> (y.toInt64.toUInt64 &&& Int64.toUInt64 63)).toInt64) (o_const 201 (o_bc (fun x y => lg_cmp x y) (o_c1 rx_eq (vX4_head_57 j) (vX4_head_67 j)))))))
set_option maxRecDepth 20000 in
theorem wX4_head_43 (hZ : zO b e D A X) (j : Nat → rx_K) (hj : ∀ k pc, [2, 163, 196][k]? = some pc → rx_OK (zV b e D A X) mX4_head 2 pc (j k)) : rx_OK (zV b e D A X) mX4_head 2 43 (vX4_head_43 j) := by
  unfold vX4_head_43
  refine s_aload_n hZ.1 dX4_head_43 rfl ?_
  refine yg10_1 dX4_head_44 zw772 ?_
  refine s_bipush dX4_head_47 (by decide +kernel) ?_
  refine s_lushr dX4_head_49 ?_
  refine s_ldc2 dX4_head_50 zw1900 (by decide +kernel) ?_
  refine s_lcmp dX4_head_53 ?_
  exact s_if_ne dX4_head_54 (by decide) (wX4_head_67 hZ j hj) (wX4_head_57 hZ j hj)
noncomputable def vX4_head_37 (j : Nat → rx_K) : rx_K := o_inc 3 (1) ((j 0))
set_option maxRecDepth 20000 in
theorem wX4_head_37 (hZ : zO b e D A X) (j : Nat → rx_K) (hj : ∀ k pc, [2, 163, 196][k]? = some pc → rx_OK (zV b e D A X) mX4_head 2 pc (j k)) : rx_OK (zV b e D A X) mX4_head 2 37 (vX4_head_37 j) := by
  unfold vX4_head_37
  refine s_iinc hZ.1 dX4_head_37 (Nat.le_of_ble_eq_true rfl) ?_
  exact s_goto dX4_head_40 (by decide) (hj 0 2 rfl)
noncomputable def vX4_head_27 (j : Nat → rx_K) : rx_K := o_ld rx_isR 0 (o_const 32 (o_ld rx_isR 1 (o_getf 10 2 (o_callV 2 4 FX4_fail (o_ret1 rx_isZ)))))
set_option maxRecDepth 20000 in
theorem wX4_head_27 (hZ : zO b e D A X) (j : Nat → rx_K) (hj : ∀ k pc, [2, 163, 196][k]? = some pc → rx_OK (zV b e D A X) mX4_head 2 pc (j k)) : rx_OK (zV b e D A X) mX4_head 2 27 (vX4_head_27 j) := by
  unfold vX4_head_27
  refine s_aload_n hZ.1 dX4_head_27 rfl ?_
  refine s_iconst dX4_head_28 (by decide +kernel) ?_
  refine s_aload_n hZ.1 dX4_head_29 rfl ?_
  refine yg10_2 dX4_head_30 zw779 ?_
  refine s_callV hZ.1 (Met_X4_fail hZ) (Nat.le_of_ble_eq_true rfl) vy_X4_fail zcl4 zw1898 zw43 (Or.inl zw1896) dX4_head_33 ?_
  exact s_zret rx_z_ok rfl dX4_head_36
noncomputable def vX4_head_7 (j : Nat → rx_K) : rx_K := o_ld rx_isR 0 (o_getf 4 1 (o_getf 1 2 (o_ld rx_isI 3 (o_ald 4 (o_getf 10 1 (o_ld rx_isR 1 (o_getf 10 1 (o_bc (fun x y => lg_cmp x y) (o_c1 rx_eq (vX4_head_27 j) (vX4_head_37 j))))))))))
set_option maxRecDepth 20000 in
theorem wX4_head_7 (hZ : zO b e D A X) (j : Nat → rx_K) (hj : ∀ k pc, [2, 163, 196][k]? = some pc → rx_OK (zV b e D A X) mX4_head 2 pc (j k)) : rx_OK (zV b e D A X) mX4_head 2 7 (vX4_head_7 j) := by
  unfold vX4_head_7
  refine s_aload_n hZ.1 dX4_head_7 rfl ?_
  refine yg4_1 dX4_head_8 zw639 ?_
  refine yg1_2 dX4_head_11 zw1117 ?_
  refine s_iload_n hZ.1 dX4_head_14 rfl ?_
  refine s_aald (tt := 4) rfl rfl dX4_head_15 ?_
  refine yg10_1 dX4_head_16 zw772 ?_
  refine s_aload_n hZ.1 dX4_head_19 rfl ?_
  refine yg10_1 dX4_head_20 zw772 ?_
  refine s_lcmp dX4_head_23 ?_
  exact s_if_ne dX4_head_24 (by decide) (wX4_head_37 hZ j hj) (wX4_head_27 hZ j hj)
noncomputable def vX4_head_2 (j : Nat → rx_K) : rx_K := o_ld rx_isI 3 (o_ld rx_isI 2 (o_c2 rx_lt (vX4_head_7 j) (vX4_head_43 j)))
set_option maxRecDepth 20000 in
theorem wX4_head_2 (hZ : zO b e D A X) (j : Nat → rx_K) (hj : ∀ k pc, [2, 163, 196][k]? = some pc → rx_OK (zV b e D A X) mX4_head 2 pc (j k)) : rx_OK (zV b e D A X) mX4_head 2 2 (vX4_head_2 j) := by
  unfold vX4_head_2
  refine s_iload_n hZ.1 dX4_head_2 rfl ?_
  refine s_iload_n hZ.1 dX4_head_3 rfl ?_
  exact s_icmp_ge dX4_head_4 (by decide) (wX4_head_43 hZ j hj) (wX4_head_7 hZ j hj)
noncomputable def vX4_head_0 (j : Nat → rx_K) : rx_K := o_const 0 (o_st rx_isI 3 ((vX4_head_2 j)))
set_option maxRecDepth 20000 in
theorem wX4_head_0 (hZ : zO b e D A X) (j : Nat → rx_K) (hj : ∀ k pc, [2, 163, 196][k]? = some pc → rx_OK (zV b e D A X) mX4_head 2 pc (j k)) : rx_OK (zV b e D A X) mX4_head 2 0 (vX4_head_0 j) := by
  unfold vX4_head_0
  refine s_iconst dX4_head_0 (by decide +kernel) ?_
  refine s_istore_n hZ.1 dX4_head_1 rfl (Nat.le_of_ble_eq_true rfl) ?_
  exact (wX4_head_2 hZ j hj)
noncomputable def vhX4_head (j : Nat → rx_K) : List rx_K := [vX4_head_2 j, vX4_head_163 j, vX4_head_196 j]
theorem vlX4_head (hZ : zO b e D A X) : ∀ n k pc, [2, 163, 196][k]? = some pc → rx_OK (zV b e D A X) mX4_head 2 pc (rx_J (vhX4_head) n k) := rx_loop fun j hj k pc h => by
  match k, h with
  | 0, h =>
    have e9 := Option.some.inj (show some 2 = some pc from h)
    subst e9
    exact wX4_head_2 hZ j hj
  | 1, h =>
    have e9 := Option.some.inj (show some 163 = some pc from h)
    subst e9
    exact wX4_head_163 hZ j hj
  | 2, h =>
    have e9 := Option.some.inj (show some 196 = some pc from h)
    subst e9
    exact wX4_head_196 hZ j hj
  | _ + 3, h => exact absurd h (by simp)
noncomputable def FX4_head : List Nat → rx_H → Option (Nat × rx_H) := rx_ent 8 (vX4_head_0 (rx_J (vhX4_head) 4000000000))
theorem Met_X4_head (hZ : zO b e D A X) : rx_Met (zV b e D A X) 2 yX4_head mX4_head (FX4_head) := rx_entry hZ.1 (wX4_head_0 hZ _ (vlX4_head hZ 4000000000)) (by decide +kernel) rfl (fun h => by cases h)
abbrev mX10_hasMaker : rx_M := (RX10, cX10_hasMaker, 2, (some .boolean), false)
theorem vy_X10_hasMaker : rx_Y (zV b e D A X) yX10_hasMaker mX10_hasMaker 0 := ⟨zw1995, zw425, by decide, by decide +kernel, by decide +kernel, by decide +kernel⟩
noncomputable def vX10_hasMaker_31 (j : Nat → rx_K) : rx_K := o_const 0 (o_ret1 rx_isZ)
set_option maxRecDepth 20000 in
theorem wX10_hasMaker_31 (hZ : zO b e D A X) (j : Nat → rx_K) (hj : ∀ k pc, [2][k]? = some pc → rx_OK (zV b e D A X) mX10_hasMaker 0 pc (j k)) : rx_OK (zV b e D A X) mX10_hasMaker 0 31 (vX10_hasMaker_31 j) := by
  unfold vX10_hasMaker_31
  refine s_iconst dX10_hasMaker_31 (by decide +kernel) ?_
  exact s_zret rx_z_ok rfl dX10_hasMaker_32
noncomputable def vX10_hasMaker_25 (j : Nat → rx_K) : rx_K := o_inc 1 (1) ((j 0))
set_option maxRecDepth 20000 in
theorem wX10_hasMaker_25 (hZ : zO b e D A X) (j : Nat → rx_K) (hj : ∀ k pc, [2][k]? = some pc → rx_OK (zV b e D A X) mX10_hasMaker 0 pc (j k)) : rx_OK (zV b e D A X) mX10_hasMaker 0 25 (vX10_hasMaker_25 j) := by
  unfold vX10_hasMaker_25
  refine s_iinc hZ.1 dX10_hasMaker_25 (Nat.le_of_ble_eq_true rfl) ?_
  exact s_goto dX10_hasMaker_28 (by decide) (hj 0 2 rfl)
noncomputable def vX10_hasMaker_23 (j : Nat → rx_K) : rx_K := o_const 8 (o_ret1 rx_isZ)
set_option maxRecDepth 20000 in
theorem wX10_hasMaker_23 (hZ : zO b e D A X) (j : Nat → rx_K) (hj : ∀ k pc, [2][k]? = some pc → rx_OK (zV b e D A X) mX10_hasMaker 0 pc (j k)) : rx_OK (zV b e D A X) mX10_hasMaker 0 23 (vX10_hasMaker_23 j) := by
  unfold vX10_hasMaker_23
  refine s_iconst dX10_hasMaker_23 (by decide +kernel) ?_
  exact s_zret rx_z_ok rfl dX10_hasMaker_24
noncomputable def vX10_hasMaker_10 (j : Nat → rx_K) : rx_K := o_ld rx_isR 0 (o_getf 10 14 (o_ld rx_isI 1 (o_ald 5 (o_getf 7 0 (o_const 16 (o_c2 rx_eq (vX10_hasMaker_23 j) (vX10_hasMaker_25 j)))))))
set_option maxRecDepth 20000 in
theorem wX10_hasMaker_10 (hZ : zO b e D A X) (j : Nat → rx_K) (hj : ∀ k pc, [2][k]? = some pc → rx_OK (zV b e D A X) mX10_hasMaker 0 pc (j k)) : rx_OK (zV b e D A X) mX10_hasMaker 0 10 (vX10_hasMaker_10 j) := by
  unfold vX10_hasMaker_10
  refine s_aload_n hZ.1 dX10_hasMaker_10 rfl ?_
  refine yg10_14 dX10_hasMaker_11 zw858 ?_
  refine s_iload_n hZ.1 dX10_hasMaker_14 rfl ?_
  refine s_aald (tt := 5) rfl rfl dX10_hasMaker_15 ?_
  refine yg7_0 dX10_hasMaker_16 zw947 ?_
  refine s_iconst dX10_hasMaker_19 (by decide +kernel) ?_
  exact s_icmp_ne dX10_hasMaker_20 (by decide) (wX10_hasMaker_25 hZ j hj) (wX10_hasMaker_23 hZ j hj)
noncomputable def vX10_hasMaker_2 (j : Nat → rx_K) : rx_K := o_ld rx_isI 1 (o_ld rx_isR 0 (o_getf 10 15 (o_c2 rx_lt (vX10_hasMaker_10 j) (vX10_hasMaker_31 j))))
set_option maxRecDepth 20000 in
theorem wX10_hasMaker_2 (hZ : zO b e D A X) (j : Nat → rx_K) (hj : ∀ k pc, [2][k]? = some pc → rx_OK (zV b e D A X) mX10_hasMaker 0 pc (j k)) : rx_OK (zV b e D A X) mX10_hasMaker 0 2 (vX10_hasMaker_2 j) := by
  unfold vX10_hasMaker_2
  refine s_iload_n hZ.1 dX10_hasMaker_2 rfl ?_
  refine s_aload_n hZ.1 dX10_hasMaker_3 rfl ?_
  refine yg10_15 dX10_hasMaker_4 zw866 ?_
  exact s_icmp_ge dX10_hasMaker_7 (by decide) (wX10_hasMaker_31 hZ j hj) (wX10_hasMaker_10 hZ j hj)
noncomputable def vX10_hasMaker_0 (j : Nat → rx_K) : rx_K := o_const 0 (o_st rx_isI 1 ((vX10_hasMaker_2 j)))
set_option maxRecDepth 20000 in
theorem wX10_hasMaker_0 (hZ : zO b e D A X) (j : Nat → rx_K) (hj : ∀ k pc, [2][k]? = some pc → rx_OK (zV b e D A X) mX10_hasMaker 0 pc (j k)) : rx_OK (zV b e D A X) mX10_hasMaker 0 0 (vX10_hasMaker_0 j) := by
  unfold vX10_hasMaker_0
  refine s_iconst dX10_hasMaker_0 (by decide +kernel) ?_
  refine s_istore_n hZ.1 dX10_hasMaker_1 rfl (Nat.le_of_ble_eq_true rfl) ?_
  exact (wX10_hasMaker_2 hZ j hj)
noncomputable def vhX10_hasMaker (j : Nat → rx_K) : List rx_K := [vX10_hasMaker_2 j]
theorem vlX10_hasMaker (hZ : zO b e D A X) : ∀ n k pc, [2][k]? = some pc → rx_OK (zV b e D A X) mX10_hasMaker 0 pc (rx_J (vhX10_hasMaker) n k) := rx_loop fun j hj k pc h => by
  match k, h with
  | 0, h =>
    have e9 := Option.some.inj (show some 2 = some pc from h)
    subst e9
    exact wX10_hasMaker_2 hZ j hj
  | _ + 1, h => exact absurd h (by simp)
noncomputable def FX10_hasMaker : List Nat → rx_H → Option (Nat × rx_H) := rx_ent 2 (vX10_hasMaker_0 (rx_J (vhX10_hasMaker) 4000000000))
theorem Met_X10_hasMaker (hZ : zO b e D A X) : rx_Met (zV b e D A X) 0 yX10_hasMaker mX10_hasMaker (FX10_hasMaker) := rx_entry hZ.1 (wX10_hasMaker_0 hZ _ (vlX10_hasMaker hZ 4000000000)) (by decide +kernel) rfl (fun h => by cases h)
abbrev mX4_impliedMaker : rx_M := (RX4, cX4_impliedMaker, 3, none, false)
theorem vy_X4_impliedMaker : rx_Y (zV b e D A X) yX4_impliedMaker mX4_impliedMaker 1 := ⟨zw1991, zw420, by decide, by decide +kernel, by decide +kernel, by decide +kernel⟩
noncomputable def vX4_impliedMaker_56 : rx_K := o_ret0
set_option maxRecDepth 20000 in
theorem wX4_impliedMaker_56 (hZ : zO b e D A X) : rx_OK (zV b e D A X) mX4_impliedMaker 3 56 vX4_impliedMaker_56 := by
  unfold vX4_impliedMaker_56
  exact s_vret rfl dX4_impliedMaker_56
noncomputable def vX4_impliedMaker_40 : rx_K := o_putf rx_isI 7 1 (o_ld rx_isR 2 (o_ld rx_isR 1 (o_getf 10 2 (o_putf rx_isI 7 11 (o_ld rx_isR 1 (o_ld rx_isR 2 (o_callV 1 10 FX10_add (vX4_impliedMaker_56))))))))
set_option maxRecDepth 20000 in
theorem wX4_impliedMaker_40 (hZ : zO b e D A X) : rx_OK (zV b e D A X) mX4_impliedMaker 3 40 vX4_impliedMaker_40 := by
  unfold vX4_impliedMaker_40
  refine yp7_1 hZ.1 dX4_impliedMaker_40 zw955 ?_
  refine s_aload_n hZ.1 dX4_impliedMaker_43 rfl ?_
  refine s_aload_n hZ.1 dX4_impliedMaker_44 rfl ?_
  refine yg10_2 dX4_impliedMaker_45 zw779 ?_
  refine yp7_11 hZ.1 dX4_impliedMaker_48 zw1037 ?_
  refine s_aload_n hZ.1 dX4_impliedMaker_51 rfl ?_
  refine s_aload_n hZ.1 dX4_impliedMaker_52 rfl ?_
  refine s_callV hZ.1 (Met_X10_add hZ) (Nat.le_of_ble_eq_true rfl) vy_X10_add zcl10 zw1244 zw1245 (Or.inl zw1997) dX4_impliedMaker_53 ?_
  exact (wX4_impliedMaker_56 hZ)
noncomputable def vX4_impliedMaker_39 : rx_K := o_const 8 (vX4_impliedMaker_40)
set_option maxRecDepth 20000 in
theorem wX4_impliedMaker_39 (hZ : zO b e D A X) : rx_OK (zV b e D A X) mX4_impliedMaker 3 39 vX4_impliedMaker_39 := by
  unfold vX4_impliedMaker_39
  refine s_iconst dX4_impliedMaker_39 (by decide +kernel) ?_
  exact (wX4_impliedMaker_40 hZ)
noncomputable def vX4_impliedMaker_35 : rx_K := o_const 24 (vX4_impliedMaker_40)
set_option maxRecDepth 20000 in
theorem wX4_impliedMaker_35 (hZ : zO b e D A X) : rx_OK (zV b e D A X) mX4_impliedMaker 3 35 vX4_impliedMaker_35 := by
  unfold vX4_impliedMaker_35
  refine s_iconst dX4_impliedMaker_35 (by decide +kernel) ?_
  exact s_goto dX4_impliedMaker_36 (by decide) (wX4_impliedMaker_40 hZ)
noncomputable def vX4_impliedMaker_14 : rx_K := o_ld rx_isR 0 (o_getf 4 1 (o_callV 0 1 FX1_newMember (o_st rx_isR 2 (o_ld rx_isR 2 (o_const 16 (o_putf rx_isI 7 0 (o_ld rx_isR 2 (o_ld rx_isR 1 (o_getf 10 3 (o_c1 rx_eq vX4_impliedMaker_39 vX4_impliedMaker_35))))))))))
set_option maxRecDepth 20000 in
theorem wX4_impliedMaker_14 (hZ : zO b e D A X) : rx_OK (zV b e D A X) mX4_impliedMaker 3 14 vX4_impliedMaker_14 := by
  unfold vX4_impliedMaker_14
  refine s_aload_n hZ.1 dX4_impliedMaker_14 rfl ?_
  refine yg4_1 dX4_impliedMaker_15 zw639 ?_
  refine s_callV hZ.1 (Met_X1_newMember hZ) (Nat.le_of_ble_eq_true rfl) vy_X1_newMember zcl1 zw1228 zw1229 (Or.inl zw1996) dX4_impliedMaker_18 ?_
  refine s_astore_n hZ.1 dX4_impliedMaker_21 rfl (Nat.le_of_ble_eq_true rfl) ?_
  refine s_aload_n hZ.1 dX4_impliedMaker_22 rfl ?_
  refine s_iconst dX4_impliedMaker_23 (by decide +kernel) ?_
  refine yp7_0 hZ.1 dX4_impliedMaker_24 zw946 ?_
  refine s_aload_n hZ.1 dX4_impliedMaker_27 rfl ?_
  refine s_aload_n hZ.1 dX4_impliedMaker_28 rfl ?_
  refine yg10_3 dX4_impliedMaker_29 zw785 ?_
  exact s_if_eq dX4_impliedMaker_32 (by decide) (wX4_impliedMaker_39 hZ) (wX4_impliedMaker_35 hZ)
noncomputable def vX4_impliedMaker_7 : rx_K := o_ld rx_isR 1 (o_callV 0 10 FX10_hasMaker (o_c1 rx_eq vX4_impliedMaker_14 vX4_impliedMaker_56))
set_option maxRecDepth 20000 in
theorem wX4_impliedMaker_7 (hZ : zO b e D A X) : rx_OK (zV b e D A X) mX4_impliedMaker 3 7 vX4_impliedMaker_7 := by
  unfold vX4_impliedMaker_7
  refine s_aload_n hZ.1 dX4_impliedMaker_7 rfl ?_
  refine s_callV hZ.1 (Met_X10_hasMaker hZ) (Nat.le_of_ble_eq_true rfl) vy_X10_hasMaker zcl10 zw1993 zw1994 (Or.inl zw1992) dX4_impliedMaker_8 ?_
  exact s_if_ne dX4_impliedMaker_11 (by decide) (wX4_impliedMaker_56 hZ) (wX4_impliedMaker_14 hZ)
noncomputable def vX4_impliedMaker_0 : rx_K := o_ld rx_isR 1 (o_getf 10 4 (o_c1 rx_eq vX4_impliedMaker_7 vX4_impliedMaker_56))
set_option maxRecDepth 20000 in
theorem wX4_impliedMaker_0 (hZ : zO b e D A X) : rx_OK (zV b e D A X) mX4_impliedMaker 3 0 vX4_impliedMaker_0 := by
  unfold vX4_impliedMaker_0
  refine s_aload_n hZ.1 dX4_impliedMaker_0 rfl ?_
  refine yg10_4 dX4_impliedMaker_1 zw792 ?_
  exact s_if_ne dX4_impliedMaker_4 (by decide) (wX4_impliedMaker_56 hZ) (wX4_impliedMaker_7 hZ)
noncomputable def FX4_impliedMaker : List Nat → rx_H → Option (Nat × rx_H) := rx_ent 3 vX4_impliedMaker_0
theorem Met_X4_impliedMaker (hZ : zO b e D A X) : rx_Met (zV b e D A X) 3 yX4_impliedMaker mX4_impliedMaker (FX4_impliedMaker) := rx_entry hZ.1 (wX4_impliedMaker_0 hZ) (by decide +kernel) rfl (fun h => by cases h)
abbrev mX4_oddInClass : rx_M := (RX4, cX4_oddInClass, 2, (some .boolean), false)
theorem vy_X4_oddInClass : rx_Y (zV b e D A X) yX4_oddInClass mX4_oddInClass 2 := ⟨zw1930, zw420, by decide, by decide +kernel, by decide +kernel, by decide +kernel⟩
noncomputable def vX4_oddInClass_64 : rx_K := o_ret1 rx_isZ
set_option maxRecDepth 20000 in
theorem wX4_oddInClass_64 (hZ : zO b e D A X) : rx_OK (zV b e D A X) mX4_oddInClass 0 64 vX4_oddInClass_64 := by
  unfold vX4_oddInClass_64
  exact s_zret rx_z_ok rfl dX4_oddInClass_64
noncomputable def vX4_oddInClass_63 : rx_K := o_const 0 (vX4_oddInClass_64)
set_option maxRecDepth 20000 in
theorem wX4_oddInClass_63 (hZ : zO b e D A X) : rx_OK (zV b e D A X) mX4_oddInClass 0 63 vX4_oddInClass_63 := by
  unfold vX4_oddInClass_63
  refine s_iconst dX4_oddInClass_63 (by decide +kernel) ?_
  exact (wX4_oddInClass_64 hZ)
noncomputable def vX4_oddInClass_59 : rx_K := o_const 8 (vX4_oddInClass_64)
set_option maxRecDepth 20000 in
theorem wX4_oddInClass_59 (hZ : zO b e D A X) : rx_OK (zV b e D A X) mX4_oddInClass 0 59 vX4_oddInClass_59 := by
  unfold vX4_oddInClass_59
  refine s_iconst dX4_oddInClass_59 (by decide +kernel) ?_
  exact s_goto dX4_oddInClass_60 (by decide) (wX4_oddInClass_64 hZ)
noncomputable def vX4_oddInClass_52 : rx_K := o_ld rx_isR 0 (o_getf 10 6 (o_c1 rx_eq vX4_oddInClass_59 vX4_oddInClass_63))
set_option maxRecDepth 20000 in
theorem wX4_oddInClass_52 (hZ : zO b e D A X) : rx_OK (zV b e D A X) mX4_oddInClass 0 52 vX4_oddInClass_52 := by
  unfold vX4_oddInClass_52
  refine s_aload_n hZ.1 dX4_oddInClass_52 rfl ?_
  refine yg10_6 dX4_oddInClass_53 zw809 ?_
  exact s_if_ne dX4_oddInClass_56 (by decide) (wX4_oddInClass_63 hZ) (wX4_oddInClass_59 hZ)
noncomputable def vX4_oddInClass_45 : rx_K := o_ld rx_isR 1 (o_getf 7 2 (o_c1 rx_eq vX4_oddInClass_52 vX4_oddInClass_59))
set_option maxRecDepth 20000 in
theorem wX4_oddInClass_45 (hZ : zO b e D A X) : rx_OK (zV b e D A X) mX4_oddInClass 0 45 vX4_oddInClass_45 := by
  unfold vX4_oddInClass_45
  refine s_aload_n hZ.1 dX4_oddInClass_45 rfl ?_
  refine yg7_2 dX4_oddInClass_46 zw964 ?_
  exact s_if_ne dX4_oddInClass_49 (by decide) (wX4_oddInClass_59 hZ) (wX4_oddInClass_52 hZ)
noncomputable def vX4_oddInClass_38 : rx_K := o_ld rx_isR 1 (o_getf 7 1 (o_c1 rx_eq vX4_oddInClass_59 vX4_oddInClass_45))
set_option maxRecDepth 20000 in
theorem wX4_oddInClass_38 (hZ : zO b e D A X) : rx_OK (zV b e D A X) mX4_oddInClass 0 38 vX4_oddInClass_38 := by
  unfold vX4_oddInClass_38
  refine s_aload_n hZ.1 dX4_oddInClass_38 rfl ?_
  refine yg7_1 dX4_oddInClass_39 zw955 ?_
  exact s_if_eq dX4_oddInClass_42 (by decide) (wX4_oddInClass_59 hZ) (wX4_oddInClass_45 hZ)
noncomputable def vX4_oddInClass_31 : rx_K := o_ld rx_isR 1 (o_getf 7 4 (o_c1 rx_eq vX4_oddInClass_63 vX4_oddInClass_38))
set_option maxRecDepth 20000 in
theorem wX4_oddInClass_31 (hZ : zO b e D A X) : rx_OK (zV b e D A X) mX4_oddInClass 0 31 vX4_oddInClass_31 := by
  unfold vX4_oddInClass_31
  refine s_aload_n hZ.1 dX4_oddInClass_31 rfl ?_
  refine yg7_4 dX4_oddInClass_32 zw980 ?_
  exact s_if_eq dX4_oddInClass_35 (by decide) (wX4_oddInClass_63 hZ) (wX4_oddInClass_38 hZ)
noncomputable def vX4_oddInClass_20 : rx_K := o_ld rx_isR 1 (o_getf 7 4 (o_ld rx_isR 1 (o_getf 7 6 (o_c2 rx_eq vX4_oddInClass_59 vX4_oddInClass_31))))
set_option maxRecDepth 20000 in
theorem wX4_oddInClass_20 (hZ : zO b e D A X) : rx_OK (zV b e D A X) mX4_oddInClass 0 20 vX4_oddInClass_20 := by
  unfold vX4_oddInClass_20
  refine s_aload_n hZ.1 dX4_oddInClass_20 rfl ?_
  refine yg7_4 dX4_oddInClass_21 zw980 ?_
  refine s_aload_n hZ.1 dX4_oddInClass_24 rfl ?_
  refine yg7_6 dX4_oddInClass_25 zw998 ?_
  exact s_icmp_eq dX4_oddInClass_28 (by decide) (wX4_oddInClass_59 hZ) (wX4_oddInClass_31 hZ)
noncomputable def vX4_oddInClass_12 : rx_K := o_ld rx_isR 1 (o_getf 7 0 (o_const 8 (o_c2 rx_eq vX4_oddInClass_20 vX4_oddInClass_63)))
set_option maxRecDepth 20000 in
theorem wX4_oddInClass_12 (hZ : zO b e D A X) : rx_OK (zV b e D A X) mX4_oddInClass 0 12 vX4_oddInClass_12 := by
  unfold vX4_oddInClass_12
  refine s_aload_n hZ.1 dX4_oddInClass_12 rfl ?_
  refine yg7_0 dX4_oddInClass_13 zw946 ?_
  refine s_iconst dX4_oddInClass_16 (by decide +kernel) ?_
  exact s_icmp_ne dX4_oddInClass_17 (by decide) (wX4_oddInClass_63 hZ) (wX4_oddInClass_20 hZ)
noncomputable def vX4_oddInClass_7 : rx_K := o_ld rx_isR 1 (o_getf 7 4 (o_ret1 rx_isZ))
set_option maxRecDepth 20000 in
theorem wX4_oddInClass_7 (hZ : zO b e D A X) : rx_OK (zV b e D A X) mX4_oddInClass 0 7 vX4_oddInClass_7 := by
  unfold vX4_oddInClass_7
  refine s_aload_n hZ.1 dX4_oddInClass_7 rfl ?_
  refine yg7_4 dX4_oddInClass_8 zw980 ?_
  exact s_zret rx_z_ok rfl dX4_oddInClass_11
noncomputable def vX4_oddInClass_0 : rx_K := o_ld rx_isR 1 (o_getf 7 0 (o_c1 rx_eq vX4_oddInClass_7 vX4_oddInClass_12))
set_option maxRecDepth 20000 in
theorem wX4_oddInClass_0 (hZ : zO b e D A X) : rx_OK (zV b e D A X) mX4_oddInClass 0 0 vX4_oddInClass_0 := by
  unfold vX4_oddInClass_0
  refine s_aload_n hZ.1 dX4_oddInClass_0 rfl ?_
  refine yg7_0 dX4_oddInClass_1 zw946 ?_
  exact s_if_ne dX4_oddInClass_4 (by decide) (wX4_oddInClass_12 hZ) (wX4_oddInClass_7 hZ)
noncomputable def FX4_oddInClass : List Nat → rx_H → Option (Nat × rx_H) := rx_ent 2 vX4_oddInClass_0
theorem Met_X4_oddInClass (hZ : zO b e D A X) : rx_Met (zV b e D A X) 0 yX4_oddInClass mX4_oddInClass (FX4_oddInClass) := rx_entry hZ.1 (wX4_oddInClass_0 hZ) (by decide +kernel) rfl (fun h => by cases h)
abbrev mX4_oddInFace : rx_M := (RX4, cX4_oddInFace, 1, (some .boolean), false)
theorem vy_X4_oddInFace : rx_Y (zV b e D A X) yX4_oddInFace mX4_oddInFace 1 := ⟨zw1927, zw420, by decide, by decide +kernel, by decide +kernel, by decide +kernel⟩
noncomputable def vX4_oddInFace_105 : rx_K := o_ret1 rx_isZ
set_option maxRecDepth 20000 in
theorem wX4_oddInFace_105 (hZ : zO b e D A X) : rx_OK (zV b e D A X) mX4_oddInFace 0 105 vX4_oddInFace_105 := by
  unfold vX4_oddInFace_105
  exact s_zret rx_z_ok rfl dX4_oddInFace_105
noncomputable def vX4_oddInFace_104 : rx_K := o_const 0 (vX4_oddInFace_105)
set_option maxRecDepth 20000 in
theorem wX4_oddInFace_104 (hZ : zO b e D A X) : rx_OK (zV b e D A X) mX4_oddInFace 0 104 vX4_oddInFace_104 := by
  unfold vX4_oddInFace_104
  refine s_iconst dX4_oddInFace_104 (by decide +kernel) ?_
  exact (wX4_oddInFace_105 hZ)
noncomputable def vX4_oddInFace_100 : rx_K := o_const 8 (vX4_oddInFace_105)
set_option maxRecDepth 20000 in
theorem wX4_oddInFace_100 (hZ : zO b e D A X) : rx_OK (zV b e D A X) mX4_oddInFace 0 100 vX4_oddInFace_100 := by
  unfold vX4_oddInFace_100
  refine s_iconst dX4_oddInFace_100 (by decide +kernel) ?_
  exact s_goto dX4_oddInFace_101 (by decide) (wX4_oddInFace_105 hZ)
noncomputable def vX4_oddInFace_93 : rx_K := o_ld rx_isR 0 (o_getf 7 1 (o_c1 rx_eq vX4_oddInFace_100 vX4_oddInFace_104))
set_option maxRecDepth 20000 in
theorem wX4_oddInFace_93 (hZ : zO b e D A X) : rx_OK (zV b e D A X) mX4_oddInFace 0 93 vX4_oddInFace_93 := by
  unfold vX4_oddInFace_93
  refine s_aload_n hZ.1 dX4_oddInFace_93 rfl ?_
  refine yg7_1 dX4_oddInFace_94 zw955 ?_
  exact s_if_ne dX4_oddInFace_97 (by decide) (wX4_oddInFace_104 hZ) (wX4_oddInFace_100 hZ)
noncomputable def vX4_oddInFace_86 : rx_K := o_ld rx_isR 0 (o_getf 7 2 (o_c1 rx_eq vX4_oddInFace_93 vX4_oddInFace_100))
set_option maxRecDepth 20000 in
theorem wX4_oddInFace_86 (hZ : zO b e D A X) : rx_OK (zV b e D A X) mX4_oddInFace 0 86 vX4_oddInFace_86 := by
  unfold vX4_oddInFace_86
  refine s_aload_n hZ.1 dX4_oddInFace_86 rfl ?_
  refine yg7_2 dX4_oddInFace_87 zw964 ?_
  exact s_if_ne dX4_oddInFace_90 (by decide) (wX4_oddInFace_100 hZ) (wX4_oddInFace_93 hZ)
noncomputable def vX4_oddInFace_79 : rx_K := o_ld rx_isR 0 (o_getf 7 6 (o_c1 rx_eq vX4_oddInFace_86 vX4_oddInFace_104))
set_option maxRecDepth 20000 in
theorem wX4_oddInFace_79 (hZ : zO b e D A X) : rx_OK (zV b e D A X) mX4_oddInFace 0 79 vX4_oddInFace_79 := by
  unfold vX4_oddInFace_79
  refine s_aload_n hZ.1 dX4_oddInFace_79 rfl ?_
  refine yg7_6 dX4_oddInFace_80 zw998 ?_
  exact s_if_ne dX4_oddInFace_83 (by decide) (wX4_oddInFace_104 hZ) (wX4_oddInFace_86 hZ)
noncomputable def vX4_oddInFace_72 : rx_K := o_ld rx_isR 0 (o_getf 7 6 (o_c1 rx_eq vX4_oddInFace_79 vX4_oddInFace_100))
set_option maxRecDepth 20000 in
theorem wX4_oddInFace_72 (hZ : zO b e D A X) : rx_OK (zV b e D A X) mX4_oddInFace 0 72 vX4_oddInFace_72 := by
  unfold vX4_oddInFace_72
  refine s_aload_n hZ.1 dX4_oddInFace_72 rfl ?_
  refine yg7_6 dX4_oddInFace_73 zw998 ?_
  exact s_if_ne dX4_oddInFace_76 (by decide) (wX4_oddInFace_100 hZ) (wX4_oddInFace_79 hZ)
noncomputable def vX4_oddInFace_65 : rx_K := o_ld rx_isR 0 (o_getf 7 4 (o_c1 rx_eq vX4_oddInFace_79 vX4_oddInFace_72))
set_option maxRecDepth 20000 in
theorem wX4_oddInFace_65 (hZ : zO b e D A X) : rx_OK (zV b e D A X) mX4_oddInFace 0 65 vX4_oddInFace_65 := by
  unfold vX4_oddInFace_65
  refine s_aload_n hZ.1 dX4_oddInFace_65 rfl ?_
  refine yg7_4 dX4_oddInFace_66 zw980 ?_
  exact s_if_eq dX4_oddInFace_69 (by decide) (wX4_oddInFace_79 hZ) (wX4_oddInFace_72 hZ)
noncomputable def vX4_oddInFace_58 : rx_K := o_ld rx_isR 0 (o_getf 7 3 (o_c1 rx_eq vX4_oddInFace_65 vX4_oddInFace_100))
set_option maxRecDepth 20000 in
theorem wX4_oddInFace_58 (hZ : zO b e D A X) : rx_OK (zV b e D A X) mX4_oddInFace 0 58 vX4_oddInFace_58 := by
  unfold vX4_oddInFace_58
  refine s_aload_n hZ.1 dX4_oddInFace_58 rfl ?_
  refine yg7_3 dX4_oddInFace_59 zw974 ?_
  exact s_if_ne dX4_oddInFace_62 (by decide) (wX4_oddInFace_100 hZ) (wX4_oddInFace_65 hZ)
noncomputable def vX4_oddInFace_50 : rx_K := o_ld rx_isR 0 (o_getf 7 1 (o_const 16 (o_c2 rx_eq vX4_oddInFace_100 vX4_oddInFace_58)))
set_option maxRecDepth 20000 in
theorem wX4_oddInFace_50 (hZ : zO b e D A X) : rx_OK (zV b e D A X) mX4_oddInFace 0 50 vX4_oddInFace_50 := by
  unfold vX4_oddInFace_50
  refine s_aload_n hZ.1 dX4_oddInFace_50 rfl ?_
  refine yg7_1 dX4_oddInFace_51 zw955 ?_
  refine s_iconst dX4_oddInFace_54 (by decide +kernel) ?_
  exact s_icmp_eq dX4_oddInFace_55 (by decide) (wX4_oddInFace_100 hZ) (wX4_oddInFace_58 hZ)
noncomputable def vX4_oddInFace_42 : rx_K := o_ld rx_isR 0 (o_getf 7 0 (o_const 8 (o_c2 rx_eq vX4_oddInFace_50 vX4_oddInFace_100)))
set_option maxRecDepth 20000 in
theorem wX4_oddInFace_42 (hZ : zO b e D A X) : rx_OK (zV b e D A X) mX4_oddInFace 0 42 vX4_oddInFace_42 := by
  unfold vX4_oddInFace_42
  refine s_aload_n hZ.1 dX4_oddInFace_42 rfl ?_
  refine yg7_0 dX4_oddInFace_43 zw946 ?_
  refine s_iconst dX4_oddInFace_46 (by decide +kernel) ?_
  exact s_icmp_ne dX4_oddInFace_47 (by decide) (wX4_oddInFace_100 hZ) (wX4_oddInFace_50 hZ)
noncomputable def vX4_oddInFace_41 : rx_K := o_ret1 rx_isZ
set_option maxRecDepth 20000 in
theorem wX4_oddInFace_41 (hZ : zO b e D A X) : rx_OK (zV b e D A X) mX4_oddInFace 0 41 vX4_oddInFace_41 := by
  unfold vX4_oddInFace_41
  exact s_zret rx_z_ok rfl dX4_oddInFace_41
noncomputable def vX4_oddInFace_40 : rx_K := o_const 0 (vX4_oddInFace_41)
set_option maxRecDepth 20000 in
theorem wX4_oddInFace_40 (hZ : zO b e D A X) : rx_OK (zV b e D A X) mX4_oddInFace 0 40 vX4_oddInFace_40 := by
  unfold vX4_oddInFace_40
  refine s_iconst dX4_oddInFace_40 (by decide +kernel) ?_
  exact (wX4_oddInFace_41 hZ)
noncomputable def vX4_oddInFace_36 : rx_K := o_const 8 (vX4_oddInFace_41)
set_option maxRecDepth 20000 in
theorem wX4_oddInFace_36 (hZ : zO b e D A X) : rx_OK (zV b e D A X) mX4_oddInFace 0 36 vX4_oddInFace_36 := by
  unfold vX4_oddInFace_36
  refine s_iconst dX4_oddInFace_36 (by decide +kernel) ?_
  exact s_goto dX4_oddInFace_37 (by decide) (wX4_oddInFace_41 hZ)
noncomputable def vX4_oddInFace_29 : rx_K := o_ld rx_isR 0 (o_getf 7 14 (o_nul vX4_oddInFace_36 vX4_oddInFace_40))
set_option maxRecDepth 20000 in
theorem wX4_oddInFace_29 (hZ : zO b e D A X) : rx_OK (zV b e D A X) mX4_oddInFace 0 29 vX4_oddInFace_29 := by
  unfold vX4_oddInFace_29
  refine s_aload_n hZ.1 dX4_oddInFace_29 rfl ?_
  refine yg7_14 dX4_oddInFace_30 zw1049 ?_
  exact s_ifnonnull dX4_oddInFace_33 (by decide) (wX4_oddInFace_40 hZ) (wX4_oddInFace_36 hZ)
noncomputable def vX4_oddInFace_21 : rx_K := o_ld rx_isR 0 (o_getf 7 1 (o_const 16 (o_c2 rx_eq vX4_oddInFace_36 vX4_oddInFace_29)))
set_option maxRecDepth 20000 in
theorem wX4_oddInFace_21 (hZ : zO b e D A X) : rx_OK (zV b e D A X) mX4_oddInFace 0 21 vX4_oddInFace_21 := by
  unfold vX4_oddInFace_21
  refine s_aload_n hZ.1 dX4_oddInFace_21 rfl ?_
  refine yg7_1 dX4_oddInFace_22 zw955 ?_
  refine s_iconst dX4_oddInFace_25 (by decide +kernel) ?_
  exact s_icmp_eq dX4_oddInFace_26 (by decide) (wX4_oddInFace_36 hZ) (wX4_oddInFace_29 hZ)
noncomputable def vX4_oddInFace_14 : rx_K := o_ld rx_isR 0 (o_getf 7 1 (o_c1 rx_eq vX4_oddInFace_36 vX4_oddInFace_21))
set_option maxRecDepth 20000 in
theorem wX4_oddInFace_14 (hZ : zO b e D A X) : rx_OK (zV b e D A X) mX4_oddInFace 0 14 vX4_oddInFace_14 := by
  unfold vX4_oddInFace_14
  refine s_aload_n hZ.1 dX4_oddInFace_14 rfl ?_
  refine yg7_1 dX4_oddInFace_15 zw955 ?_
  exact s_if_eq dX4_oddInFace_18 (by decide) (wX4_oddInFace_36 hZ) (wX4_oddInFace_21 hZ)
noncomputable def vX4_oddInFace_7 : rx_K := o_ld rx_isR 0 (o_getf 7 4 (o_c1 rx_eq vX4_oddInFace_14 vX4_oddInFace_36))
set_option maxRecDepth 20000 in
theorem wX4_oddInFace_7 (hZ : zO b e D A X) : rx_OK (zV b e D A X) mX4_oddInFace 0 7 vX4_oddInFace_7 := by
  unfold vX4_oddInFace_7
  refine s_aload_n hZ.1 dX4_oddInFace_7 rfl ?_
  refine yg7_4 dX4_oddInFace_8 zw980 ?_
  exact s_if_ne dX4_oddInFace_11 (by decide) (wX4_oddInFace_36 hZ) (wX4_oddInFace_14 hZ)
noncomputable def vX4_oddInFace_0 : rx_K := o_ld rx_isR 0 (o_getf 7 0 (o_c1 rx_eq vX4_oddInFace_7 vX4_oddInFace_42))
set_option maxRecDepth 20000 in
theorem wX4_oddInFace_0 (hZ : zO b e D A X) : rx_OK (zV b e D A X) mX4_oddInFace 0 0 vX4_oddInFace_0 := by
  unfold vX4_oddInFace_0
  refine s_aload_n hZ.1 dX4_oddInFace_0 rfl ?_
  refine yg7_0 dX4_oddInFace_1 zw946 ?_
  exact s_if_ne dX4_oddInFace_4 (by decide) (wX4_oddInFace_42 hZ) (wX4_oddInFace_7 hZ)
noncomputable def FX4_oddInFace : List Nat → rx_H → Option (Nat × rx_H) := rx_ent 1 vX4_oddInFace_0
theorem Met_X4_oddInFace (hZ : zO b e D A X) : rx_Met (zV b e D A X) 0 yX4_oddInFace mX4_oddInFace (FX4_oddInFace) := rx_entry hZ.1 (wX4_oddInFace_0 hZ) (by decide +kernel) rfl (fun h => by cases h)
abbrev mX4_settleInFace : rx_M := (RX4, cX4_settleInFace, 1, none, false)
theorem vy_X4_settleInFace : rx_Y (zV b e D A X) yX4_settleInFace mX4_settleInFace 1 := ⟨zw1933, zw420, by decide, by decide +kernel, by decide +kernel, by decide +kernel⟩
noncomputable def vX4_settleInFace_61 : rx_K := o_ret0
set_option maxRecDepth 20000 in
theorem wX4_settleInFace_61 (hZ : zO b e D A X) : rx_OK (zV b e D A X) mX4_settleInFace 0 61 vX4_settleInFace_61 := by
  unfold vX4_settleInFace_61
  exact s_vret rfl dX4_settleInFace_61
noncomputable def vX4_settleInFace_58 : rx_K := o_putf rx_isZ 7 4 (vX4_settleInFace_61)
set_option maxRecDepth 20000 in
theorem wX4_settleInFace_58 (hZ : zO b e D A X) : rx_OK (zV b e D A X) mX4_settleInFace 0 58 vX4_settleInFace_58 := by
  unfold vX4_settleInFace_58
  refine yp7_4 hZ.1 dX4_settleInFace_58 zw980 ?_
  exact (wX4_settleInFace_61 hZ)
noncomputable def vX4_settleInFace_57 : rx_K := o_const 0 (vX4_settleInFace_58)
set_option maxRecDepth 20000 in
theorem wX4_settleInFace_57 (hZ : zO b e D A X) : rx_OK (zV b e D A X) mX4_settleInFace 0 57 vX4_settleInFace_57 := by
  unfold vX4_settleInFace_57
  refine s_iconst dX4_settleInFace_57 (by decide +kernel) ?_
  exact (wX4_settleInFace_58 hZ)
noncomputable def vX4_settleInFace_53 : rx_K := o_const 8 (vX4_settleInFace_58)
set_option maxRecDepth 20000 in
theorem wX4_settleInFace_53 (hZ : zO b e D A X) : rx_OK (zV b e D A X) mX4_settleInFace 0 53 vX4_settleInFace_53 := by
  unfold vX4_settleInFace_53
  refine s_iconst dX4_settleInFace_53 (by decide +kernel) ?_
  exact s_goto dX4_settleInFace_54 (by decide) (wX4_settleInFace_58 hZ)
noncomputable def vX4_settleInFace_42 : rx_K := o_putf rx_isI 7 1 (o_ld rx_isR 0 (o_ld rx_isR 0 (o_getf 7 6 (o_c1 rx_eq vX4_settleInFace_53 vX4_settleInFace_57))))
set_option maxRecDepth 20000 in
theorem wX4_settleInFace_42 (hZ : zO b e D A X) : rx_OK (zV b e D A X) mX4_settleInFace 0 42 vX4_settleInFace_42 := by
  unfold vX4_settleInFace_42
  refine yp7_1 hZ.1 dX4_settleInFace_42 zw955 ?_
  refine s_aload_n hZ.1 dX4_settleInFace_45 rfl ?_
  refine s_aload_n hZ.1 dX4_settleInFace_46 rfl ?_
  refine yg7_6 dX4_settleInFace_47 zw998 ?_
  exact s_if_ne dX4_settleInFace_50 (by decide) (wX4_settleInFace_57 hZ) (wX4_settleInFace_53 hZ)
noncomputable def vX4_settleInFace_38 : rx_K := o_ld rx_isR 0 (o_getf 7 1 (vX4_settleInFace_42))
set_option maxRecDepth 20000 in
theorem wX4_settleInFace_38 (hZ : zO b e D A X) : rx_OK (zV b e D A X) mX4_settleInFace 0 38 vX4_settleInFace_38 := by
  unfold vX4_settleInFace_38
  refine s_aload_n hZ.1 dX4_settleInFace_38 rfl ?_
  refine yg7_1 dX4_settleInFace_39 zw955 ?_
  exact (wX4_settleInFace_42 hZ)
noncomputable def vX4_settleInFace_34 : rx_K := o_const 24 (vX4_settleInFace_42)
set_option maxRecDepth 20000 in
theorem wX4_settleInFace_34 (hZ : zO b e D A X) : rx_OK (zV b e D A X) mX4_settleInFace 0 34 vX4_settleInFace_34 := by
  unfold vX4_settleInFace_34
  refine s_iconst dX4_settleInFace_34 (by decide +kernel) ?_
  exact s_goto dX4_settleInFace_35 (by decide) (wX4_settleInFace_42 hZ)
noncomputable def vX4_settleInFace_25 : rx_K := o_ld rx_isR 0 (o_ld rx_isR 0 (o_getf 7 1 (o_const 8 (o_c2 rx_eq vX4_settleInFace_34 vX4_settleInFace_38))))
set_option maxRecDepth 20000 in
theorem wX4_settleInFace_25 (hZ : zO b e D A X) : rx_OK (zV b e D A X) mX4_settleInFace 0 25 vX4_settleInFace_25 := by
  unfold vX4_settleInFace_25
  refine s_aload_n hZ.1 dX4_settleInFace_25 rfl ?_
  refine s_aload_n hZ.1 dX4_settleInFace_26 rfl ?_
  refine yg7_1 dX4_settleInFace_27 zw955 ?_
  refine s_iconst dX4_settleInFace_30 (by decide +kernel) ?_
  exact s_icmp_ne dX4_settleInFace_31 (by decide) (wX4_settleInFace_38 hZ) (wX4_settleInFace_34 hZ)
noncomputable def vX4_settleInFace_7 : rx_K := o_ld rx_isR 0 (o_const 24 (o_putf rx_isI 7 1 (o_ld rx_isR 0 (o_const 8 (o_putf rx_isZ 7 2 (o_ld rx_isR 0 (o_const 8 (o_putf rx_isZ 7 3 (vX4_settleInFace_61)))))))))
set_option maxRecDepth 20000 in
theorem wX4_settleInFace_7 (hZ : zO b e D A X) : rx_OK (zV b e D A X) mX4_settleInFace 0 7 vX4_settleInFace_7 := by
  unfold vX4_settleInFace_7
  refine s_aload_n hZ.1 dX4_settleInFace_7 rfl ?_
  refine s_iconst dX4_settleInFace_8 (by decide +kernel) ?_
  refine yp7_1 hZ.1 dX4_settleInFace_9 zw955 ?_
  refine s_aload_n hZ.1 dX4_settleInFace_12 rfl ?_
  refine s_iconst dX4_settleInFace_13 (by decide +kernel) ?_
  refine yp7_2 hZ.1 dX4_settleInFace_14 zw964 ?_
  refine s_aload_n hZ.1 dX4_settleInFace_17 rfl ?_
  refine s_iconst dX4_settleInFace_18 (by decide +kernel) ?_
  refine yp7_3 hZ.1 dX4_settleInFace_19 zw974 ?_
  exact s_goto dX4_settleInFace_22 (by decide) (wX4_settleInFace_61 hZ)
noncomputable def vX4_settleInFace_0 : rx_K := o_ld rx_isR 0 (o_getf 7 0 (o_c1 rx_eq vX4_settleInFace_7 vX4_settleInFace_25))
set_option maxRecDepth 20000 in
theorem wX4_settleInFace_0 (hZ : zO b e D A X) : rx_OK (zV b e D A X) mX4_settleInFace 0 0 vX4_settleInFace_0 := by
  unfold vX4_settleInFace_0
  refine s_aload_n hZ.1 dX4_settleInFace_0 rfl ?_
  refine yg7_0 dX4_settleInFace_1 zw946 ?_
  exact s_if_ne dX4_settleInFace_4 (by decide) (wX4_settleInFace_25 hZ) (wX4_settleInFace_7 hZ)
noncomputable def FX4_settleInFace : List Nat → rx_H → Option (Nat × rx_H) := rx_ent 1 vX4_settleInFace_0
theorem Met_X4_settleInFace (hZ : zO b e D A X) : rx_Met (zV b e D A X) 0 yX4_settleInFace mX4_settleInFace (FX4_settleInFace) := rx_entry hZ.1 (wX4_settleInFace_0 hZ) (by decide +kernel) rfl (fun h => by cases h)
abbrev mX4_twice : rx_M := (RX4, cX4_twice, 5, none, false)
theorem vy_X4_twice : rx_Y (zV b e D A X) yX4_twice mX4_twice 2 := ⟨zw1951, zw420, by decide, by decide +kernel, by decide +kernel, by decide +kernel⟩
noncomputable def vX4_twice_86 (j : Nat → rx_K) : rx_K := o_ret0
set_option maxRecDepth 20000 in
theorem wX4_twice_86 (hZ : zO b e D A X) (j : Nat → rx_K) (hj : ∀ k pc, [2][k]? = some pc → rx_OK (zV b e D A X) mX4_twice 1 pc (j k)) : rx_OK (zV b e D A X) mX4_twice 1 86 (vX4_twice_86 j) := by
  unfold vX4_twice_86
  exact s_vret rfl dX4_twice_86
noncomputable def vX4_twice_80 (j : Nat → rx_K) : rx_K := o_inc 3 (1) ((j 0))
set_option maxRecDepth 20000 in
theorem wX4_twice_80 (hZ : zO b e D A X) (j : Nat → rx_K) (hj : ∀ k pc, [2][k]? = some pc → rx_OK (zV b e D A X) mX4_twice 1 pc (j k)) : rx_OK (zV b e D A X) mX4_twice 1 80 (vX4_twice_80 j) := by
  unfold vX4_twice_80
  refine s_iinc hZ.1 dX4_twice_80 (Nat.le_of_ble_eq_true rfl) ?_
  exact s_goto dX4_twice_83 (by decide) (hj 0 2 rfl)
noncomputable def vX4_twice_69 (j : Nat → rx_K) : rx_K := o_ld rx_isR 0 (o_const 48 (o_ld rx_isR 2 (o_getf 7 11 (o_callV 2 4 FX4_fail (o_pop ((vX4_twice_80 j)))))))
set_option maxRecDepth 20000 in
theorem wX4_twice_69 (hZ : zO b e D A X) (j : Nat → rx_K) (hj : ∀ k pc, [2][k]? = some pc → rx_OK (zV b e D A X) mX4_twice 1 pc (j k)) : rx_OK (zV b e D A X) mX4_twice 1 69 (vX4_twice_69 j) := by
  unfold vX4_twice_69
  refine s_aload_n hZ.1 dX4_twice_69 rfl ?_
  refine s_bipush dX4_twice_70 (by decide +kernel) ?_
  refine s_aload_n hZ.1 dX4_twice_72 rfl ?_
  refine yg7_11 dX4_twice_73 zw1037 ?_
  refine s_callV hZ.1 (Met_X4_fail hZ) (Nat.le_of_ble_eq_true rfl) vy_X4_fail zcl4 zw1898 zw43 (Or.inl zw1896) dX4_twice_76 ?_
  refine s_pop hZ.1 dX4_twice_79 ?_
  exact (wX4_twice_80 hZ j hj)
noncomputable def vX4_twice_60 (j : Nat → rx_K) : rx_K := o_ld rx_isR 4 (o_ld rx_isR 2 (o_callV 1 7 FX7_sameParams (o_c1 rx_eq (vX4_twice_80 j) (vX4_twice_69 j))))
set_option maxRecDepth 20000 in
theorem wX4_twice_60 (hZ : zO b e D A X) (j : Nat → rx_K) (hj : ∀ k pc, [2][k]? = some pc → rx_OK (zV b e D A X) mX4_twice 1 pc (j k)) : rx_OK (zV b e D A X) mX4_twice 1 60 (vX4_twice_60 j) := by
  unfold vX4_twice_60
  refine s_aload hZ.1 dX4_twice_60 ?_
  refine s_aload_n hZ.1 dX4_twice_62 rfl ?_
  refine s_callV hZ.1 (Met_X7_sameParams hZ) (Nat.le_of_ble_eq_true rfl) vy_X7_sameParams zcl7 zw1953 zw1954 (Or.inl zw1952) dX4_twice_63 ?_
  exact s_if_eq dX4_twice_66 (by decide) (wX4_twice_80 hZ j hj) (wX4_twice_69 hZ j hj)
noncomputable def vX4_twice_53 (j : Nat → rx_K) : rx_K := o_ld rx_isR 2 (o_getf 7 0 (o_c1 rx_eq (vX4_twice_69 j) (vX4_twice_60 j)))
set_option maxRecDepth 20000 in
theorem wX4_twice_53 (hZ : zO b e D A X) (j : Nat → rx_K) (hj : ∀ k pc, [2][k]? = some pc → rx_OK (zV b e D A X) mX4_twice 1 pc (j k)) : rx_OK (zV b e D A X) mX4_twice 1 53 (vX4_twice_53 j) := by
  unfold vX4_twice_53
  refine s_aload_n hZ.1 dX4_twice_53 rfl ?_
  refine yg7_0 dX4_twice_54 zw946 ?_
  exact s_if_eq dX4_twice_57 (by decide) (wX4_twice_69 hZ j hj) (wX4_twice_60 hZ j hj)
noncomputable def vX4_twice_40 (j : Nat → rx_K) : rx_K := o_ld rx_isR 4 (o_getf 7 7 (o_ld rx_isR 2 (o_getf 7 7 (o_bc (fun x y => lg_cmp x y) (o_c1 rx_eq (vX4_twice_53 j) (vX4_twice_80 j))))))
set_option maxRecDepth 20000 in
theorem wX4_twice_40 (hZ : zO b e D A X) (j : Nat → rx_K) (hj : ∀ k pc, [2][k]? = some pc → rx_OK (zV b e D A X) mX4_twice 1 pc (j k)) : rx_OK (zV b e D A X) mX4_twice 1 40 (vX4_twice_40 j) := by
  unfold vX4_twice_40
  refine s_aload hZ.1 dX4_twice_40 ?_
  refine yg7_7 dX4_twice_42 zw1006 ?_
  refine s_aload_n hZ.1 dX4_twice_45 rfl ?_
  refine yg7_7 dX4_twice_46 zw1006 ?_
  refine s_lcmp dX4_twice_49 ?_
  exact s_if_ne dX4_twice_50 (by decide) (wX4_twice_80 hZ j hj) (wX4_twice_53 hZ j hj)
noncomputable def vX4_twice_20 (j : Nat → rx_K) : rx_K := o_ld rx_isR 1 (o_getf 10 14 (o_ld rx_isI 3 (o_ald 5 (o_st rx_isR 4 (o_ld rx_isR 4 (o_getf 7 0 (o_ld rx_isR 2 (o_getf 7 0 (o_c2 rx_eq (vX4_twice_40 j) (vX4_twice_80 j))))))))))
set_option maxRecDepth 20000 in
theorem wX4_twice_20 (hZ : zO b e D A X) (j : Nat → rx_K) (hj : ∀ k pc, [2][k]? = some pc → rx_OK (zV b e D A X) mX4_twice 1 pc (j k)) : rx_OK (zV b e D A X) mX4_twice 1 20 (vX4_twice_20 j) := by
  unfold vX4_twice_20
  refine s_aload_n hZ.1 dX4_twice_20 rfl ?_
  refine yg10_14 dX4_twice_21 zw864 ?_
  refine s_iload_n hZ.1 dX4_twice_24 rfl ?_
  refine s_aald (tt := 5) rfl rfl dX4_twice_25 ?_
  refine s_astore hZ.1 dX4_twice_26 (Nat.le_of_ble_eq_true rfl) ?_
  refine s_aload hZ.1 dX4_twice_28 ?_
  refine yg7_0 dX4_twice_30 zw946 ?_
  refine s_aload_n hZ.1 dX4_twice_33 rfl ?_
  refine yg7_0 dX4_twice_34 zw946 ?_
  exact s_icmp_ne dX4_twice_37 (by decide) (wX4_twice_80 hZ j hj) (wX4_twice_40 hZ j hj)
noncomputable def vX4_twice_10 (j : Nat → rx_K) : rx_K := o_ld rx_isR 1 (o_getf 10 14 (o_ld rx_isI 3 (o_ald 5 (o_ld rx_isR 2 (o_acmp (vX4_twice_86 j) (vX4_twice_20 j))))))
set_option maxRecDepth 20000 in
theorem wX4_twice_10 (hZ : zO b e D A X) (j : Nat → rx_K) (hj : ∀ k pc, [2][k]? = some pc → rx_OK (zV b e D A X) mX4_twice 1 pc (j k)) : rx_OK (zV b e D A X) mX4_twice 1 10 (vX4_twice_10 j) := by
  unfold vX4_twice_10
  refine s_aload_n hZ.1 dX4_twice_10 rfl ?_
  refine yg10_14 dX4_twice_11 zw864 ?_
  refine s_iload_n hZ.1 dX4_twice_14 rfl ?_
  refine s_aald (tt := 5) rfl rfl dX4_twice_15 ?_
  refine s_aload_n hZ.1 dX4_twice_16 rfl ?_
  exact s_acmp_eq hZ.1 dX4_twice_17 (by decide) (wX4_twice_86 hZ j hj) (wX4_twice_20 hZ j hj)
noncomputable def vX4_twice_2 (j : Nat → rx_K) : rx_K := o_ld rx_isI 3 (o_ld rx_isR 1 (o_getf 10 15 (o_c2 rx_lt (vX4_twice_10 j) (vX4_twice_86 j))))
set_option maxRecDepth 20000 in
theorem wX4_twice_2 (hZ : zO b e D A X) (j : Nat → rx_K) (hj : ∀ k pc, [2][k]? = some pc → rx_OK (zV b e D A X) mX4_twice 1 pc (j k)) : rx_OK (zV b e D A X) mX4_twice 1 2 (vX4_twice_2 j) := by
  unfold vX4_twice_2
  refine s_iload_n hZ.1 dX4_twice_2 rfl ?_
  refine s_aload_n hZ.1 dX4_twice_3 rfl ?_
  refine yg10_15 dX4_twice_4 zw872 ?_
  exact s_icmp_ge dX4_twice_7 (by decide) (wX4_twice_86 hZ j hj) (wX4_twice_10 hZ j hj)
noncomputable def vX4_twice_0 (j : Nat → rx_K) : rx_K := o_const 0 (o_st rx_isI 3 ((vX4_twice_2 j)))
set_option maxRecDepth 20000 in
theorem wX4_twice_0 (hZ : zO b e D A X) (j : Nat → rx_K) (hj : ∀ k pc, [2][k]? = some pc → rx_OK (zV b e D A X) mX4_twice 1 pc (j k)) : rx_OK (zV b e D A X) mX4_twice 1 0 (vX4_twice_0 j) := by
  unfold vX4_twice_0
  refine s_iconst dX4_twice_0 (by decide +kernel) ?_
  refine s_istore_n hZ.1 dX4_twice_1 rfl (Nat.le_of_ble_eq_true rfl) ?_
  exact (wX4_twice_2 hZ j hj)
noncomputable def vhX4_twice (j : Nat → rx_K) : List rx_K := [vX4_twice_2 j]
theorem vlX4_twice (hZ : zO b e D A X) : ∀ n k pc, [2][k]? = some pc → rx_OK (zV b e D A X) mX4_twice 1 pc (rx_J (vhX4_twice) n k) := rx_loop fun j hj k pc h => by
  match k, h with
  | 0, h =>
    have e9 := Option.some.inj (show some 2 = some pc from h)
    subst e9
    exact wX4_twice_2 hZ j hj
  | _ + 1, h => exact absurd h (by simp)
noncomputable def FX4_twice : List Nat → rx_H → Option (Nat × rx_H) := rx_ent 5 (vX4_twice_0 (rx_J (vhX4_twice) 4000000000))
theorem Met_X4_twice (hZ : zO b e D A X) : rx_Met (zV b e D A X) 1 yX4_twice mX4_twice (FX4_twice) := rx_entry hZ.1 (wX4_twice_0 hZ _ (vlX4_twice hZ 4000000000)) (by decide +kernel) rfl (fun h => by cases h)
abbrev mX4_isType : rx_M := (RX4, cX4_isType, 5, (some .boolean), false)
theorem vy_X4_isType : rx_Y (zV b e D A X) yX4_isType mX4_isType 2 := ⟨zw1941, zw420, by decide, by decide +kernel, by decide +kernel, by decide +kernel⟩
noncomputable def vX4_isType_51 : rx_K := o_ret1 rx_isZ
set_option maxRecDepth 20000 in
theorem wX4_isType_51 (hZ : zO b e D A X) : rx_OK (zV b e D A X) mX4_isType 1 51 vX4_isType_51 := by
  unfold vX4_isType_51
  exact s_zret rx_z_ok rfl dX4_isType_51
noncomputable def vX4_isType_50 : rx_K := o_const 0 (vX4_isType_51)
set_option maxRecDepth 20000 in
theorem wX4_isType_50 (hZ : zO b e D A X) : rx_OK (zV b e D A X) mX4_isType 1 50 vX4_isType_50 := by
  unfold vX4_isType_50
  refine s_iconst dX4_isType_50 (by decide +kernel) ?_
  exact (wX4_isType_51 hZ)
noncomputable def vX4_isType_46 : rx_K := o_const 8 (vX4_isType_51)
set_option maxRecDepth 20000 in
theorem wX4_isType_46 (hZ : zO b e D A X) : rx_OK (zV b e D A X) mX4_isType 1 46 vX4_isType_46 := by
  unfold vX4_isType_46
  refine s_iconst dX4_isType_46 (by decide +kernel) ?_
  exact s_goto dX4_isType_47 (by decide) (wX4_isType_51 hZ)
noncomputable def vX4_isType_33 : rx_K := o_ld rx_isR 0 (o_getf 4 0 (o_ld rx_isI 4 (o_ld rx_isI 3 (o_callV 2 11 FX11_isLet (o_c1 rx_eq vX4_isType_50 vX4_isType_46)))))
set_option maxRecDepth 20000 in
theorem wX4_isType_33 (hZ : zO b e D A X) : rx_OK (zV b e D A X) mX4_isType 1 33 vX4_isType_33 := by
  unfold vX4_isType_33
  refine s_aload_n hZ.1 dX4_isType_33 rfl ?_
  refine yg4_0 dX4_isType_34 zw638 ?_
  refine s_iload hZ.1 dX4_isType_37 ?_
  refine s_iload_n hZ.1 dX4_isType_39 rfl ?_
  refine s_callV hZ.1 (Met_X11_isLet hZ) (Nat.le_of_ble_eq_true rfl) vy_X11_isLet zcl11 zw1945 zw1946 (Or.inl zw1944) dX4_isType_40 ?_
  exact s_if_eq dX4_isType_43 (by decide) (wX4_isType_50 hZ) (wX4_isType_46 hZ)
noncomputable def vX4_isType_18 : rx_K := o_ld rx_isR 0 (o_getf 4 0 (o_ld rx_isL 1 (o_callV 1 11 FX11_find (o_st rx_isI 4 (o_ld rx_isI 4 (o_c1 rx_lt vX4_isType_50 vX4_isType_33))))))
set_option maxRecDepth 20000 in
theorem wX4_isType_18 (hZ : zO b e D A X) : rx_OK (zV b e D A X) mX4_isType 1 18 vX4_isType_18 := by
  unfold vX4_isType_18
  refine s_aload_n hZ.1 dX4_isType_18 rfl ?_
  refine yg4_0 dX4_isType_19 zw638 ?_
  refine s_lload_n hZ.1 dX4_isType_22 rfl ?_
  refine s_callV hZ.1 (Met_X11_find hZ) (Nat.le_of_ble_eq_true rfl) vy_X11_find zcl11 zw1574 zw1575 (Or.inl zw1901) dX4_isType_23 ?_
  refine s_istore hZ.1 dX4_isType_26 (Nat.le_of_ble_eq_true rfl) ?_
  refine s_iload hZ.1 dX4_isType_28 ?_
  exact s_if_lt dX4_isType_30 (by decide) (wX4_isType_50 hZ) (wX4_isType_33 hZ)
noncomputable def vX4_isType_16 : rx_K := o_const 8 (o_ret1 rx_isZ)
set_option maxRecDepth 20000 in
theorem wX4_isType_16 (hZ : zO b e D A X) : rx_OK (zV b e D A X) mX4_isType 1 16 vX4_isType_16 := by
  unfold vX4_isType_16
  refine s_iconst dX4_isType_16 (by decide +kernel) ?_
  exact s_zret rx_z_ok rfl dX4_isType_17
noncomputable def vX4_isType_8 : rx_K := o_ld rx_isL 1 (o_const 147573952589676412905 (o_bc (fun x y => lg_cmp x y) (o_c1 rx_eq vX4_isType_16 vX4_isType_18)))
set_option maxRecDepth 20000 in
theorem wX4_isType_8 (hZ : zO b e D A X) : rx_OK (zV b e D A X) mX4_isType 1 8 vX4_isType_8 := by
  unfold vX4_isType_8
  refine s_lload_n hZ.1 dX4_isType_8 rfl ?_
  refine s_ldc2 dX4_isType_9 zw1943 (by decide +kernel) ?_
  refine s_lcmp dX4_isType_12 ?_
  exact s_if_ne dX4_isType_13 (by decide) (wX4_isType_18 hZ) (wX4_isType_16 hZ)
noncomputable def vX4_isType_0 : rx_K := o_ld rx_isL 1 (o_const 147573952589676412921 (o_bc (fun x y => lg_cmp x y) (o_c1 rx_eq vX4_isType_16 vX4_isType_8)))
set_option maxRecDepth 20000 in
theorem wX4_isType_0 (hZ : zO b e D A X) : rx_OK (zV b e D A X) mX4_isType 1 0 vX4_isType_0 := by
  unfold vX4_isType_0
  refine s_lload_n hZ.1 dX4_isType_0 rfl ?_
  refine s_ldc2 dX4_isType_1 zw1942 (by decide +kernel) ?_
  refine s_lcmp dX4_isType_4 ?_
  exact s_if_eq dX4_isType_5 (by decide) (wX4_isType_16 hZ) (wX4_isType_8 hZ)
noncomputable def FX4_isType : List Nat → rx_H → Option (Nat × rx_H) := rx_ent 5 vX4_isType_0
theorem Met_X4_isType (hZ : zO b e D A X) : rx_Met (zV b e D A X) 1 yX4_isType mX4_isType (FX4_isType) := rx_entry hZ.1 (wX4_isType_0 hZ) (by decide +kernel) rfl (fun h => by cases h)
abbrev mX4_types : rx_M := (RX4, cX4_types, 4, none, false)
theorem vy_X4_types : rx_Y (zV b e D A X) yX4_types mX4_types 2 := ⟨zw1937, zw420, by decide, by decide +kernel, by decide +kernel, by decide +kernel⟩
noncomputable def vX4_types_80 (j : Nat → rx_K) : rx_K := o_ret0
set_option maxRecDepth 20000 in
theorem wX4_types_80 (hZ : zO b e D A X) (j : Nat → rx_K) (hj : ∀ k pc, [35][k]? = some pc → rx_OK (zV b e D A X) mX4_types 2 pc (j k)) : rx_OK (zV b e D A X) mX4_types 2 80 (vX4_types_80 j) := by
  unfold vX4_types_80
  exact s_vret rfl dX4_types_80
noncomputable def vX4_types_74 (j : Nat → rx_K) : rx_K := o_inc 3 (1) ((j 0))
set_option maxRecDepth 20000 in
theorem wX4_types_74 (hZ : zO b e D A X) (j : Nat → rx_K) (hj : ∀ k pc, [35][k]? = some pc → rx_OK (zV b e D A X) mX4_types 2 pc (j k)) : rx_OK (zV b e D A X) mX4_types 2 74 (vX4_types_74 j) := by
  unfold vX4_types_74
  refine s_iinc hZ.1 dX4_types_74 (Nat.le_of_ble_eq_true rfl) ?_
  exact s_goto dX4_types_77 (by decide) (hj 0 35 rfl)
noncomputable def vX4_types_57 (j : Nat → rx_K) : rx_K := o_ld rx_isR 0 (o_const 56 (o_ld rx_isR 1 (o_getf 7 11 (o_const 16 (o_bi (fun x y => x + y) (o_const 24 (o_ld rx_isI 3 (o_bi (fun x y => x * y) (o_bi (fun x y => x + y) (o_callV 2 4 FX4_fail (o_pop ((vX4_types_74 j)))))))))))))
set_option maxRecDepth 20000 in
theorem wX4_types_57 (hZ : zO b e D A X) (j : Nat → rx_K) (hj : ∀ k pc, [35][k]? = some pc → rx_OK (zV b e D A X) mX4_types 2 pc (j k)) : rx_OK (zV b e D A X) mX4_types 2 57 (vX4_types_57 j) := by
  unfold vX4_types_57
  refine s_aload_n hZ.1 dX4_types_57 rfl ?_
  refine s_bipush dX4_types_58 (by decide +kernel) ?_
  refine s_aload_n hZ.1 dX4_types_60 rfl ?_
  refine yg7_11 dX4_types_61 zw1037 ?_
  refine s_iconst dX4_types_64 (by decide +kernel) ?_
  refine s_iadd dX4_types_65 ?_
  refine s_iconst dX4_types_66 (by decide +kernel) ?_
  refine s_iload_n hZ.1 dX4_types_67 rfl ?_
  refine s_imul dX4_types_68 ?_
  refine s_iadd dX4_types_69 ?_
  refine s_callV hZ.1 (Met_X4_fail hZ) (Nat.le_of_ble_eq_true rfl) vy_X4_fail zcl4 zw1898 zw43 (Or.inl zw1896) dX4_types_70 ?_
  refine s_pop hZ.1 dX4_types_73 ?_
  exact (wX4_types_74 hZ j hj)
noncomputable def vX4_types_43 (j : Nat → rx_K) : rx_K := o_ld rx_isR 0 (o_ld rx_isR 1 (o_getf 7 10 (o_ld rx_isI 3 (o_ald 1 (o_ld rx_isI 2 (o_callV 2 4 FX4_isType (o_c1 rx_eq (vX4_types_57 j) (vX4_types_74 j))))))))
set_option maxRecDepth 20000 in
theorem wX4_types_43 (hZ : zO b e D A X) (j : Nat → rx_K) (hj : ∀ k pc, [35][k]? = some pc → rx_OK (zV b e D A X) mX4_types 2 pc (j k)) : rx_OK (zV b e D A X) mX4_types 2 43 (vX4_types_43 j) := by
  unfold vX4_types_43
  refine s_aload_n hZ.1 dX4_types_43 rfl ?_
  refine s_aload_n hZ.1 dX4_types_44 rfl ?_
  refine yg7_10 dX4_types_45 zw1032 ?_
  refine s_iload_n hZ.1 dX4_types_48 rfl ?_
  refine s_lald (tt := 1) rfl dX4_types_49 ?_
  refine s_iload_n hZ.1 dX4_types_50 rfl ?_
  refine s_callV hZ.1 (Met_X4_isType hZ) (Nat.le_of_ble_eq_true rfl) vy_X4_isType zcl4 zw1940 zw48 (Or.inl zw1938) dX4_types_51 ?_
  exact s_if_ne dX4_types_54 (by decide) (wX4_types_74 hZ j hj) (wX4_types_57 hZ j hj)
noncomputable def vX4_types_35 (j : Nat → rx_K) : rx_K := o_ld rx_isI 3 (o_ld rx_isR 1 (o_getf 7 9 (o_c2 rx_lt (vX4_types_43 j) (vX4_types_80 j))))
set_option maxRecDepth 20000 in
theorem wX4_types_35 (hZ : zO b e D A X) (j : Nat → rx_K) (hj : ∀ k pc, [35][k]? = some pc → rx_OK (zV b e D A X) mX4_types 2 pc (j k)) : rx_OK (zV b e D A X) mX4_types 2 35 (vX4_types_35 j) := by
  unfold vX4_types_35
  refine s_iload_n hZ.1 dX4_types_35 rfl ?_
  refine s_aload_n hZ.1 dX4_types_36 rfl ?_
  refine yg7_9 dX4_types_37 zw1025 ?_
  exact s_icmp_ge dX4_types_40 (by decide) (wX4_types_80 hZ j hj) (wX4_types_43 hZ j hj)
noncomputable def vX4_types_33 (j : Nat → rx_K) : rx_K := o_const 0 (o_st rx_isI 3 ((vX4_types_35 j)))
set_option maxRecDepth 20000 in
theorem wX4_types_33 (hZ : zO b e D A X) (j : Nat → rx_K) (hj : ∀ k pc, [35][k]? = some pc → rx_OK (zV b e D A X) mX4_types 2 pc (j k)) : rx_OK (zV b e D A X) mX4_types 2 33 (vX4_types_33 j) := by
  unfold vX4_types_33
  refine s_iconst dX4_types_33 (by decide +kernel) ?_
  refine s_istore_n hZ.1 dX4_types_34 rfl (Nat.le_of_ble_eq_true rfl) ?_
  exact (wX4_types_35 hZ j hj)
noncomputable def vX4_types_20 (j : Nat → rx_K) : rx_K := o_ld rx_isR 0 (o_const 56 (o_ld rx_isR 1 (o_getf 7 11 (o_const 8 (o_bi (fun x y => x - y) (o_callV 2 4 FX4_fail (o_pop ((vX4_types_33 j)))))))))
set_option maxRecDepth 20000 in
theorem wX4_types_20 (hZ : zO b e D A X) (j : Nat → rx_K) (hj : ∀ k pc, [35][k]? = some pc → rx_OK (zV b e D A X) mX4_types 2 pc (j k)) : rx_OK (zV b e D A X) mX4_types 2 20 (vX4_types_20 j) := by
  unfold vX4_types_20
  refine s_aload_n hZ.1 dX4_types_20 rfl ?_
  refine s_bipush dX4_types_21 (by decide +kernel) ?_
  refine s_aload_n hZ.1 dX4_types_23 rfl ?_
  refine yg7_11 dX4_types_24 zw1037 ?_
  refine s_iconst dX4_types_27 (by decide +kernel) ?_
  refine s_isub dX4_types_28 ?_
  refine s_callV hZ.1 (Met_X4_fail hZ) (Nat.le_of_ble_eq_true rfl) vy_X4_fail zcl4 zw1898 zw43 (Or.inl zw1896) dX4_types_29 ?_
  refine s_pop hZ.1 dX4_types_32 ?_
  exact (wX4_types_33 hZ j hj)
noncomputable def vX4_types_8 (j : Nat → rx_K) : rx_K := o_ld rx_isR 0 (o_ld rx_isR 1 (o_getf 7 8 (o_ld rx_isI 2 (o_callV 2 4 FX4_isType (o_c1 rx_eq (vX4_types_20 j) (vX4_types_33 j))))))
set_option maxRecDepth 20000 in
theorem wX4_types_8 (hZ : zO b e D A X) (j : Nat → rx_K) (hj : ∀ k pc, [35][k]? = some pc → rx_OK (zV b e D A X) mX4_types 2 pc (j k)) : rx_OK (zV b e D A X) mX4_types 2 8 (vX4_types_8 j) := by
  unfold vX4_types_8
  refine s_aload_n hZ.1 dX4_types_8 rfl ?_
  refine s_aload_n hZ.1 dX4_types_9 rfl ?_
  refine yg7_8 dX4_types_10 zw1016 ?_
  refine s_iload_n hZ.1 dX4_types_13 rfl ?_
  refine s_callV hZ.1 (Met_X4_isType hZ) (Nat.le_of_ble_eq_true rfl) vy_X4_isType zcl4 zw1940 zw48 (Or.inl zw1938) dX4_types_14 ?_
  exact s_if_ne dX4_types_17 (by decide) (wX4_types_33 hZ j hj) (wX4_types_20 hZ j hj)
noncomputable def vX4_types_0 (j : Nat → rx_K) : rx_K := o_ld rx_isR 1 (o_getf 7 0 (o_const 16 (o_c2 rx_eq (vX4_types_33 j) (vX4_types_8 j))))
set_option maxRecDepth 20000 in
theorem wX4_types_0 (hZ : zO b e D A X) (j : Nat → rx_K) (hj : ∀ k pc, [35][k]? = some pc → rx_OK (zV b e D A X) mX4_types 2 pc (j k)) : rx_OK (zV b e D A X) mX4_types 2 0 (vX4_types_0 j) := by
  unfold vX4_types_0
  refine s_aload_n hZ.1 dX4_types_0 rfl ?_
  refine yg7_0 dX4_types_1 zw946 ?_
  refine s_iconst dX4_types_4 (by decide +kernel) ?_
  exact s_icmp_eq dX4_types_5 (by decide) (wX4_types_33 hZ j hj) (wX4_types_8 hZ j hj)
noncomputable def vhX4_types (j : Nat → rx_K) : List rx_K := [vX4_types_35 j]
theorem vlX4_types (hZ : zO b e D A X) : ∀ n k pc, [35][k]? = some pc → rx_OK (zV b e D A X) mX4_types 2 pc (rx_J (vhX4_types) n k) := rx_loop fun j hj k pc h => by
  match k, h with
  | 0, h =>
    have e9 := Option.some.inj (show some 35 = some pc from h)
    subst e9
    exact wX4_types_35 hZ j hj
  | _ + 1, h => exact absurd h (by simp)
noncomputable def FX4_types : List Nat → rx_H → Option (Nat × rx_H) := rx_ent 4 (vX4_types_0 (rx_J (vhX4_types) 4000000000))
theorem Met_X4_types (hZ : zO b e D A X) : rx_Met (zV b e D A X) 2 yX4_types mX4_types (FX4_types) := rx_entry hZ.1 (wX4_types_0 hZ _ (vlX4_types hZ 4000000000)) (by decide +kernel) rfl (fun h => by cases h)
abbrev mX4_items : rx_M := (RX4, cX4_items, 5, none, false)
theorem vy_X4_items : rx_Y (zV b e D A X) yX4_items mX4_items 2 := ⟨zw1924, zw420, by decide, by decide +kernel, by decide +kernel, by decide +kernel⟩
noncomputable def vX4_items_106 (j : Nat → rx_K) : rx_K := o_ret0
set_option maxRecDepth 20000 in
theorem wX4_items_106 (hZ : zO b e D A X) (j : Nat → rx_K) (hj : ∀ k pc, [2][k]? = some pc → rx_OK (zV b e D A X) mX4_items 3 pc (j k)) : rx_OK (zV b e D A X) mX4_items 3 106 (vX4_items_106 j) := by
  unfold vX4_items_106
  exact s_vret rfl dX4_items_106
noncomputable def vX4_items_100 (j : Nat → rx_K) : rx_K := o_inc 3 (1) ((j 0))
set_option maxRecDepth 20000 in
theorem wX4_items_100 (hZ : zO b e D A X) (j : Nat → rx_K) (hj : ∀ k pc, [2][k]? = some pc → rx_OK (zV b e D A X) mX4_items 3 pc (j k)) : rx_OK (zV b e D A X) mX4_items 3 100 (vX4_items_100 j) := by
  unfold vX4_items_100
  refine s_iinc hZ.1 dX4_items_100 (Nat.le_of_ble_eq_true rfl) ?_
  exact s_goto dX4_items_103 (by decide) (hj 0 2 rfl)
noncomputable def vX4_items_86 (j : Nat → rx_K) : rx_K := o_ld rx_isR 0 (o_ld rx_isR 4 (o_ld rx_isI 2 (o_callV 2 4 FX4_types (o_ld rx_isR 0 (o_ld rx_isR 1 (o_ld rx_isR 4 (o_callV 2 4 FX4_twice ((vX4_items_100 j)))))))))
set_option maxRecDepth 20000 in
theorem wX4_items_86 (hZ : zO b e D A X) (j : Nat → rx_K) (hj : ∀ k pc, [2][k]? = some pc → rx_OK (zV b e D A X) mX4_items 3 pc (j k)) : rx_OK (zV b e D A X) mX4_items 3 86 (vX4_items_86 j) := by
  unfold vX4_items_86
  refine s_aload_n hZ.1 dX4_items_86 rfl ?_
  refine s_aload hZ.1 dX4_items_87 ?_
  refine s_iload_n hZ.1 dX4_items_89 rfl ?_
  refine s_callV hZ.1 (Met_X4_types hZ) (Nat.le_of_ble_eq_true rfl) vy_X4_types zcl4 zw1936 zw47 (Or.inl zw1934) dX4_items_90 ?_
  refine s_aload_n hZ.1 dX4_items_93 rfl ?_
  refine s_aload_n hZ.1 dX4_items_94 rfl ?_
  refine s_aload hZ.1 dX4_items_95 ?_
  refine s_callV hZ.1 (Met_X4_twice hZ) (Nat.le_of_ble_eq_true rfl) vy_X4_twice zcl4 zw1950 zw49 (Or.inl zw1948) dX4_items_97 ?_
  exact (wX4_items_100 hZ j hj)
noncomputable def vX4_items_77 (j : Nat → rx_K) : rx_K := o_ld rx_isR 4 (o_getf 7 0 (o_const 24 (o_c2 rx_eq (vX4_items_100 j) (vX4_items_86 j))))
set_option maxRecDepth 20000 in
theorem wX4_items_77 (hZ : zO b e D A X) (j : Nat → rx_K) (hj : ∀ k pc, [2][k]? = some pc → rx_OK (zV b e D A X) mX4_items 3 pc (j k)) : rx_OK (zV b e D A X) mX4_items 3 77 (vX4_items_77 j) := by
  unfold vX4_items_77
  refine s_aload hZ.1 dX4_items_77 ?_
  refine yg7_0 dX4_items_79 zw946 ?_
  refine s_iconst dX4_items_82 (by decide +kernel) ?_
  exact s_icmp_eq dX4_items_83 (by decide) (wX4_items_100 hZ j hj) (wX4_items_86 hZ j hj)
noncomputable def vX4_items_72 (j : Nat → rx_K) : rx_K := o_ld rx_isR 4 (o_callS 1 FX4_settleInFace ((vX4_items_77 j)))
set_option maxRecDepth 20000 in
theorem wX4_items_72 (hZ : zO b e D A X) (j : Nat → rx_K) (hj : ∀ k pc, [2][k]? = some pc → rx_OK (zV b e D A X) mX4_items 3 pc (j k)) : rx_OK (zV b e D A X) mX4_items 3 72 (vX4_items_72 j) := by
  unfold vX4_items_72
  refine s_aload hZ.1 dX4_items_72 ?_
  refine s_callS hZ.1 (Met_X4_settleInFace hZ) (Nat.le_of_ble_eq_true rfl) vy_X4_settleInFace zw1932 (Or.inl zw1931) dX4_items_74 ?_
  exact (wX4_items_77 hZ j hj)
noncomputable def vX4_items_65 (j : Nat → rx_K) : rx_K := o_ld rx_isR 1 (o_getf 10 4 (o_c1 rx_eq (vX4_items_77 j) (vX4_items_72 j)))
set_option maxRecDepth 20000 in
theorem wX4_items_65 (hZ : zO b e D A X) (j : Nat → rx_K) (hj : ∀ k pc, [2][k]? = some pc → rx_OK (zV b e D A X) mX4_items 3 pc (j k)) : rx_OK (zV b e D A X) mX4_items 3 65 (vX4_items_65 j) := by
  unfold vX4_items_65
  refine s_aload_n hZ.1 dX4_items_65 rfl ?_
  refine yg10_4 dX4_items_66 zw792 ?_
  exact s_if_eq dX4_items_69 (by decide) (wX4_items_77 hZ j hj) (wX4_items_72 hZ j hj)
noncomputable def vX4_items_52 (j : Nat → rx_K) : rx_K := o_ld rx_isR 0 (o_const 64 (o_ld rx_isR 4 (o_getf 7 11 (o_callV 2 4 FX4_fail (o_pop (o_ret0))))))
set_option maxRecDepth 20000 in
theorem wX4_items_52 (hZ : zO b e D A X) (j : Nat → rx_K) (hj : ∀ k pc, [2][k]? = some pc → rx_OK (zV b e D A X) mX4_items 3 pc (j k)) : rx_OK (zV b e D A X) mX4_items 3 52 (vX4_items_52 j) := by
  unfold vX4_items_52
  refine s_aload_n hZ.1 dX4_items_52 rfl ?_
  refine s_bipush dX4_items_53 (by decide +kernel) ?_
  refine s_aload hZ.1 dX4_items_55 ?_
  refine yg7_11 dX4_items_57 zw1037 ?_
  refine s_callV hZ.1 (Met_X4_fail hZ) (Nat.le_of_ble_eq_true rfl) vy_X4_fail zcl4 zw1898 zw43 (Or.inl zw1896) dX4_items_60 ?_
  refine s_pop hZ.1 dX4_items_63 ?_
  exact s_vret rfl dX4_items_64
noncomputable def vX4_items_43 (j : Nat → rx_K) : rx_K := o_ld rx_isR 1 (o_ld rx_isR 4 (o_callS 2 FX4_oddInClass (o_c1 rx_eq (vX4_items_65 j) (vX4_items_52 j))))
set_option maxRecDepth 20000 in
theorem wX4_items_43 (hZ : zO b e D A X) (j : Nat → rx_K) (hj : ∀ k pc, [2][k]? = some pc → rx_OK (zV b e D A X) mX4_items 3 pc (j k)) : rx_OK (zV b e D A X) mX4_items 3 43 (vX4_items_43 j) := by
  unfold vX4_items_43
  refine s_aload_n hZ.1 dX4_items_43 rfl ?_
  refine s_aload hZ.1 dX4_items_44 ?_
  refine s_callS hZ.1 (Met_X4_oddInClass hZ) (Nat.le_of_ble_eq_true rfl) vy_X4_oddInClass zw1929 (Or.inl zw1928) dX4_items_46 ?_
  exact s_if_eq dX4_items_49 (by decide) (wX4_items_65 hZ j hj) (wX4_items_52 hZ j hj)
noncomputable def vX4_items_40 (j : Nat → rx_K) : rx_K := (vX4_items_52 j)
set_option maxRecDepth 20000 in
theorem wX4_items_40 (hZ : zO b e D A X) (j : Nat → rx_K) (hj : ∀ k pc, [2][k]? = some pc → rx_OK (zV b e D A X) mX4_items 3 pc (j k)) : rx_OK (zV b e D A X) mX4_items 3 40 (vX4_items_40 j) := by
  unfold vX4_items_40
  exact s_goto dX4_items_40 (by decide) (wX4_items_52 hZ j hj)
noncomputable def vX4_items_32 (j : Nat → rx_K) : rx_K := o_ld rx_isR 4 (o_callS 1 FX4_oddInFace (o_c1 rx_eq (vX4_items_65 j) (vX4_items_40 j)))
set_option maxRecDepth 20000 in
theorem wX4_items_32 (hZ : zO b e D A X) (j : Nat → rx_K) (hj : ∀ k pc, [2][k]? = some pc → rx_OK (zV b e D A X) mX4_items 3 pc (j k)) : rx_OK (zV b e D A X) mX4_items 3 32 (vX4_items_32 j) := by
  unfold vX4_items_32
  refine s_aload hZ.1 dX4_items_32 ?_
  refine s_callS hZ.1 (Met_X4_oddInFace hZ) (Nat.le_of_ble_eq_true rfl) vy_X4_oddInFace zw1926 (Or.inl zw1925) dX4_items_34 ?_
  exact s_if_eq dX4_items_37 (by decide) (wX4_items_65 hZ j hj) (wX4_items_40 hZ j hj)
noncomputable def vX4_items_17 (j : Nat → rx_K) : rx_K := o_ld rx_isR 1 (o_getf 10 12 (o_ld rx_isI 3 (o_ald 5 (o_st rx_isR 4 (o_ld rx_isR 1 (o_getf 10 4 (o_c1 rx_eq (vX4_items_43 j) (vX4_items_32 j))))))))
set_option maxRecDepth 20000 in
theorem wX4_items_17 (hZ : zO b e D A X) (j : Nat → rx_K) (hj : ∀ k pc, [2][k]? = some pc → rx_OK (zV b e D A X) mX4_items 3 pc (j k)) : rx_OK (zV b e D A X) mX4_items 3 17 (vX4_items_17 j) := by
  unfold vX4_items_17
  refine s_aload_n hZ.1 dX4_items_17 rfl ?_
  refine yg10_12 dX4_items_18 zw850 ?_
  refine s_iload_n hZ.1 dX4_items_21 rfl ?_
  refine s_aald (tt := 5) rfl rfl dX4_items_22 ?_
  refine s_astore hZ.1 dX4_items_23 (Nat.le_of_ble_eq_true rfl) ?_
  refine s_aload_n hZ.1 dX4_items_25 rfl ?_
  refine yg10_4 dX4_items_26 zw792 ?_
  exact s_if_eq dX4_items_29 (by decide) (wX4_items_43 hZ j hj) (wX4_items_32 hZ j hj)
noncomputable def vX4_items_10 (j : Nat → rx_K) : rx_K := o_ld rx_isR 0 (o_getf 4 2 (o_c1 rx_eq (vX4_items_17 j) (vX4_items_106 j)))
set_option maxRecDepth 20000 in
theorem wX4_items_10 (hZ : zO b e D A X) (j : Nat → rx_K) (hj : ∀ k pc, [2][k]? = some pc → rx_OK (zV b e D A X) mX4_items 3 pc (j k)) : rx_OK (zV b e D A X) mX4_items 3 10 (vX4_items_10 j) := by
  unfold vX4_items_10
  refine s_aload_n hZ.1 dX4_items_10 rfl ?_
  refine yg4_2 dX4_items_11 zw640 ?_
  exact s_if_ne dX4_items_14 (by decide) (wX4_items_106 hZ j hj) (wX4_items_17 hZ j hj)
noncomputable def vX4_items_2 (j : Nat → rx_K) : rx_K := o_ld rx_isI 3 (o_ld rx_isR 1 (o_getf 10 13 (o_c2 rx_lt (vX4_items_10 j) (vX4_items_106 j))))
set_option maxRecDepth 20000 in
theorem wX4_items_2 (hZ : zO b e D A X) (j : Nat → rx_K) (hj : ∀ k pc, [2][k]? = some pc → rx_OK (zV b e D A X) mX4_items 3 pc (j k)) : rx_OK (zV b e D A X) mX4_items 3 2 (vX4_items_2 j) := by
  unfold vX4_items_2
  refine s_iload_n hZ.1 dX4_items_2 rfl ?_
  refine s_aload_n hZ.1 dX4_items_3 rfl ?_
  refine yg10_13 dX4_items_4 zw856 ?_
  exact s_icmp_ge dX4_items_7 (by decide) (wX4_items_106 hZ j hj) (wX4_items_10 hZ j hj)
noncomputable def vX4_items_0 (j : Nat → rx_K) : rx_K := o_const 0 (o_st rx_isI 3 ((vX4_items_2 j)))
set_option maxRecDepth 20000 in
theorem wX4_items_0 (hZ : zO b e D A X) (j : Nat → rx_K) (hj : ∀ k pc, [2][k]? = some pc → rx_OK (zV b e D A X) mX4_items 3 pc (j k)) : rx_OK (zV b e D A X) mX4_items 3 0 (vX4_items_0 j) := by
  unfold vX4_items_0
  refine s_iconst dX4_items_0 (by decide +kernel) ?_
  refine s_istore_n hZ.1 dX4_items_1 rfl (Nat.le_of_ble_eq_true rfl) ?_
  exact (wX4_items_2 hZ j hj)
noncomputable def vhX4_items (j : Nat → rx_K) : List rx_K := [vX4_items_2 j]
theorem vlX4_items (hZ : zO b e D A X) : ∀ n k pc, [2][k]? = some pc → rx_OK (zV b e D A X) mX4_items 3 pc (rx_J (vhX4_items) n k) := rx_loop fun j hj k pc h => by
  match k, h with
  | 0, h =>
    have e9 := Option.some.inj (show some 2 = some pc from h)
    subst e9
    exact wX4_items_2 hZ j hj
  | _ + 1, h => exact absurd h (by simp)
noncomputable def FX4_items : List Nat → rx_H → Option (Nat × rx_H) := rx_ent 5 (vX4_items_0 (rx_J (vhX4_items) 4000000000))
theorem Met_X4_items (hZ : zO b e D A X) : rx_Met (zV b e D A X) 3 yX4_items mX4_items (FX4_items) := rx_entry hZ.1 (wX4_items_0 hZ _ (vlX4_items hZ 4000000000)) (by decide +kernel) rfl (fun h => by cases h)
end ZM14

section ZM30
variable {b : Nat} {e : Nat → Value} {D : va_G} {A : Nat → ClassId} {X : State → Prop}
abbrev mX11_settle : rx_M := (RX11, cX11_settle, 5, none, false)
theorem vy_X11_settle : rx_Y (zV b e D A X) yX11_settle mX11_settle 0 := ⟨zw1572, zw423, by decide, by decide +kernel, by decide +kernel, by decide +kernel⟩
noncomputable def vX11_settle_302 (j : Nat → rx_K) : rx_K := o_ld rx_isR 0 (o_callV 0 11 FX11_close (o_ret0))
set_option maxRecDepth 20000 in
theorem wX11_settle_302 (hZ : zO b e D A X) (j : Nat → rx_K) (hj : ∀ k pc, [2, 186][k]? = some pc → rx_OK (zV b e D A X) mX11_settle 2 pc (j k)) : rx_OK (zV b e D A X) mX11_settle 2 302 (vX11_settle_302 j) := by
  unfold vX11_settle_302
  refine s_aload_n hZ.1 dX11_settle_302 rfl ?_
  refine s_callV hZ.1 (Met_X11_close hZ) (Nat.le_of_ble_eq_true rfl) vy_X11_close zcl11 zw1591 zw4 (Or.inl zw1589) dX11_settle_303 ?_
  exact s_vret rfl dX11_settle_306
noncomputable def vX11_settle_281 (j : Nat → rx_K) : rx_K := o_ld rx_isR 0 (o_getf 11 9 (o_ld rx_isI 1 (o_const 1 (o_ast 1 (fun v => v) rx_isL (o_ld rx_isR 0 (o_getf 11 11 (o_ld rx_isI 1 (o_const 34359738352 (o_ast 0 (fun v => v) rx_isI (o_inc 1 (1) ((j 0))))))))))))
set_option maxRecDepth 20000 in
theorem wX11_settle_281 (hZ : zO b e D A X) (j : Nat → rx_K) (hj : ∀ k pc, [2, 186][k]? = some pc → rx_OK (zV b e D A X) mX11_settle 2 pc (j k)) : rx_OK (zV b e D A X) mX11_settle 2 281 (vX11_settle_281 j) := by
  unfold vX11_settle_281
  refine s_aload_n hZ.1 dX11_settle_281 rfl ?_
  refine yg11_9 dX11_settle_282 zw1281 ?_
  refine s_iload_n hZ.1 dX11_settle_285 rfl ?_
  refine s_lconst dX11_settle_286 (by decide +kernel) ?_
  refine s_last (tt := 1) rfl dX11_settle_287 ?_
  refine s_aload_n hZ.1 dX11_settle_288 rfl ?_
  refine yg11_11 dX11_settle_289 zw1286 ?_
  refine s_iload_n hZ.1 dX11_settle_292 rfl ?_
  refine s_bipush dX11_settle_293 (by decide +kernel) ?_
  refine s_iast hZ.1 (tt := 0) rfl dX11_settle_295 ?_
  refine s_iinc hZ.1 dX11_settle_296 (Nat.le_of_ble_eq_true rfl) ?_
  exact s_goto dX11_settle_299 (by decide) (hj 0 2 rfl)
noncomputable def vX11_settle_274 (j : Nat → rx_K) : rx_K := o_ast 0 (fun v => v) rx_isI (o_inc 4 (1) ((j 1)))
set_option maxRecDepth 20000 in
theorem wX11_settle_274 (hZ : zO b e D A X) (j : Nat → rx_K) (hj : ∀ k pc, [2, 186][k]? = some pc → rx_OK (zV b e D A X) mX11_settle 2 pc (j k)) : rx_OK (zV b e D A X) mX11_settle 2 274 (vX11_settle_274 j) := by
  unfold vX11_settle_274
  refine s_iast hZ.1 (tt := 0) rfl dX11_settle_274 ?_
  refine s_iinc hZ.1 dX11_settle_275 (Nat.le_of_ble_eq_true rfl) ?_
  exact s_goto dX11_settle_278 (by decide) (hj 1 186 rfl)
noncomputable def vX11_settle_273 (j : Nat → rx_K) : rx_K := o_const 0 ((vX11_settle_274 j))
set_option maxRecDepth 20000 in
theorem wX11_settle_273 (hZ : zO b e D A X) (j : Nat → rx_K) (hj : ∀ k pc, [2, 186][k]? = some pc → rx_OK (zV b e D A X) mX11_settle 2 pc (j k)) : rx_OK (zV b e D A X) mX11_settle 2 273 (vX11_settle_273 j) := by
  unfold vX11_settle_273
  refine s_iconst dX11_settle_273 (by decide +kernel) ?_
  exact (wX11_settle_274 hZ j hj)
noncomputable def vX11_settle_253 (j : Nat → rx_K) : rx_K := o_ld rx_isR 0 (o_ld rx_isR 2 (o_ld rx_isR 0 (o_getf 11 5 (o_ld rx_isI 1 (o_const 32 (o_bi (fun x y => x * y) (o_ld rx_isI 4 (o_bi (fun x y => x + y) (o_ald 0 (o_const 0 (o_callV 3 11 FX11_bars ((vX11_settle_274 j)))))))))))))
set_option maxRecDepth 20000 in
theorem wX11_settle_253 (hZ : zO b e D A X) (j : Nat → rx_K) (hj : ∀ k pc, [2, 186][k]? = some pc → rx_OK (zV b e D A X) mX11_settle 2 pc (j k)) : rx_OK (zV b e D A X) mX11_settle 2 253 (vX11_settle_253 j) := by
  unfold vX11_settle_253
  refine s_aload_n hZ.1 dX11_settle_253 rfl ?_
  refine s_aload_n hZ.1 dX11_settle_254 rfl ?_
  refine s_aload_n hZ.1 dX11_settle_255 rfl ?_
  refine yg11_5 dX11_settle_256 zw1272 ?_
  refine s_iload_n hZ.1 dX11_settle_259 rfl ?_
  refine s_iconst dX11_settle_260 (by decide +kernel) ?_
  refine s_imul dX11_settle_261 ?_
  refine s_iload hZ.1 dX11_settle_262 ?_
  refine s_iadd dX11_settle_264 ?_
  refine s_iald (tt := 0) rfl dX11_settle_265 ?_
  refine s_iconst dX11_settle_266 (by decide +kernel) ?_
  refine s_callV hZ.1 (Met_X11_bars hZ) (Nat.le_of_ble_eq_true rfl) vy_X11_bars zcl11 zw1583 zw3 (Or.inl zw1581) dX11_settle_267 ?_
  exact s_goto dX11_settle_270 (by decide) (wX11_settle_274 hZ j hj)
noncomputable def vX11_settle_229 (j : Nat → rx_K) : rx_K := o_ast 0 (fun v => v) rx_isI (o_ld rx_isR 0 (o_getf 11 6 (o_ld rx_isI 1 (o_const 40 (o_bi (fun x y => x * y) (o_const 8 (o_bi (fun x y => x + y) (o_ld rx_isI 4 (o_bi (fun x y => x + y) (o_ld rx_isI 4 (o_ld rx_isR 2 (o_getf 10 11 (o_const 0 (o_ald 0 (o_c2 rx_lt (vX11_settle_253 j) (vX11_settle_273 j))))))))))))))))
set_option maxRecDepth 20000 in
theorem wX11_settle_229 (hZ : zO b e D A X) (j : Nat → rx_K) (hj : ∀ k pc, [2, 186][k]? = some pc → rx_OK (zV b e D A X) mX11_settle 2 pc (j k)) : rx_OK (zV b e D A X) mX11_settle 2 229 (vX11_settle_229 j) := by
  unfold vX11_settle_229
  refine s_iast hZ.1 (tt := 0) rfl dX11_settle_229 ?_
  refine s_aload_n hZ.1 dX11_settle_230 rfl ?_
  refine yg11_6 dX11_settle_231 zw1275 ?_
  refine s_iload_n hZ.1 dX11_settle_234 rfl ?_
  refine s_iconst dX11_settle_235 (by decide +kernel) ?_
  refine s_imul dX11_settle_236 ?_
  refine s_iconst dX11_settle_237 (by decide +kernel) ?_
  refine s_iadd dX11_settle_238 ?_
  refine s_iload hZ.1 dX11_settle_239 ?_
  refine s_iadd dX11_settle_241 ?_
  refine s_iload hZ.1 dX11_settle_242 ?_
  refine s_aload_n hZ.1 dX11_settle_244 rfl ?_
  refine yg10_11 dX11_settle_245 zw841 ?_
  refine s_iconst dX11_settle_248 (by decide +kernel) ?_
  refine s_iald (tt := 0) rfl dX11_settle_249 ?_
  exact s_icmp_ge dX11_settle_250 (by decide) (wX11_settle_273 hZ j hj) (wX11_settle_253 hZ j hj)
noncomputable def vX11_settle_227 (j : Nat → rx_K) : rx_K := o_const 34359738352 ((vX11_settle_229 j))
set_option maxRecDepth 20000 in
theorem wX11_settle_227 (hZ : zO b e D A X) (j : Nat → rx_K) (hj : ∀ k pc, [2, 186][k]? = some pc → rx_OK (zV b e D A X) mX11_settle 2 pc (j k)) : rx_OK (zV b e D A X) mX11_settle 2 227 (vX11_settle_227 j) := by
  unfold vX11_settle_227
  refine s_bipush dX11_settle_227 (by decide +kernel) ?_
  exact (wX11_settle_229 hZ j hj)
noncomputable def vX11_settle_213 (j : Nat → rx_K) : rx_K := o_ld rx_isR 0 (o_ld rx_isR 2 (o_const 0 (o_ld rx_isI 4 (o_callV 2 10 FX10_listedAt (o_callV 1 11 FX11_find ((vX11_settle_229 j)))))))
set_option maxRecDepth 20000 in
theorem wX11_settle_213 (hZ : zO b e D A X) (j : Nat → rx_K) (hj : ∀ k pc, [2, 186][k]? = some pc → rx_OK (zV b e D A X) mX11_settle 2 pc (j k)) : rx_OK (zV b e D A X) mX11_settle 2 213 (vX11_settle_213 j) := by
  unfold vX11_settle_213
  refine s_aload_n hZ.1 dX11_settle_213 rfl ?_
  refine s_aload_n hZ.1 dX11_settle_214 rfl ?_
  refine s_iconst dX11_settle_215 (by decide +kernel) ?_
  refine s_iload hZ.1 dX11_settle_216 ?_
  refine s_callV hZ.1 (Met_X10_listedAt hZ) (Nat.le_of_ble_eq_true rfl) vy_X10_listedAt zcl10 zw1586 zw1587 (Or.inl zw1585) dX11_settle_218 ?_
  refine s_callV hZ.1 (Met_X11_find hZ) (Nat.le_of_ble_eq_true rfl) vy_X11_find zcl11 zw1574 zw1575 (Or.inl zw1573) dX11_settle_221 ?_
  exact s_goto dX11_settle_224 (by decide) (wX11_settle_229 hZ j hj)
noncomputable def vX11_settle_192 (j : Nat → rx_K) : rx_K := o_ld rx_isR 0 (o_getf 11 5 (o_ld rx_isI 1 (o_const 32 (o_bi (fun x y => x * y) (o_ld rx_isI 4 (o_bi (fun x y => x + y) (o_ld rx_isI 4 (o_ld rx_isR 2 (o_getf 10 11 (o_const 0 (o_ald 0 (o_c2 rx_lt (vX11_settle_213 j) (vX11_settle_227 j)))))))))))))
set_option maxRecDepth 20000 in
theorem wX11_settle_192 (hZ : zO b e D A X) (j : Nat → rx_K) (hj : ∀ k pc, [2, 186][k]? = some pc → rx_OK (zV b e D A X) mX11_settle 2 pc (j k)) : rx_OK (zV b e D A X) mX11_settle 2 192 (vX11_settle_192 j) := by
  unfold vX11_settle_192
  refine s_aload_n hZ.1 dX11_settle_192 rfl ?_
  refine yg11_5 dX11_settle_193 zw1272 ?_
  refine s_iload_n hZ.1 dX11_settle_196 rfl ?_
  refine s_iconst dX11_settle_197 (by decide +kernel) ?_
  refine s_imul dX11_settle_198 ?_
  refine s_iload hZ.1 dX11_settle_199 ?_
  refine s_iadd dX11_settle_201 ?_
  refine s_iload hZ.1 dX11_settle_202 ?_
  refine s_aload_n hZ.1 dX11_settle_204 rfl ?_
  refine yg10_11 dX11_settle_205 zw841 ?_
  refine s_iconst dX11_settle_208 (by decide +kernel) ?_
  refine s_iald (tt := 0) rfl dX11_settle_209 ?_
  exact s_icmp_ge dX11_settle_210 (by decide) (wX11_settle_227 hZ j hj) (wX11_settle_213 hZ j hj)
noncomputable def vX11_settle_186 (j : Nat → rx_K) : rx_K := o_ld rx_isI 4 (o_const 32 (o_c2 rx_lt (vX11_settle_192 j) (vX11_settle_281 j)))
set_option maxRecDepth 20000 in
theorem wX11_settle_186 (hZ : zO b e D A X) (j : Nat → rx_K) (hj : ∀ k pc, [2, 186][k]? = some pc → rx_OK (zV b e D A X) mX11_settle 2 pc (j k)) : rx_OK (zV b e D A X) mX11_settle 2 186 (vX11_settle_186 j) := by
  unfold vX11_settle_186
  refine s_iload hZ.1 dX11_settle_186 ?_
  refine s_iconst dX11_settle_188 (by decide +kernel) ?_
  exact s_icmp_ge dX11_settle_189 (by decide) (wX11_settle_281 hZ j hj) (wX11_settle_192 hZ j hj)
noncomputable def vX11_settle_182 (j : Nat → rx_K) : rx_K := o_ast 0 (fun v => v) rx_isI (o_const 0 (o_st rx_isI 4 ((vX11_settle_186 j))))
set_option maxRecDepth 20000 in
theorem wX11_settle_182 (hZ : zO b e D A X) (j : Nat → rx_K) (hj : ∀ k pc, [2, 186][k]? = some pc → rx_OK (zV b e D A X) mX11_settle 2 pc (j k)) : rx_OK (zV b e D A X) mX11_settle 2 182 (vX11_settle_182 j) := by
  unfold vX11_settle_182
  refine s_iast hZ.1 (tt := 0) rfl dX11_settle_182 ?_
  refine s_iconst dX11_settle_183 (by decide +kernel) ?_
  refine s_istore hZ.1 dX11_settle_184 (Nat.le_of_ble_eq_true rfl) ?_
  exact (wX11_settle_186 hZ j hj)
noncomputable def vX11_settle_170 (j : Nat → rx_K) : rx_K := o_ld rx_isR 0 (o_ld rx_isR 2 (o_ld rx_isR 0 (o_getf 11 3 (o_ld rx_isI 1 (o_ald 0 (o_const 8 (o_callV 3 11 FX11_bars ((vX11_settle_182 j)))))))))
set_option maxRecDepth 20000 in
theorem wX11_settle_170 (hZ : zO b e D A X) (j : Nat → rx_K) (hj : ∀ k pc, [2, 186][k]? = some pc → rx_OK (zV b e D A X) mX11_settle 2 pc (j k)) : rx_OK (zV b e D A X) mX11_settle 2 170 (vX11_settle_170 j) := by
  unfold vX11_settle_170
  refine s_aload_n hZ.1 dX11_settle_170 rfl ?_
  refine s_aload_n hZ.1 dX11_settle_171 rfl ?_
  refine s_aload_n hZ.1 dX11_settle_172 rfl ?_
  refine yg11_3 dX11_settle_173 zw1262 ?_
  refine s_iload_n hZ.1 dX11_settle_176 rfl ?_
  refine s_iald (tt := 0) rfl dX11_settle_177 ?_
  refine s_iconst dX11_settle_178 (by decide +kernel) ?_
  refine s_callV hZ.1 (Met_X11_bars hZ) (Nat.le_of_ble_eq_true rfl) vy_X11_bars zcl11 zw1583 zw3 (Or.inl zw1581) dX11_settle_179 ?_
  exact (wX11_settle_182 hZ j hj)
noncomputable def vX11_settle_166 (j : Nat → rx_K) : rx_K := o_const 0 ((vX11_settle_182 j))
set_option maxRecDepth 20000 in
theorem wX11_settle_166 (hZ : zO b e D A X) (j : Nat → rx_K) (hj : ∀ k pc, [2, 186][k]? = some pc → rx_OK (zV b e D A X) mX11_settle 2 pc (j k)) : rx_OK (zV b e D A X) mX11_settle 2 166 (vX11_settle_166 j) := by
  unfold vX11_settle_166
  refine s_iconst dX11_settle_166 (by decide +kernel) ?_
  exact s_goto dX11_settle_167 (by decide) (wX11_settle_182 hZ j hj)
noncomputable def vX11_settle_151 (j : Nat → rx_K) : rx_K := o_ast 0 (fun v => v) rx_isI (o_ld rx_isR 0 (o_getf 11 6 (o_ld rx_isI 1 (o_const 40 (o_bi (fun x y => x * y) (o_ld rx_isR 2 (o_getf 10 4 (o_c1 rx_eq (vX11_settle_170 j) (vX11_settle_166 j)))))))))
set_option maxRecDepth 20000 in
theorem wX11_settle_151 (hZ : zO b e D A X) (j : Nat → rx_K) (hj : ∀ k pc, [2, 186][k]? = some pc → rx_OK (zV b e D A X) mX11_settle 2 pc (j k)) : rx_OK (zV b e D A X) mX11_settle 2 151 (vX11_settle_151 j) := by
  unfold vX11_settle_151
  refine s_iast hZ.1 (tt := 0) rfl dX11_settle_151 ?_
  refine s_aload_n hZ.1 dX11_settle_152 rfl ?_
  refine yg11_6 dX11_settle_153 zw1275 ?_
  refine s_iload_n hZ.1 dX11_settle_156 rfl ?_
  refine s_iconst dX11_settle_157 (by decide +kernel) ?_
  refine s_imul dX11_settle_158 ?_
  refine s_aload_n hZ.1 dX11_settle_159 rfl ?_
  refine yg10_4 dX11_settle_160 zw793 ?_
  exact s_if_eq dX11_settle_163 (by decide) (wX11_settle_170 hZ j hj) (wX11_settle_166 hZ j hj)
noncomputable def vX11_settle_150 (j : Nat → rx_K) : rx_K := o_ld rx_isI 1 ((vX11_settle_151 j))
set_option maxRecDepth 20000 in
theorem wX11_settle_150 (hZ : zO b e D A X) (j : Nat → rx_K) (hj : ∀ k pc, [2, 186][k]? = some pc → rx_OK (zV b e D A X) mX11_settle 2 pc (j k)) : rx_OK (zV b e D A X) mX11_settle 2 150 (vX11_settle_150 j) := by
  unfold vX11_settle_150
  refine s_iload_n hZ.1 dX11_settle_150 rfl ?_
  exact (wX11_settle_151 hZ j hj)
noncomputable def vX11_settle_141 (j : Nat → rx_K) : rx_K := o_ld rx_isR 0 (o_getf 11 7 (o_ld rx_isI 1 (o_ald 0 ((vX11_settle_151 j)))))
set_option maxRecDepth 20000 in
theorem wX11_settle_141 (hZ : zO b e D A X) (j : Nat → rx_K) (hj : ∀ k pc, [2, 186][k]? = some pc → rx_OK (zV b e D A X) mX11_settle 2 pc (j k)) : rx_OK (zV b e D A X) mX11_settle 2 141 (vX11_settle_141 j) := by
  unfold vX11_settle_141
  refine s_aload_n hZ.1 dX11_settle_141 rfl ?_
  refine yg11_7 dX11_settle_142 zw1277 ?_
  refine s_iload_n hZ.1 dX11_settle_145 rfl ?_
  refine s_iald (tt := 0) rfl dX11_settle_146 ?_
  exact s_goto dX11_settle_147 (by decide) (wX11_settle_151 hZ j hj)
noncomputable def vX11_settle_131 (j : Nat → rx_K) : rx_K := o_st rx_isI 3 (o_ld rx_isR 0 (o_getf 11 8 (o_ld rx_isI 1 (o_ld rx_isI 3 (o_c1 rx_eq (vX11_settle_150 j) (vX11_settle_141 j))))))
set_option maxRecDepth 20000 in
theorem wX11_settle_131 (hZ : zO b e D A X) (j : Nat → rx_K) (hj : ∀ k pc, [2, 186][k]? = some pc → rx_OK (zV b e D A X) mX11_settle 2 pc (j k)) : rx_OK (zV b e D A X) mX11_settle 2 131 (vX11_settle_131 j) := by
  unfold vX11_settle_131
  refine s_istore_n hZ.1 dX11_settle_131 rfl (Nat.le_of_ble_eq_true rfl) ?_
  refine s_aload_n hZ.1 dX11_settle_132 rfl ?_
  refine yg11_8 dX11_settle_133 zw1279 ?_
  refine s_iload_n hZ.1 dX11_settle_136 rfl ?_
  refine s_iload_n hZ.1 dX11_settle_137 rfl ?_
  exact s_if_eq dX11_settle_138 (by decide) (wX11_settle_150 hZ j hj) (wX11_settle_141 hZ j hj)
noncomputable def vX11_settle_130 (j : Nat → rx_K) : rx_K := o_const 0 ((vX11_settle_131 j))
set_option maxRecDepth 20000 in
theorem wX11_settle_130 (hZ : zO b e D A X) (j : Nat → rx_K) (hj : ∀ k pc, [2, 186][k]? = some pc → rx_OK (zV b e D A X) mX11_settle 2 pc (j k)) : rx_OK (zV b e D A X) mX11_settle 2 130 (vX11_settle_130 j) := by
  unfold vX11_settle_130
  refine s_iconst dX11_settle_130 (by decide +kernel) ?_
  exact (wX11_settle_131 hZ j hj)
noncomputable def vX11_settle_126 (j : Nat → rx_K) : rx_K := o_const 8 ((vX11_settle_131 j))
set_option maxRecDepth 20000 in
theorem wX11_settle_126 (hZ : zO b e D A X) (j : Nat → rx_K) (hj : ∀ k pc, [2, 186][k]? = some pc → rx_OK (zV b e D A X) mX11_settle 2 pc (j k)) : rx_OK (zV b e D A X) mX11_settle 2 126 (vX11_settle_126 j) := by
  unfold vX11_settle_126
  refine s_iconst dX11_settle_126 (by decide +kernel) ?_
  exact s_goto dX11_settle_127 (by decide) (wX11_settle_131 hZ j hj)
noncomputable def vX11_settle_104 (j : Nat → rx_K) : rx_K := o_ld rx_isR 0 (o_getf 11 1 (o_ld rx_isR 0 (o_getf 11 7 (o_ld rx_isI 1 (o_ald 0 (o_ald 4 (o_const 8 (o_ld rx_isR 2 (o_getf 10 1 (o_callV 2 10 FX10_has (o_c1 rx_eq (vX11_settle_130 j) (vX11_settle_126 j))))))))))))
set_option maxRecDepth 20000 in
theorem wX11_settle_104 (hZ : zO b e D A X) (j : Nat → rx_K) (hj : ∀ k pc, [2, 186][k]? = some pc → rx_OK (zV b e D A X) mX11_settle 2 pc (j k)) : rx_OK (zV b e D A X) mX11_settle 2 104 (vX11_settle_104 j) := by
  unfold vX11_settle_104
  refine s_aload_n hZ.1 dX11_settle_104 rfl ?_
  refine yg11_1 dX11_settle_105 zw1252 ?_
  refine s_aload_n hZ.1 dX11_settle_108 rfl ?_
  refine yg11_7 dX11_settle_109 zw1277 ?_
  refine s_iload_n hZ.1 dX11_settle_112 rfl ?_
  refine s_iald (tt := 0) rfl dX11_settle_113 ?_
  refine s_aald (tt := 4) rfl rfl dX11_settle_114 ?_
  refine s_iconst dX11_settle_115 (by decide +kernel) ?_
  refine s_aload_n hZ.1 dX11_settle_116 rfl ?_
  refine yg10_1 dX11_settle_117 zw768 ?_
  refine s_callV hZ.1 (Met_X10_has hZ) (Nat.le_of_ble_eq_true rfl) vy_X10_has zcl10 zw1578 zw1579 (Or.inl zw1577) dX11_settle_120 ?_
  exact s_if_eq dX11_settle_123 (by decide) (wX11_settle_130 hZ j hj) (wX11_settle_126 hZ j hj)
noncomputable def vX11_settle_86 (j : Nat → rx_K) : rx_K := o_ld rx_isR 2 (o_getf 10 9 (o_const 472 (o_bs (fun x y => (x.toUInt64 >>> (y.toInt64.toUInt64 &&& Int64.toUInt64 63)).toInt64) (o_ld rx_isR 2 (o_getf 10 1 (o_const 472 (o_bs (fun x y => (x.toUInt64 >>> (y.toInt64.toUInt64 &&& Int64.toUInt64 63)).toInt64) (o_bc (fun x y => lg_cmp x y) (o_c1 rx_eq (vX11_settle_104 j) (vX11_settle_130 j))))))))))
set_option maxRecDepth 20000 in
theorem wX11_settle_86 (hZ : zO b e D A X) (j : Nat → rx_K) (hj : ∀ k pc, [2, 186][k]? = some pc → rx_OK (zV b e D A X) mX11_settle 2 pc (j k)) : rx_OK (zV b e D A X) mX11_settle 2 86 (vX11_settle_86 j) := by
  unfold vX11_settle_86
  refine s_aload_n hZ.1 dX11_settle_86 rfl ?_
  refine yg10_9 dX11_settle_87 zw831 ?_
  refine s_bipush dX11_settle_90 (by decide +kernel) ?_
  refine s_lushr dX11_settle_92 ?_
  refine s_aload_n hZ.1 dX11_settle_93 rfl ?_
  refine yg10_1 dX11_settle_94 zw768 ?_
  refine s_bipush dX11_settle_97 (by decide +kernel) ?_
  refine s_lushr dX11_settle_99 ?_
  refine s_lcmp dX11_settle_100 ?_
  exact s_if_ne dX11_settle_101 (by decide) (wX11_settle_130 hZ j hj) (wX11_settle_104 hZ j hj)
noncomputable def vX11_settle_76 (j : Nat → rx_K) : rx_K := o_ast 0 (fun v => v) rx_isI (o_ld rx_isR 0 (o_getf 11 7 (o_ld rx_isI 1 (o_ald 0 (o_c1 rx_lt (vX11_settle_130 j) (vX11_settle_86 j))))))
set_option maxRecDepth 20000 in
theorem wX11_settle_76 (hZ : zO b e D A X) (j : Nat → rx_K) (hj : ∀ k pc, [2, 186][k]? = some pc → rx_OK (zV b e D A X) mX11_settle 2 pc (j k)) : rx_OK (zV b e D A X) mX11_settle 2 76 (vX11_settle_76 j) := by
  unfold vX11_settle_76
  refine s_iast hZ.1 (tt := 0) rfl dX11_settle_76 ?_
  refine s_aload_n hZ.1 dX11_settle_77 rfl ?_
  refine yg11_7 dX11_settle_78 zw1277 ?_
  refine s_iload_n hZ.1 dX11_settle_81 rfl ?_
  refine s_iald (tt := 0) rfl dX11_settle_82 ?_
  exact s_if_lt dX11_settle_83 (by decide) (wX11_settle_130 hZ j hj) (wX11_settle_86 hZ j hj)
noncomputable def vX11_settle_68 (j : Nat → rx_K) : rx_K := o_ld rx_isR 0 (o_ld rx_isR 2 (o_getf 10 9 (o_callV 1 11 FX11_find ((vX11_settle_76 j)))))
set_option maxRecDepth 20000 in
theorem wX11_settle_68 (hZ : zO b e D A X) (j : Nat → rx_K) (hj : ∀ k pc, [2, 186][k]? = some pc → rx_OK (zV b e D A X) mX11_settle 2 pc (j k)) : rx_OK (zV b e D A X) mX11_settle 2 68 (vX11_settle_68 j) := by
  unfold vX11_settle_68
  refine s_aload_n hZ.1 dX11_settle_68 rfl ?_
  refine s_aload_n hZ.1 dX11_settle_69 rfl ?_
  refine yg10_9 dX11_settle_70 zw831 ?_
  refine s_callV hZ.1 (Met_X11_find hZ) (Nat.le_of_ble_eq_true rfl) vy_X11_find zcl11 zw1574 zw1575 (Or.inl zw1573) dX11_settle_73 ?_
  exact (wX11_settle_76 hZ j hj)
noncomputable def vX11_settle_63 (j : Nat → rx_K) : rx_K := o_const 34359738352 ((vX11_settle_76 j))
set_option maxRecDepth 20000 in
theorem wX11_settle_63 (hZ : zO b e D A X) (j : Nat → rx_K) (hj : ∀ k pc, [2, 186][k]? = some pc → rx_OK (zV b e D A X) mX11_settle 2 pc (j k)) : rx_OK (zV b e D A X) mX11_settle 2 63 (vX11_settle_63 j) := by
  unfold vX11_settle_63
  refine s_bipush dX11_settle_63 (by decide +kernel) ?_
  exact s_goto dX11_settle_65 (by decide) (wX11_settle_76 hZ j hj)
noncomputable def vX11_settle_46 (j : Nat → rx_K) : rx_K := o_ast 0 (fun v => v) rx_isI (o_ld rx_isR 0 (o_getf 11 7 (o_ld rx_isI 1 (o_ld rx_isR 2 (o_getf 10 9 (o_const 147573952589676412897 (o_bc (fun x y => lg_cmp x y) (o_c1 rx_eq (vX11_settle_63 j) (vX11_settle_68 j)))))))))
set_option maxRecDepth 20000 in
theorem wX11_settle_46 (hZ : zO b e D A X) (j : Nat → rx_K) (hj : ∀ k pc, [2, 186][k]? = some pc → rx_OK (zV b e D A X) mX11_settle 2 pc (j k)) : rx_OK (zV b e D A X) mX11_settle 2 46 (vX11_settle_46 j) := by
  unfold vX11_settle_46
  refine s_iast hZ.1 (tt := 0) rfl dX11_settle_46 ?_
  refine s_aload_n hZ.1 dX11_settle_47 rfl ?_
  refine yg11_7 dX11_settle_48 zw1277 ?_
  refine s_iload_n hZ.1 dX11_settle_51 rfl ?_
  refine s_aload_n hZ.1 dX11_settle_52 rfl ?_
  refine yg10_9 dX11_settle_53 zw831 ?_
  refine s_ldc2 dX11_settle_56 zw1226 (by decide +kernel) ?_
  refine s_lcmp dX11_settle_59 ?_
  exact s_if_ne dX11_settle_60 (by decide) (wX11_settle_68 hZ j hj) (wX11_settle_63 hZ j hj)
noncomputable def vX11_settle_38 (j : Nat → rx_K) : rx_K := o_ld rx_isR 0 (o_ld rx_isR 2 (o_getf 10 8 (o_callV 1 11 FX11_find ((vX11_settle_46 j)))))
set_option maxRecDepth 20000 in
theorem wX11_settle_38 (hZ : zO b e D A X) (j : Nat → rx_K) (hj : ∀ k pc, [2, 186][k]? = some pc → rx_OK (zV b e D A X) mX11_settle 2 pc (j k)) : rx_OK (zV b e D A X) mX11_settle 2 38 (vX11_settle_38 j) := by
  unfold vX11_settle_38
  refine s_aload_n hZ.1 dX11_settle_38 rfl ?_
  refine s_aload_n hZ.1 dX11_settle_39 rfl ?_
  refine yg10_8 dX11_settle_40 zw821 ?_
  refine s_callV hZ.1 (Met_X11_find hZ) (Nat.le_of_ble_eq_true rfl) vy_X11_find zcl11 zw1574 zw1575 (Or.inl zw1573) dX11_settle_43 ?_
  exact (wX11_settle_46 hZ j hj)
noncomputable def vX11_settle_33 (j : Nat → rx_K) : rx_K := o_const 34359738352 ((vX11_settle_46 j))
set_option maxRecDepth 20000 in
theorem wX11_settle_33 (hZ : zO b e D A X) (j : Nat → rx_K) (hj : ∀ k pc, [2, 186][k]? = some pc → rx_OK (zV b e D A X) mX11_settle 2 pc (j k)) : rx_OK (zV b e D A X) mX11_settle 2 33 (vX11_settle_33 j) := by
  unfold vX11_settle_33
  refine s_bipush dX11_settle_33 (by decide +kernel) ?_
  exact s_goto dX11_settle_35 (by decide) (wX11_settle_46 hZ j hj)
noncomputable def vX11_settle_26 (j : Nat → rx_K) : rx_K := o_ld rx_isR 2 (o_getf 10 4 (o_c1 rx_eq (vX11_settle_38 j) (vX11_settle_33 j)))
set_option maxRecDepth 20000 in
theorem wX11_settle_26 (hZ : zO b e D A X) (j : Nat → rx_K) (hj : ∀ k pc, [2, 186][k]? = some pc → rx_OK (zV b e D A X) mX11_settle 2 pc (j k)) : rx_OK (zV b e D A X) mX11_settle 2 26 (vX11_settle_26 j) := by
  unfold vX11_settle_26
  refine s_aload_n hZ.1 dX11_settle_26 rfl ?_
  refine yg10_4 dX11_settle_27 zw793 ?_
  exact s_if_eq dX11_settle_30 (by decide) (wX11_settle_38 hZ j hj) (wX11_settle_33 hZ j hj)
noncomputable def vX11_settle_10 (j : Nat → rx_K) : rx_K := o_ld rx_isR 0 (o_getf 11 1 (o_ld rx_isI 1 (o_ald 4 (o_st rx_isR 2 (o_ld rx_isR 0 (o_getf 11 3 (o_ld rx_isI 1 (o_ld rx_isI 1 (o_c1 rx_eq (vX11_settle_33 j) (vX11_settle_26 j))))))))))
set_option maxRecDepth 20000 in
theorem wX11_settle_10 (hZ : zO b e D A X) (j : Nat → rx_K) (hj : ∀ k pc, [2, 186][k]? = some pc → rx_OK (zV b e D A X) mX11_settle 2 pc (j k)) : rx_OK (zV b e D A X) mX11_settle 2 10 (vX11_settle_10 j) := by
  unfold vX11_settle_10
  refine s_aload_n hZ.1 dX11_settle_10 rfl ?_
  refine yg11_1 dX11_settle_11 zw1252 ?_
  refine s_iload_n hZ.1 dX11_settle_14 rfl ?_
  refine s_aald (tt := 4) rfl rfl dX11_settle_15 ?_
  refine s_astore_n hZ.1 dX11_settle_16 rfl (Nat.le_of_ble_eq_true rfl) ?_
  refine s_aload_n hZ.1 dX11_settle_17 rfl ?_
  refine yg11_3 dX11_settle_18 zw1262 ?_
  refine s_iload_n hZ.1 dX11_settle_21 rfl ?_
  refine s_iload_n hZ.1 dX11_settle_22 rfl ?_
  exact s_if_eq dX11_settle_23 (by decide) (wX11_settle_33 hZ j hj) (wX11_settle_26 hZ j hj)
noncomputable def vX11_settle_2 (j : Nat → rx_K) : rx_K := o_ld rx_isI 1 (o_ld rx_isR 0 (o_getf 11 2 (o_c2 rx_lt (vX11_settle_10 j) (vX11_settle_302 j))))
set_option maxRecDepth 20000 in
theorem wX11_settle_2 (hZ : zO b e D A X) (j : Nat → rx_K) (hj : ∀ k pc, [2, 186][k]? = some pc → rx_OK (zV b e D A X) mX11_settle 2 pc (j k)) : rx_OK (zV b e D A X) mX11_settle 2 2 (vX11_settle_2 j) := by
  unfold vX11_settle_2
  refine s_iload_n hZ.1 dX11_settle_2 rfl ?_
  refine s_aload_n hZ.1 dX11_settle_3 rfl ?_
  refine yg11_2 dX11_settle_4 zw1260 ?_
  exact s_icmp_ge dX11_settle_7 (by decide) (wX11_settle_302 hZ j hj) (wX11_settle_10 hZ j hj)
noncomputable def vX11_settle_0 (j : Nat → rx_K) : rx_K := o_const 0 (o_st rx_isI 1 ((vX11_settle_2 j)))
set_option maxRecDepth 20000 in
theorem wX11_settle_0 (hZ : zO b e D A X) (j : Nat → rx_K) (hj : ∀ k pc, [2, 186][k]? = some pc → rx_OK (zV b e D A X) mX11_settle 2 pc (j k)) : rx_OK (zV b e D A X) mX11_settle 2 0 (vX11_settle_0 j) := by
  unfold vX11_settle_0
  refine s_iconst dX11_settle_0 (by decide +kernel) ?_
  refine s_istore_n hZ.1 dX11_settle_1 rfl (Nat.le_of_ble_eq_true rfl) ?_
  exact (wX11_settle_2 hZ j hj)
noncomputable def vhX11_settle (j : Nat → rx_K) : List rx_K := [vX11_settle_2 j, vX11_settle_186 j]
theorem vlX11_settle (hZ : zO b e D A X) : ∀ n k pc, [2, 186][k]? = some pc → rx_OK (zV b e D A X) mX11_settle 2 pc (rx_J (vhX11_settle) n k) := rx_loop fun j hj k pc h => by
  match k, h with
  | 0, h =>
    have e9 := Option.some.inj (show some 2 = some pc from h)
    subst e9
    exact wX11_settle_2 hZ j hj
  | 1, h =>
    have e9 := Option.some.inj (show some 186 = some pc from h)
    subst e9
    exact wX11_settle_186 hZ j hj
  | _ + 2, h => exact absurd h (by simp)
noncomputable def FX11_settle : List Nat → rx_H → Option (Nat × rx_H) := rx_ent 5 (vX11_settle_0 (rx_J (vhX11_settle) 4000000000))
theorem Met_X11_settle (hZ : zO b e D A X) : rx_Met (zV b e D A X) 2 yX11_settle mX11_settle (FX11_settle) := rx_entry hZ.1 (wX11_settle_0 hZ _ (vlX11_settle hZ 4000000000)) (by decide +kernel) rfl (fun h => by cases h)
abbrev mX12_allBuilt : rx_M := (RX12, cX12_allBuilt, 3, (some .int), false)
theorem vy_X12_allBuilt : rx_Y (zV b e D A X) yX12_allBuilt mX12_allBuilt 0 := ⟨zw1564, zw413, by decide, by decide +kernel, by decide +kernel, by decide +kernel⟩
noncomputable def vX12_allBuilt_24 (j : Nat → rx_K) : rx_K := o_ld rx_isI 1 (o_ret1 rx_isI)
set_option maxRecDepth 20000 in
theorem wX12_allBuilt_24 (hZ : zO b e D A X) (j : Nat → rx_K) (hj : ∀ k pc, [4][k]? = some pc → rx_OK (zV b e D A X) mX12_allBuilt 0 pc (j k)) : rx_OK (zV b e D A X) mX12_allBuilt 0 24 (vX12_allBuilt_24 j) := by
  unfold vX12_allBuilt_24
  refine s_iload_n hZ.1 dX12_allBuilt_24 rfl ?_
  exact s_iret hZ.1 rfl dX12_allBuilt_25
noncomputable def vX12_allBuilt_9 (j : Nat → rx_K) : rx_K := o_ld rx_isI 1 (o_ld rx_isR 0 (o_getf 12 5 (o_ld rx_isI 2 (o_ald 0 (o_bi (fun x y => x + y) (o_st rx_isI 1 (o_inc 2 (1) ((j 0)))))))))
set_option maxRecDepth 20000 in
theorem wX12_allBuilt_9 (hZ : zO b e D A X) (j : Nat → rx_K) (hj : ∀ k pc, [4][k]? = some pc → rx_OK (zV b e D A X) mX12_allBuilt 0 pc (j k)) : rx_OK (zV b e D A X) mX12_allBuilt 0 9 (vX12_allBuilt_9 j) := by
  unfold vX12_allBuilt_9
  refine s_iload_n hZ.1 dX12_allBuilt_9 rfl ?_
  refine s_aload_n hZ.1 dX12_allBuilt_10 rfl ?_
  refine yg12_5 dX12_allBuilt_11 zw1608 ?_
  refine s_iload_n hZ.1 dX12_allBuilt_14 rfl ?_
  refine s_iald (tt := 0) rfl dX12_allBuilt_15 ?_
  refine s_iadd dX12_allBuilt_16 ?_
  refine s_istore_n hZ.1 dX12_allBuilt_17 rfl (Nat.le_of_ble_eq_true rfl) ?_
  refine s_iinc hZ.1 dX12_allBuilt_18 (Nat.le_of_ble_eq_true rfl) ?_
  exact s_goto dX12_allBuilt_21 (by decide) (hj 0 4 rfl)
noncomputable def vX12_allBuilt_4 (j : Nat → rx_K) : rx_K := o_ld rx_isI 2 (o_const 40 (o_c2 rx_lt (vX12_allBuilt_9 j) (vX12_allBuilt_24 j)))
set_option maxRecDepth 20000 in
theorem wX12_allBuilt_4 (hZ : zO b e D A X) (j : Nat → rx_K) (hj : ∀ k pc, [4][k]? = some pc → rx_OK (zV b e D A X) mX12_allBuilt 0 pc (j k)) : rx_OK (zV b e D A X) mX12_allBuilt 0 4 (vX12_allBuilt_4 j) := by
  unfold vX12_allBuilt_4
  refine s_iload_n hZ.1 dX12_allBuilt_4 rfl ?_
  refine s_iconst dX12_allBuilt_5 (by decide +kernel) ?_
  exact s_icmp_ge dX12_allBuilt_6 (by decide) (wX12_allBuilt_24 hZ j hj) (wX12_allBuilt_9 hZ j hj)
noncomputable def vX12_allBuilt_0 (j : Nat → rx_K) : rx_K := o_const 0 (o_st rx_isI 1 (o_const 0 (o_st rx_isI 2 ((vX12_allBuilt_4 j)))))
set_option maxRecDepth 20000 in
theorem wX12_allBuilt_0 (hZ : zO b e D A X) (j : Nat → rx_K) (hj : ∀ k pc, [4][k]? = some pc → rx_OK (zV b e D A X) mX12_allBuilt 0 pc (j k)) : rx_OK (zV b e D A X) mX12_allBuilt 0 0 (vX12_allBuilt_0 j) := by
  unfold vX12_allBuilt_0
  refine s_iconst dX12_allBuilt_0 (by decide +kernel) ?_
  refine s_istore_n hZ.1 dX12_allBuilt_1 rfl (Nat.le_of_ble_eq_true rfl) ?_
  refine s_iconst dX12_allBuilt_2 (by decide +kernel) ?_
  refine s_istore_n hZ.1 dX12_allBuilt_3 rfl (Nat.le_of_ble_eq_true rfl) ?_
  exact (wX12_allBuilt_4 hZ j hj)
noncomputable def vhX12_allBuilt (j : Nat → rx_K) : List rx_K := [vX12_allBuilt_4 j]
theorem vlX12_allBuilt (hZ : zO b e D A X) : ∀ n k pc, [4][k]? = some pc → rx_OK (zV b e D A X) mX12_allBuilt 0 pc (rx_J (vhX12_allBuilt) n k) := rx_loop fun j hj k pc h => by
  match k, h with
  | 0, h =>
    have e9 := Option.some.inj (show some 4 = some pc from h)
    subst e9
    exact wX12_allBuilt_4 hZ j hj
  | _ + 1, h => exact absurd h (by simp)
noncomputable def FX12_allBuilt : List Nat → rx_H → Option (Nat × rx_H) := rx_ent 3 (vX12_allBuilt_0 (rx_J (vhX12_allBuilt) 4000000000))
theorem Met_X12_allBuilt (hZ : zO b e D A X) : rx_Met (zV b e D A X) 0 yX12_allBuilt mX12_allBuilt (FX12_allBuilt) := rx_entry hZ.1 (wX12_allBuilt_0 hZ _ (vlX12_allBuilt hZ 4000000000)) (by decide +kernel) rfl (fun h => by cases h)
abbrev mX12_buildOf : rx_M := (RX12, cX12_buildOf, 5, (some (.object "LinkHouse$Build")), false)
theorem vy_X12_buildOf : rx_Y (zV b e D A X) yX12_buildOf mX12_buildOf 2 := ⟨zw1560, zw413, by decide, by decide +kernel, by decide +kernel, by decide +kernel⟩
noncomputable def vX12_buildOf_56 (j : Nat → rx_K) : rx_K := o_const 3 (o_ret1 rx_isR)
set_option maxRecDepth 20000 in
theorem wX12_buildOf_56 (hZ : zO b e D A X) (j : Nat → rx_K) (hj : ∀ k pc, [8][k]? = some pc → rx_OK (zV b e D A X) mX12_buildOf 1 pc (j k)) : rx_OK (zV b e D A X) mX12_buildOf 1 56 (vX12_buildOf_56 j) := by
  unfold vX12_buildOf_56
  refine s_null dX12_buildOf_56 ?_
  exact s_aret hZ.1 rfl (Or.inl ⟨_, rfl⟩) dX12_buildOf_57
noncomputable def vX12_buildOf_50 (j : Nat → rx_K) : rx_K := o_inc 4 (1) ((j 0))
set_option maxRecDepth 20000 in
theorem wX12_buildOf_50 (hZ : zO b e D A X) (j : Nat → rx_K) (hj : ∀ k pc, [8][k]? = some pc → rx_OK (zV b e D A X) mX12_buildOf 1 pc (j k)) : rx_OK (zV b e D A X) mX12_buildOf 1 50 (vX12_buildOf_50 j) := by
  unfold vX12_buildOf_50
  refine s_iinc hZ.1 dX12_buildOf_50 (Nat.le_of_ble_eq_true rfl) ?_
  exact s_goto dX12_buildOf_53 (by decide) (hj 0 8 rfl)
noncomputable def vX12_buildOf_42 (j : Nat → rx_K) : rx_K := o_ld rx_isR 0 (o_getf 12 4 (o_ld rx_isI 4 (o_ald 6 (o_ret1 rx_isR))))
set_option maxRecDepth 20000 in
theorem wX12_buildOf_42 (hZ : zO b e D A X) (j : Nat → rx_K) (hj : ∀ k pc, [8][k]? = some pc → rx_OK (zV b e D A X) mX12_buildOf 1 pc (j k)) : rx_OK (zV b e D A X) mX12_buildOf 1 42 (vX12_buildOf_42 j) := by
  unfold vX12_buildOf_42
  refine s_aload_n hZ.1 dX12_buildOf_42 rfl ?_
  refine yg12_4 dX12_buildOf_43 zw1607 ?_
  refine s_iload hZ.1 dX12_buildOf_46 ?_
  refine s_aald (tt := 6) rfl rfl dX12_buildOf_48 ?_
  exact s_aret hZ.1 rfl (Or.inl ⟨_, rfl⟩) dX12_buildOf_49
noncomputable def vX12_buildOf_28 (j : Nat → rx_K) : rx_K := o_ld rx_isR 0 (o_getf 12 4 (o_ld rx_isI 4 (o_ald 6 (o_getf 1 1 (o_ld rx_isI 2 (o_c2 rx_eq (vX12_buildOf_42 j) (vX12_buildOf_50 j)))))))
set_option maxRecDepth 20000 in
theorem wX12_buildOf_28 (hZ : zO b e D A X) (j : Nat → rx_K) (hj : ∀ k pc, [8][k]? = some pc → rx_OK (zV b e D A X) mX12_buildOf 1 pc (j k)) : rx_OK (zV b e D A X) mX12_buildOf 1 28 (vX12_buildOf_28 j) := by
  unfold vX12_buildOf_28
  refine s_aload_n hZ.1 dX12_buildOf_28 rfl ?_
  refine yg12_4 dX12_buildOf_29 zw1607 ?_
  refine s_iload hZ.1 dX12_buildOf_32 ?_
  refine s_aald (tt := 6) rfl rfl dX12_buildOf_34 ?_
  refine yg1_1 dX12_buildOf_35 zw1112 ?_
  refine s_iload_n hZ.1 dX12_buildOf_38 rfl ?_
  exact s_icmp_ne dX12_buildOf_39 (by decide) (wX12_buildOf_50 hZ j hj) (wX12_buildOf_42 hZ j hj)
noncomputable def vX12_buildOf_14 (j : Nat → rx_K) : rx_K := o_ld rx_isR 0 (o_getf 12 4 (o_ld rx_isI 4 (o_ald 6 (o_getf 1 0 (o_ld rx_isI 1 (o_c2 rx_eq (vX12_buildOf_28 j) (vX12_buildOf_50 j)))))))
set_option maxRecDepth 20000 in
theorem wX12_buildOf_14 (hZ : zO b e D A X) (j : Nat → rx_K) (hj : ∀ k pc, [8][k]? = some pc → rx_OK (zV b e D A X) mX12_buildOf 1 pc (j k)) : rx_OK (zV b e D A X) mX12_buildOf 1 14 (vX12_buildOf_14 j) := by
  unfold vX12_buildOf_14
  refine s_aload_n hZ.1 dX12_buildOf_14 rfl ?_
  refine yg12_4 dX12_buildOf_15 zw1607 ?_
  refine s_iload hZ.1 dX12_buildOf_18 ?_
  refine s_aald (tt := 6) rfl rfl dX12_buildOf_20 ?_
  refine yg1_0 dX12_buildOf_21 zw1111 ?_
  refine s_iload_n hZ.1 dX12_buildOf_24 rfl ?_
  exact s_icmp_ne dX12_buildOf_25 (by decide) (wX12_buildOf_50 hZ j hj) (wX12_buildOf_28 hZ j hj)
noncomputable def vX12_buildOf_8 (j : Nat → rx_K) : rx_K := o_ld rx_isI 4 (o_ld rx_isI 3 (o_c2 rx_lt (vX12_buildOf_14 j) (vX12_buildOf_56 j)))
set_option maxRecDepth 20000 in
theorem wX12_buildOf_8 (hZ : zO b e D A X) (j : Nat → rx_K) (hj : ∀ k pc, [8][k]? = some pc → rx_OK (zV b e D A X) mX12_buildOf 1 pc (j k)) : rx_OK (zV b e D A X) mX12_buildOf 1 8 (vX12_buildOf_8 j) := by
  unfold vX12_buildOf_8
  refine s_iload hZ.1 dX12_buildOf_8 ?_
  refine s_iload_n hZ.1 dX12_buildOf_10 rfl ?_
  exact s_icmp_ge dX12_buildOf_11 (by decide) (wX12_buildOf_56 hZ j hj) (wX12_buildOf_14 hZ j hj)
noncomputable def vX12_buildOf_0 (j : Nat → rx_K) : rx_K := o_ld rx_isR 0 (o_callV 0 12 FX12_allBuilt (o_st rx_isI 3 (o_const 0 (o_st rx_isI 4 ((vX12_buildOf_8 j))))))
set_option maxRecDepth 20000 in
theorem wX12_buildOf_0 (hZ : zO b e D A X) (j : Nat → rx_K) (hj : ∀ k pc, [8][k]? = some pc → rx_OK (zV b e D A X) mX12_buildOf 1 pc (j k)) : rx_OK (zV b e D A X) mX12_buildOf 1 0 (vX12_buildOf_0 j) := by
  unfold vX12_buildOf_0
  refine s_aload_n hZ.1 dX12_buildOf_0 rfl ?_
  refine s_callV hZ.1 (Met_X12_allBuilt hZ) (Nat.le_of_ble_eq_true rfl) vy_X12_allBuilt zcl12 zw1563 zw2 (Or.inl zw1561) dX12_buildOf_1 ?_
  refine s_istore_n hZ.1 dX12_buildOf_4 rfl (Nat.le_of_ble_eq_true rfl) ?_
  refine s_iconst dX12_buildOf_5 (by decide +kernel) ?_
  refine s_istore hZ.1 dX12_buildOf_6 (Nat.le_of_ble_eq_true rfl) ?_
  exact (wX12_buildOf_8 hZ j hj)
noncomputable def vhX12_buildOf (j : Nat → rx_K) : List rx_K := [vX12_buildOf_8 j]
theorem vlX12_buildOf (hZ : zO b e D A X) : ∀ n k pc, [8][k]? = some pc → rx_OK (zV b e D A X) mX12_buildOf 1 pc (rx_J (vhX12_buildOf) n k) := rx_loop fun j hj k pc h => by
  match k, h with
  | 0, h =>
    have e9 := Option.some.inj (show some 8 = some pc from h)
    subst e9
    exact wX12_buildOf_8 hZ j hj
  | _ + 1, h => exact absurd h (by simp)
noncomputable def FX12_buildOf : List Nat → rx_H → Option (Nat × rx_H) := rx_ent 5 (vX12_buildOf_0 (rx_J (vhX12_buildOf) 4000000000))
theorem Met_X12_buildOf (hZ : zO b e D A X) : rx_Met (zV b e D A X) 1 yX12_buildOf mX12_buildOf (FX12_buildOf) := rx_entry hZ.1 (wX12_buildOf_0 hZ _ (vlX12_buildOf hZ 4000000000)) (by decide +kernel) rfl (fun h => by cases h)
abbrev mX12_gather : rx_M := (RX12, cX12_gather, 4, none, false)
theorem vy_X12_gather : rx_Y (zV b e D A X) yX12_gather mX12_gather 2 := ⟨zw1552, zw413, by decide, by decide +kernel, by decide +kernel, by decide +kernel⟩
noncomputable def vX12_gather_29 (j : Nat → rx_K) : rx_K := o_ld rx_isR 1 (o_callV 0 11 FX11_settle (o_ret0))
set_option maxRecDepth 20000 in
theorem wX12_gather_29 (hZ : zO b e D A X) (j : Nat → rx_K) (hj : ∀ k pc, [6][k]? = some pc → rx_OK (zV b e D A X) mX12_gather 3 pc (j k)) : rx_OK (zV b e D A X) mX12_gather 3 29 (vX12_gather_29 j) := by
  unfold vX12_gather_29
  refine s_aload_n hZ.1 dX12_gather_29 rfl ?_
  refine s_callV hZ.1 (Met_X11_settle hZ) (Nat.le_of_ble_eq_true rfl) vy_X11_settle zcl11 zw1570 zw1571 (Or.inl zw1569) dX12_gather_30 ?_
  exact s_vret rfl dX12_gather_33
noncomputable def vX12_gather_11 (j : Nat → rx_K) : rx_K := o_ld rx_isR 1 (o_ld rx_isR 0 (o_ld rx_isI 3 (o_ld rx_isR 2 (o_ld rx_isI 3 (o_ald 0 (o_callV 2 12 FX12_buildOf (o_callV 1 11 FX11_enter (o_inc 3 (1) ((j 0))))))))))
set_option maxRecDepth 20000 in
theorem wX12_gather_11 (hZ : zO b e D A X) (j : Nat → rx_K) (hj : ∀ k pc, [6][k]? = some pc → rx_OK (zV b e D A X) mX12_gather 3 pc (j k)) : rx_OK (zV b e D A X) mX12_gather 3 11 (vX12_gather_11 j) := by
  unfold vX12_gather_11
  refine s_aload_n hZ.1 dX12_gather_11 rfl ?_
  refine s_aload_n hZ.1 dX12_gather_12 rfl ?_
  refine s_iload_n hZ.1 dX12_gather_13 rfl ?_
  refine s_aload_n hZ.1 dX12_gather_14 rfl ?_
  refine s_iload_n hZ.1 dX12_gather_15 rfl ?_
  refine s_iald (tt := 0) rfl dX12_gather_16 ?_
  refine s_callV hZ.1 (Met_X12_buildOf hZ) (Nat.le_of_ble_eq_true rfl) vy_X12_buildOf zcl12 zw1559 zw1 (Or.inl zw1557) dX12_gather_17 ?_
  refine s_callV hZ.1 (Met_X11_enter hZ) (Nat.le_of_ble_eq_true rfl) vy_X11_enter zcl11 zw1566 zw1567 (Or.inl zw1565) dX12_gather_20 ?_
  refine s_iinc hZ.1 dX12_gather_23 (Nat.le_of_ble_eq_true rfl) ?_
  exact s_goto dX12_gather_26 (by decide) (hj 0 6 rfl)
noncomputable def vX12_gather_6 (j : Nat → rx_K) : rx_K := o_ld rx_isI 3 (o_const 40 (o_c2 rx_lt (vX12_gather_11 j) (vX12_gather_29 j)))
set_option maxRecDepth 20000 in
theorem wX12_gather_6 (hZ : zO b e D A X) (j : Nat → rx_K) (hj : ∀ k pc, [6][k]? = some pc → rx_OK (zV b e D A X) mX12_gather 3 pc (j k)) : rx_OK (zV b e D A X) mX12_gather 3 6 (vX12_gather_6 j) := by
  unfold vX12_gather_6
  refine s_iload_n hZ.1 dX12_gather_6 rfl ?_
  refine s_iconst dX12_gather_7 (by decide +kernel) ?_
  exact s_icmp_ge dX12_gather_8 (by decide) (wX12_gather_29 hZ j hj) (wX12_gather_11 hZ j hj)
noncomputable def vX12_gather_0 (j : Nat → rx_K) : rx_K := o_ld rx_isR 1 (o_callV 0 11 FX11_clear (o_const 0 (o_st rx_isI 3 ((vX12_gather_6 j)))))
set_option maxRecDepth 20000 in
theorem wX12_gather_0 (hZ : zO b e D A X) (j : Nat → rx_K) (hj : ∀ k pc, [6][k]? = some pc → rx_OK (zV b e D A X) mX12_gather 3 pc (j k)) : rx_OK (zV b e D A X) mX12_gather 3 0 (vX12_gather_0 j) := by
  unfold vX12_gather_0
  refine s_aload_n hZ.1 dX12_gather_0 rfl ?_
  refine s_callV hZ.1 (Met_X11_clear hZ) (Nat.le_of_ble_eq_true rfl) vy_X11_clear zcl11 zw1554 zw1555 (Or.inl zw1553) dX12_gather_1 ?_
  refine s_iconst dX12_gather_4 (by decide +kernel) ?_
  refine s_istore_n hZ.1 dX12_gather_5 rfl (Nat.le_of_ble_eq_true rfl) ?_
  exact (wX12_gather_6 hZ j hj)
noncomputable def vhX12_gather (j : Nat → rx_K) : List rx_K := [vX12_gather_6 j]
theorem vlX12_gather (hZ : zO b e D A X) : ∀ n k pc, [6][k]? = some pc → rx_OK (zV b e D A X) mX12_gather 3 pc (rx_J (vhX12_gather) n k) := rx_loop fun j hj k pc h => by
  match k, h with
  | 0, h =>
    have e9 := Option.some.inj (show some 6 = some pc from h)
    subst e9
    exact wX12_gather_6 hZ j hj
  | _ + 1, h => exact absurd h (by simp)
noncomputable def FX12_gather : List Nat → rx_H → Option (Nat × rx_H) := rx_ent 4 (vX12_gather_0 (rx_J (vhX12_gather) 4000000000))
theorem Met_X12_gather (hZ : zO b e D A X) : rx_Met (zV b e D A X) 3 yX12_gather mX12_gather (FX12_gather) := rx_entry hZ.1 (wX12_gather_0 hZ _ (vlX12_gather hZ 4000000000)) (by decide +kernel) rfl (fun h => by cases h)
abbrev mX12_init : rx_M := (RX12, cX12_init, 2, none, true)
theorem vy_X12_init : rx_Y (zV b e D A X) yX12_init mX12_init 0 := ⟨zw438, zw413, by decide, by decide +kernel, by decide +kernel, by decide +kernel⟩
noncomputable def vX12_init_226 (j : Nat → rx_K) : rx_K := o_ld rx_isR 0 (o_getf 12 6 (o_const 34359738352 (o_callS 2 FJ7_fill_53178 (o_ld rx_isR 0 (o_ld rx_isR 0 (o_getf 12 13 (o_ld rx_isR 0 (o_getf 12 6 (o_callV 2 12 FX12_gather (o_ld rx_isR 0 (o_getf 12 20 (o_ld rx_isR 0 (o_getf 12 13 (o_callV 1 6 FX6_clear (o_ret0)))))))))))))))
set_option maxRecDepth 20000 in
theorem wX12_init_226 (hZ : zO b e D A X) (j : Nat → rx_K) (hj : ∀ k pc, [181][k]? = some pc → rx_OK (zV b e D A X) mX12_init 5 pc (j k)) : rx_OK (zV b e D A X) mX12_init 5 226 (vX12_init_226 j) := by
  unfold vX12_init_226
  refine s_aload_n hZ.1 dX12_init_226 rfl ?_
  refine yg12_6 dX12_init_227 zw1609 ?_
  refine s_bipush dX12_init_230 (by decide +kernel) ?_
  refine s_callS hZ.1 (Met_J7_fill_53178 hZ) (Nat.le_of_ble_eq_true rfl) vy_J7_fill_53178 zw1223 (Or.inl zw1548) dX12_init_232 ?_
  refine s_aload_n hZ.1 dX12_init_235 rfl ?_
  refine s_aload_n hZ.1 dX12_init_236 rfl ?_
  refine yg12_13 dX12_init_237 zw1616 ?_
  refine s_aload_n hZ.1 dX12_init_240 rfl ?_
  refine yg12_6 dX12_init_241 zw1609 ?_
  refine s_callV hZ.1 (Met_X12_gather hZ) (Nat.le_of_ble_eq_true rfl) vy_X12_gather zcl12 zw1551 zw0 (Or.inl zw1549) dX12_init_244 ?_
  refine s_aload_n hZ.1 dX12_init_247 rfl ?_
  refine yg12_20 dX12_init_248 zw1623 ?_
  refine s_aload_n hZ.1 dX12_init_251 rfl ?_
  refine yg12_13 dX12_init_252 zw1616 ?_
  refine s_callV hZ.1 (Met_X6_clear hZ) (Nat.le_of_ble_eq_true rfl) vy_X6_clear zcl6 zw1594 zw1595 (Or.inl zw1593) dX12_init_255 ?_
  exact s_vret rfl dX12_init_258
noncomputable def vX12_init_190 (j : Nat → rx_K) : rx_K := o_ld rx_isR 0 (o_getf 12 4 (o_ld rx_isI 1 (o_new 1 18 zfs1 (o_dup (o_const 96 (o_const 3264 (o_const 32000 (o_const 5600 (o_const 7904 (o_const 38528 (o_callI 6 FX1_init (o_aast 6 [1] (o_inc 1 (1) ((j 0)))))))))))))))
set_option maxRecDepth 20000 in
theorem wX12_init_190 (hZ : zO b e D A X) (j : Nat → rx_K) (hj : ∀ k pc, [181][k]? = some pc → rx_OK (zV b e D A X) mX12_init 5 pc (j k)) : rx_OK (zV b e D A X) mX12_init 5 190 (vX12_init_190 j) := by
  unfold vX12_init_190
  refine s_aload_n hZ.1 dX12_init_190 rfl ?_
  refine yg12_4 dX12_init_191 zw1607 ?_
  refine s_iload_n hZ.1 dX12_init_194 rfl ?_
  refine s_new zcl1 zfk1 dX12_init_195 zw442 zw753 zw424 ?_
  refine s_dup hZ.1 dX12_init_198 ?_
  refine s_bipush dX12_init_199 (by decide +kernel) ?_
  refine s_sipush dX12_init_201 (by decide +kernel) ?_
  refine s_sipush dX12_init_204 (by decide +kernel) ?_
  refine s_sipush dX12_init_207 (by decide +kernel) ?_
  refine s_sipush dX12_init_210 (by decide +kernel) ?_
  refine s_sipush dX12_init_213 (by decide +kernel) ?_
  refine s_callI hZ.1 (Met_X1_init hZ) (Nat.le_of_ble_eq_true rfl) vy_X1_init rfl rfl zw755 (Or.inl zw1547) dX12_init_216 ?_
  refine s_aast (tt := 6) rfl zaa1 dX12_init_219 ?_
  refine s_iinc hZ.1 dX12_init_220 (Nat.le_of_ble_eq_true rfl) ?_
  exact s_goto dX12_init_223 (by decide) (hj 0 181 rfl)
noncomputable def vX12_init_181 (j : Nat → rx_K) : rx_K := o_ld rx_isI 1 (o_ld rx_isR 0 (o_getf 12 4 (o_alen 6 (o_c2 rx_lt (vX12_init_190 j) (vX12_init_226 j)))))
set_option maxRecDepth 20000 in
theorem wX12_init_181 (hZ : zO b e D A X) (j : Nat → rx_K) (hj : ∀ k pc, [181][k]? = some pc → rx_OK (zV b e D A X) mX12_init 5 pc (j k)) : rx_OK (zV b e D A X) mX12_init 5 181 (vX12_init_181 j) := by
  unfold vX12_init_181
  refine s_iload_n hZ.1 dX12_init_181 rfl ?_
  refine s_aload_n hZ.1 dX12_init_182 rfl ?_
  refine yg12_4 dX12_init_183 zw1607 ?_
  refine s_alen (tt := 6) rfl dX12_init_186 ?_
  exact s_icmp_ge dX12_init_187 (by decide) (wX12_init_226 hZ j hj) (wX12_init_190 hZ j hj)
noncomputable def vX12_init_149 (j : Nat → rx_K) : rx_K := o_const 118560 (o_newa 0 0 (o_putf rx_isR 12 17 (o_ld rx_isR 0 (o_new 2 10 zfs2 (o_dup (o_callI 0 FX2_init (o_putf rx_isR 12 19 (o_ld rx_isR 0 (o_new 6 20 zfs6 (o_dup (o_callI 0 FX6_init (o_putf rx_isR 12 20 (o_const 0 (o_st rx_isI 1 ((vX12_init_181 j))))))))))))))))
set_option maxRecDepth 20000 in
theorem wX12_init_149 (hZ : zO b e D A X) (j : Nat → rx_K) (hj : ∀ k pc, [181][k]? = some pc → rx_OK (zV b e D A X) mX12_init 5 pc (j k)) : rx_OK (zV b e D A X) mX12_init 5 149 (vX12_init_149 j) := by
  unfold vX12_init_149
  refine s_sipush dX12_init_149 (by decide +kernel) ?_
  refine s_newa (tt := 0) (ty := .int) rfl rfl rfl rfl rfl (by decide) zw527 dX12_init_152 ?_
  refine yp12_17 hZ.1 rfl rfl dX12_init_154 zw1620 ?_
  refine s_aload_n hZ.1 dX12_init_157 rfl ?_
  refine s_new zcl2 zfk2 dX12_init_158 zw1423 zw1424 zw429 ?_
  refine s_dup hZ.1 dX12_init_161 ?_
  refine s_callI hZ.1 (Met_X2_init hZ) (Nat.le_of_ble_eq_true rfl) vy_X2_init rfl rfl zw1426 (Or.inr ⟨_, zo_N1425 hZ⟩) dX12_init_162 ?_
  refine yp12_19 hZ.1 rfl rfl dX12_init_165 zw1622 ?_
  refine s_aload_n hZ.1 dX12_init_168 rfl ?_
  refine s_new zcl6 zfk6 dX12_init_169 zw1463 zw1464 zw430 ?_
  refine s_dup hZ.1 dX12_init_172 ?_
  refine s_callI hZ.1 (Met_X6_init hZ) (Nat.le_of_ble_eq_true rfl) vy_X6_init rfl rfl zw1466 (Or.inr ⟨_, zo_N1465 hZ⟩) dX12_init_173 ?_
  refine yp12_20 hZ.1 rfl rfl dX12_init_176 zw1623 ?_
  refine s_iconst dX12_init_179 (by decide +kernel) ?_
  refine s_istore_n hZ.1 dX12_init_180 rfl (Nat.le_of_ble_eq_true rfl) ?_
  exact (wX12_init_181 hZ j hj)
noncomputable def vX12_init_99 (j : Nat → rx_K) : rx_K := o_putf rx_isI 12 12 (o_ld rx_isR 0 (o_new 11 20 zfs11 (o_dup (o_callI 0 FX11_init (o_putf rx_isR 12 13 (o_ld rx_isR 0 (o_new 11 20 zfs11 (o_dup (o_callI 0 FX11_init (o_putf rx_isR 12 14 (o_ld rx_isR 0 (o_new 5 20 zfs5 (o_dup (o_const 0 (o_callI 1 FX5_init (o_putf rx_isR 12 15 (o_ld rx_isR 0 (o_new 5 20 zfs5 (o_dup (o_const 0 (o_callI 1 FX5_init (o_putf rx_isR 12 16 (o_ld rx_isR 0 ((vX12_init_149 j)))))))))))))))))))))))))
set_option maxRecDepth 20000 in
theorem wX12_init_99 (hZ : zO b e D A X) (j : Nat → rx_K) (hj : ∀ k pc, [181][k]? = some pc → rx_OK (zV b e D A X) mX12_init 5 pc (j k)) : rx_OK (zV b e D A X) mX12_init 5 99 (vX12_init_99 j) := by
  unfold vX12_init_99
  refine yp12_12 hZ.1 dX12_init_99 zw1615 ?_
  refine s_aload_n hZ.1 dX12_init_102 rfl ?_
  refine s_new zcl11 zfk11 dX12_init_103 zw743 zw744 zw423 ?_
  refine s_dup hZ.1 dX12_init_106 ?_
  refine s_callI hZ.1 (Met_X11_init hZ) (Nat.le_of_ble_eq_true rfl) vy_X11_init rfl rfl zw746 (Or.inl zw745) dX12_init_107 ?_
  refine yp12_13 hZ.1 rfl rfl dX12_init_110 zw1616 ?_
  refine s_aload_n hZ.1 dX12_init_113 rfl ?_
  refine s_new zcl11 zfk11 dX12_init_114 zw743 zw744 zw423 ?_
  refine s_dup hZ.1 dX12_init_117 ?_
  refine s_callI hZ.1 (Met_X11_init hZ) (Nat.le_of_ble_eq_true rfl) vy_X11_init rfl rfl zw746 (Or.inl zw745) dX12_init_118 ?_
  refine yp12_14 hZ.1 rfl rfl dX12_init_121 zw1617 ?_
  refine s_aload_n hZ.1 dX12_init_124 rfl ?_
  refine s_new zcl5 zfk5 dX12_init_125 zw1343 zw1344 zw428 ?_
  refine s_dup hZ.1 dX12_init_128 ?_
  refine s_iconst dX12_init_129 (by decide +kernel) ?_
  refine s_callI hZ.1 (Met_X5_init hZ) (Nat.le_of_ble_eq_true rfl) vy_X5_init rfl rfl zw1346 (Or.inl zw1345) dX12_init_130 ?_
  refine yp12_15 hZ.1 rfl rfl dX12_init_133 zw1618 ?_
  refine s_aload_n hZ.1 dX12_init_136 rfl ?_
  refine s_new zcl5 zfk5 dX12_init_137 zw1343 zw1344 zw428 ?_
  refine s_dup hZ.1 dX12_init_140 ?_
  refine s_iconst dX12_init_141 (by decide +kernel) ?_
  refine s_callI hZ.1 (Met_X5_init hZ) (Nat.le_of_ble_eq_true rfl) vy_X5_init rfl rfl zw1346 (Or.inl zw1345) dX12_init_142 ?_
  refine yp12_16 hZ.1 rfl rfl dX12_init_145 zw1619 ?_
  refine s_aload_n hZ.1 dX12_init_148 rfl ?_
  exact (wX12_init_149 hZ j hj)
noncomputable def vX12_init_47 (j : Nat → rx_K) : rx_K := o_newa 0 0 (o_putf rx_isR 12 7 (o_ld rx_isR 0 (o_new 9 15 zfs9 (o_dup (o_callI 0 FX9_init (o_putf rx_isR 12 8 (o_ld rx_isR 0 (o_new 4 4 zfs4 (o_dup (o_callI 0 FX4_init (o_putf rx_isR 12 9 (o_ld rx_isR 0 (o_new 0 17 zfs0 (o_dup (o_callI 0 FX0_init (o_putf rx_isR 12 10 (o_ld rx_isR 0 (o_new 3 7 zfs3 (o_dup (o_callI 0 FX3_init (o_putf rx_isR 12 11 (o_ld rx_isR 0 (o_const 34359738352 ((vX12_init_99 j)))))))))))))))))))))))))
set_option maxRecDepth 20000 in
theorem wX12_init_47 (hZ : zO b e D A X) (j : Nat → rx_K) (hj : ∀ k pc, [181][k]? = some pc → rx_OK (zV b e D A X) mX12_init 5 pc (j k)) : rx_OK (zV b e D A X) mX12_init 5 47 (vX12_init_47 j) := by
  unfold vX12_init_47
  refine s_newa (tt := 0) (ty := .int) rfl rfl rfl rfl rfl (by decide) zw527 dX12_init_47 ?_
  refine yp12_7 hZ.1 rfl rfl dX12_init_49 zw1610 ?_
  refine s_aload_n hZ.1 dX12_init_52 rfl ?_
  refine s_new zcl9 zfk9 dX12_init_53 zw444 zw445 zw414 ?_
  refine s_dup hZ.1 dX12_init_56 ?_
  refine s_callI hZ.1 (Met_X9_init hZ) (Nat.le_of_ble_eq_true rfl) vy_X9_init rfl rfl zw447 (Or.inl zw446) dX12_init_57 ?_
  refine yp12_8 hZ.1 rfl rfl dX12_init_60 zw1611 ?_
  refine s_aload_n hZ.1 dX12_init_63 rfl ?_
  refine s_new zcl4 zfk4 dX12_init_64 zw632 zw633 zw420 ?_
  refine s_dup hZ.1 dX12_init_67 ?_
  refine s_callI hZ.1 (Met_X4_init hZ) (Nat.le_of_ble_eq_true rfl) vy_X4_init rfl rfl zw635 (Or.inr ⟨_, zo_N634 hZ⟩) dX12_init_68 ?_
  refine yp12_9 hZ.1 rfl rfl dX12_init_71 zw1612 ?_
  refine s_aload_n hZ.1 dX12_init_74 rfl ?_
  refine s_new zcl0 zfk0 dX12_init_75 zw653 zw654 zw421 ?_
  refine s_dup hZ.1 dX12_init_78 ?_
  refine s_callI hZ.1 (Met_X0_init hZ) (Nat.le_of_ble_eq_true rfl) vy_X0_init rfl rfl zw656 (Or.inr ⟨_, zo_N655 hZ⟩) dX12_init_79 ?_
  refine yp12_10 hZ.1 rfl rfl dX12_init_82 zw1613 ?_
  refine s_aload_n hZ.1 dX12_init_85 rfl ?_
  refine s_new zcl3 zfk3 dX12_init_86 zw715 zw716 zw422 ?_
  refine s_dup hZ.1 dX12_init_89 ?_
  refine s_callI hZ.1 (Met_X3_init hZ) (Nat.le_of_ble_eq_true rfl) vy_X3_init rfl rfl zw718 (Or.inr ⟨_, zo_N717 hZ⟩) dX12_init_90 ?_
  refine yp12_11 hZ.1 rfl rfl dX12_init_93 zw1614 ?_
  refine s_aload_n hZ.1 dX12_init_96 rfl ?_
  refine s_bipush dX12_init_97 (by decide +kernel) ?_
  exact (wX12_init_99 hZ j hj)
noncomputable def vX12_init_0 (j : Nat → rx_K) : rx_K := o_ld rx_isR 0 (o_obj (o_ld rx_isR 0 (o_const 32000 (o_newa 2 0 (o_putf rx_isR 12 0 (o_ld rx_isR 0 (o_const 4800 (o_newa 2 0 (o_putf rx_isR 12 2 (o_ld rx_isR 0 (o_const 136 (o_newa 6 3 (o_putf rx_isR 12 4 (o_ld rx_isR 0 (o_const 40 (o_newa 0 0 (o_putf rx_isR 12 5 (o_ld rx_isR 0 (o_const 40 (o_newa 0 0 (o_putf rx_isR 12 6 (o_ld rx_isR 0 (o_const 40 ((vX12_init_47 j)))))))))))))))))))))))))
set_option maxRecDepth 20000 in
theorem wX12_init_0 (hZ : zO b e D A X) (j : Nat → rx_K) (hj : ∀ k pc, [181][k]? = some pc → rx_OK (zV b e D A X) mX12_init 5 pc (j k)) : rx_OK (zV b e D A X) mX12_init 5 0 (vX12_init_0 j) := by
  unfold vX12_init_0
  refine s_aload_n hZ.1 dX12_init_0 rfl ?_
  refine s_obj hZ.1 (Nat.le_of_ble_eq_true rfl) zw439 zw440 zw441 dX12_init_1 ?_
  refine s_aload_n hZ.1 dX12_init_4 rfl ?_
  refine s_sipush dX12_init_5 (by decide +kernel) ?_
  refine s_newa (tt := 2) (ty := .byte) rfl rfl rfl rfl rfl (by decide) zw526 dX12_init_8 ?_
  refine yp12_0 hZ.1 rfl rfl dX12_init_10 zw1603 ?_
  refine s_aload_n hZ.1 dX12_init_13 rfl ?_
  refine s_sipush dX12_init_14 (by decide +kernel) ?_
  refine s_newa (tt := 2) (ty := .byte) rfl rfl rfl rfl rfl (by decide) zw526 dX12_init_17 ?_
  refine yp12_2 hZ.1 rfl rfl dX12_init_19 zw1605 ?_
  refine s_aload_n hZ.1 dX12_init_22 rfl ?_
  refine s_bipush dX12_init_23 (by decide +kernel) ?_
  refine s_anewa (tt := 6) rfl zw442 (zo_W6 hZ) dX12_init_25 ?_
  refine yp12_4 hZ.1 rfl rfl dX12_init_28 zw1607 ?_
  refine s_aload_n hZ.1 dX12_init_31 rfl ?_
  refine s_iconst dX12_init_32 (by decide +kernel) ?_
  refine s_newa (tt := 0) (ty := .int) rfl rfl rfl rfl rfl (by decide) zw527 dX12_init_33 ?_
  refine yp12_5 hZ.1 rfl rfl dX12_init_35 zw1608 ?_
  refine s_aload_n hZ.1 dX12_init_38 rfl ?_
  refine s_iconst dX12_init_39 (by decide +kernel) ?_
  refine s_newa (tt := 0) (ty := .int) rfl rfl rfl rfl rfl (by decide) zw527 dX12_init_40 ?_
  refine yp12_6 hZ.1 rfl rfl dX12_init_42 zw1609 ?_
  refine s_aload_n hZ.1 dX12_init_45 rfl ?_
  refine s_iconst dX12_init_46 (by decide +kernel) ?_
  exact (wX12_init_47 hZ j hj)
noncomputable def vhX12_init (j : Nat → rx_K) : List rx_K := [vX12_init_181 j]
theorem vlX12_init (hZ : zO b e D A X) : ∀ n k pc, [181][k]? = some pc → rx_OK (zV b e D A X) mX12_init 5 pc (rx_J (vhX12_init) n k) := rx_loop fun j hj k pc h => by
  match k, h with
  | 0, h =>
    have e9 := Option.some.inj (show some 181 = some pc from h)
    subst e9
    exact wX12_init_181 hZ j hj
  | _ + 1, h => exact absurd h (by simp)
noncomputable def FX12_init : List Nat → rx_H → Option (Nat × rx_H) := rx_ent 2 (vX12_init_0 (rx_J (vhX12_init) 4000000000))
theorem Met_X12_init (hZ : zO b e D A X) : rx_Met (zV b e D A X) 5 yX12_init mX12_init (FX12_init) := rx_entry hZ.1 (wX12_init_0 hZ _ (vlX12_init hZ 4000000000)) (by decide +kernel) rfl (fun _ => rfl)
abbrev mX12_fourBytes : rx_M := (RX12, cX12_fourBytes, 3, none, false)
theorem vy_X12_fourBytes : rx_Y (zV b e D A X) yX12_fourBytes mX12_fourBytes 1 := ⟨zw1674, zw413, by decide, by decide +kernel, by decide +kernel, by decide +kernel⟩
noncomputable def vX12_fourBytes_46 (j : Nat → rx_K) : rx_K := o_ret0
set_option maxRecDepth 20000 in
theorem wX12_fourBytes_46 (hZ : zO b e D A X) (j : Nat → rx_K) (hj : ∀ k pc, [3][k]? = some pc → rx_OK (zV b e D A X) mX12_fourBytes 0 pc (j k)) : rx_OK (zV b e D A X) mX12_fourBytes 0 46 (vX12_fourBytes_46 j) := by
  unfold vX12_fourBytes_46
  exact s_vret rfl dX12_fourBytes_46
noncomputable def vX12_fourBytes_17 (j : Nat → rx_K) : rx_K := o_ld rx_isR 0 (o_getf 12 0 (o_ld rx_isR 0 (o_getf 12 1 (o_ld rx_isI 1 (o_ld rx_isI 2 (o_bi (fun x y => (x.toUInt32 >>> (y.toUInt32 &&& Int32.toUInt32 31)).toInt32) (o_ui (fun x => x.toInt8.toInt32) (o_ast 2 rx_nb rx_isB (o_ld rx_isR 0 (o_dup (o_getf 12 1 (o_const 8 (o_bi (fun x y => x + y) (o_putf rx_isI 12 1 (o_inc 2 (-8) ((j 0)))))))))))))))))
set_option maxRecDepth 20000 in
theorem wX12_fourBytes_17 (hZ : zO b e D A X) (j : Nat → rx_K) (hj : ∀ k pc, [3][k]? = some pc → rx_OK (zV b e D A X) mX12_fourBytes 0 pc (j k)) : rx_OK (zV b e D A X) mX12_fourBytes 0 17 (vX12_fourBytes_17 j) := by
  unfold vX12_fourBytes_17
  refine s_aload_n hZ.1 dX12_fourBytes_17 rfl ?_
  refine yg12_0 dX12_fourBytes_18 zw1603 ?_
  refine s_aload_n hZ.1 dX12_fourBytes_21 rfl ?_
  refine yg12_1 dX12_fourBytes_22 zw1604 ?_
  refine s_iload_n hZ.1 dX12_fourBytes_25 rfl ?_
  refine s_iload_n hZ.1 dX12_fourBytes_26 rfl ?_
  refine s_iushr dX12_fourBytes_27 ?_
  refine s_i2b dX12_fourBytes_28 ?_
  refine s_bast (tt := 2) rfl dX12_fourBytes_29 ?_
  refine s_aload_n hZ.1 dX12_fourBytes_30 rfl ?_
  refine s_dup hZ.1 dX12_fourBytes_31 ?_
  refine yg12_1 dX12_fourBytes_32 zw1604 ?_
  refine s_iconst dX12_fourBytes_35 (by decide +kernel) ?_
  refine s_iadd dX12_fourBytes_36 ?_
  refine yp12_1 hZ.1 dX12_fourBytes_37 zw1604 ?_
  refine s_iinc hZ.1 dX12_fourBytes_40 (Nat.le_of_ble_eq_true rfl) ?_
  exact s_goto dX12_fourBytes_43 (by decide) (hj 0 3 rfl)
noncomputable def vX12_fourBytes_7 (j : Nat → rx_K) : rx_K := o_ld rx_isR 0 (o_getf 12 1 (o_const 32000 (o_c2 rx_lt (vX12_fourBytes_17 j) (vX12_fourBytes_46 j))))
set_option maxRecDepth 20000 in
theorem wX12_fourBytes_7 (hZ : zO b e D A X) (j : Nat → rx_K) (hj : ∀ k pc, [3][k]? = some pc → rx_OK (zV b e D A X) mX12_fourBytes 0 pc (j k)) : rx_OK (zV b e D A X) mX12_fourBytes 0 7 (vX12_fourBytes_7 j) := by
  unfold vX12_fourBytes_7
  refine s_aload_n hZ.1 dX12_fourBytes_7 rfl ?_
  refine yg12_1 dX12_fourBytes_8 zw1604 ?_
  refine s_sipush dX12_fourBytes_11 (by decide +kernel) ?_
  exact s_icmp_ge dX12_fourBytes_14 (by decide) (wX12_fourBytes_46 hZ j hj) (wX12_fourBytes_17 hZ j hj)
noncomputable def vX12_fourBytes_3 (j : Nat → rx_K) : rx_K := o_ld rx_isI 2 (o_c1 rx_lt (vX12_fourBytes_46 j) (vX12_fourBytes_7 j))
set_option maxRecDepth 20000 in
theorem wX12_fourBytes_3 (hZ : zO b e D A X) (j : Nat → rx_K) (hj : ∀ k pc, [3][k]? = some pc → rx_OK (zV b e D A X) mX12_fourBytes 0 pc (j k)) : rx_OK (zV b e D A X) mX12_fourBytes 0 3 (vX12_fourBytes_3 j) := by
  unfold vX12_fourBytes_3
  refine s_iload_n hZ.1 dX12_fourBytes_3 rfl ?_
  exact s_if_lt dX12_fourBytes_4 (by decide) (wX12_fourBytes_46 hZ j hj) (wX12_fourBytes_7 hZ j hj)
noncomputable def vX12_fourBytes_0 (j : Nat → rx_K) : rx_K := o_const 192 (o_st rx_isI 2 ((vX12_fourBytes_3 j)))
set_option maxRecDepth 20000 in
theorem wX12_fourBytes_0 (hZ : zO b e D A X) (j : Nat → rx_K) (hj : ∀ k pc, [3][k]? = some pc → rx_OK (zV b e D A X) mX12_fourBytes 0 pc (j k)) : rx_OK (zV b e D A X) mX12_fourBytes 0 0 (vX12_fourBytes_0 j) := by
  unfold vX12_fourBytes_0
  refine s_bipush dX12_fourBytes_0 (by decide +kernel) ?_
  refine s_istore_n hZ.1 dX12_fourBytes_2 rfl (Nat.le_of_ble_eq_true rfl) ?_
  exact (wX12_fourBytes_3 hZ j hj)
noncomputable def vhX12_fourBytes (j : Nat → rx_K) : List rx_K := [vX12_fourBytes_3 j]
theorem vlX12_fourBytes (hZ : zO b e D A X) : ∀ n k pc, [3][k]? = some pc → rx_OK (zV b e D A X) mX12_fourBytes 0 pc (rx_J (vhX12_fourBytes) n k) := rx_loop fun j hj k pc h => by
  match k, h with
  | 0, h =>
    have e9 := Option.some.inj (show some 3 = some pc from h)
    subst e9
    exact wX12_fourBytes_3 hZ j hj
  | _ + 1, h => exact absurd h (by simp)
noncomputable def FX12_fourBytes : List Nat → rx_H → Option (Nat × rx_H) := rx_ent 3 (vX12_fourBytes_0 (rx_J (vhX12_fourBytes) 4000000000))
theorem Met_X12_fourBytes (hZ : zO b e D A X) : rx_Met (zV b e D A X) 0 yX12_fourBytes mX12_fourBytes (FX12_fourBytes) := rx_entry hZ.1 (wX12_fourBytes_0 hZ _ (vlX12_fourBytes hZ 4000000000)) (by decide +kernel) rfl (fun h => by cases h)
abbrev mX12_feed : rx_M := (RX12, cX12_feed, 6, (some .int), false)
theorem vy_X12_feed : rx_Y (zV b e D A X) yX12_feed mX12_feed 5 := ⟨zw1670, zw413, by decide, by decide +kernel, by decide +kernel, by decide +kernel⟩
noncomputable def vX12_feed_16 : rx_K := o_ld rx_isR 0 (o_ld rx_isI 1 (o_callV 1 12 FX12_fourBytes (o_ld rx_isR 0 (o_ld rx_isI 2 (o_callV 1 12 FX12_fourBytes (o_ld rx_isR 0 (o_ld rx_isI 3 (o_callV 1 12 FX12_fourBytes (o_ld rx_isR 0 (o_ld rx_isI 4 (o_callV 1 12 FX12_fourBytes (o_ld rx_isR 0 (o_ld rx_isI 5 (o_callV 1 12 FX12_fourBytes (o_ld rx_isR 0 (o_getf 12 1 (o_ret1 rx_isI)))))))))))))))))
set_option maxRecDepth 20000 in
theorem wX12_feed_16 (hZ : zO b e D A X) : rx_OK (zV b e D A X) mX12_feed 1 16 vX12_feed_16 := by
  unfold vX12_feed_16
  refine s_aload_n hZ.1 dX12_feed_16 rfl ?_
  refine s_iload_n hZ.1 dX12_feed_17 rfl ?_
  refine s_callV hZ.1 (Met_X12_fourBytes hZ) (Nat.le_of_ble_eq_true rfl) vy_X12_fourBytes zcl12 zw1673 zw5 (Or.inl zw1671) dX12_feed_18 ?_
  refine s_aload_n hZ.1 dX12_feed_21 rfl ?_
  refine s_iload_n hZ.1 dX12_feed_22 rfl ?_
  refine s_callV hZ.1 (Met_X12_fourBytes hZ) (Nat.le_of_ble_eq_true rfl) vy_X12_fourBytes zcl12 zw1673 zw5 (Or.inl zw1671) dX12_feed_23 ?_
  refine s_aload_n hZ.1 dX12_feed_26 rfl ?_
  refine s_iload_n hZ.1 dX12_feed_27 rfl ?_
  refine s_callV hZ.1 (Met_X12_fourBytes hZ) (Nat.le_of_ble_eq_true rfl) vy_X12_fourBytes zcl12 zw1673 zw5 (Or.inl zw1671) dX12_feed_28 ?_
  refine s_aload_n hZ.1 dX12_feed_31 rfl ?_
  refine s_iload hZ.1 dX12_feed_32 ?_
  refine s_callV hZ.1 (Met_X12_fourBytes hZ) (Nat.le_of_ble_eq_true rfl) vy_X12_fourBytes zcl12 zw1673 zw5 (Or.inl zw1671) dX12_feed_34 ?_
  refine s_aload_n hZ.1 dX12_feed_37 rfl ?_
  refine s_iload hZ.1 dX12_feed_38 ?_
  refine s_callV hZ.1 (Met_X12_fourBytes hZ) (Nat.le_of_ble_eq_true rfl) vy_X12_fourBytes zcl12 zw1673 zw5 (Or.inl zw1671) dX12_feed_40 ?_
  refine s_aload_n hZ.1 dX12_feed_43 rfl ?_
  refine yg12_1 dX12_feed_44 zw1604 ?_
  exact s_iret hZ.1 rfl dX12_feed_47
noncomputable def vX12_feed_13 : rx_K := o_const 34359738344 (o_ret1 rx_isI)
set_option maxRecDepth 20000 in
theorem wX12_feed_13 (hZ : zO b e D A X) : rx_OK (zV b e D A X) mX12_feed 1 13 vX12_feed_13 := by
  unfold vX12_feed_13
  refine s_bipush dX12_feed_13 (by decide +kernel) ?_
  exact s_iret hZ.1 rfl dX12_feed_15
noncomputable def vX12_feed_0 : rx_K := o_ld rx_isR 0 (o_getf 12 1 (o_const 160 (o_bi (fun x y => x + y) (o_const 32000 (o_c2 (fun h x y => rx_lt h y x) vX12_feed_13 vX12_feed_16)))))
set_option maxRecDepth 20000 in
theorem wX12_feed_0 (hZ : zO b e D A X) : rx_OK (zV b e D A X) mX12_feed 1 0 vX12_feed_0 := by
  unfold vX12_feed_0
  refine s_aload_n hZ.1 dX12_feed_0 rfl ?_
  refine yg12_1 dX12_feed_1 zw1604 ?_
  refine s_bipush dX12_feed_4 (by decide +kernel) ?_
  refine s_iadd dX12_feed_6 ?_
  refine s_sipush dX12_feed_7 (by decide +kernel) ?_
  exact s_icmp_le dX12_feed_10 (by decide) (wX12_feed_16 hZ) (wX12_feed_13 hZ)
noncomputable def FX12_feed : List Nat → rx_H → Option (Nat × rx_H) := rx_ent 6 vX12_feed_0
theorem Met_X12_feed (hZ : zO b e D A X) : rx_Met (zV b e D A X) 1 yX12_feed mX12_feed (FX12_feed) := rx_entry hZ.1 (wX12_feed_0 hZ) (by decide +kernel) rfl (fun h => by cases h)
abbrev mX12_cut : rx_M := (RX12, cX12_cut, 2, (some .int), false)
theorem vy_X12_cut : rx_Y (zV b e D A X) yX12_cut mX12_cut 1 := ⟨zw1678, zw413, by decide, by decide +kernel, by decide +kernel, by decide +kernel⟩
noncomputable def vX12_cut_14 : rx_K := o_ld rx_isR 0 (o_dup (o_getf 12 1 (o_ld rx_isI 1 (o_bi (fun x y => x - y) (o_putf rx_isI 12 1 (o_ld rx_isR 0 (o_getf 12 1 (o_ret1 rx_isI))))))))
set_option maxRecDepth 20000 in
theorem wX12_cut_14 (hZ : zO b e D A X) : rx_OK (zV b e D A X) mX12_cut 0 14 vX12_cut_14 := by
  unfold vX12_cut_14
  refine s_aload_n hZ.1 dX12_cut_14 rfl ?_
  refine s_dup hZ.1 dX12_cut_15 ?_
  refine yg12_1 dX12_cut_16 zw1604 ?_
  refine s_iload_n hZ.1 dX12_cut_19 rfl ?_
  refine s_isub dX12_cut_20 ?_
  refine yp12_1 hZ.1 dX12_cut_21 zw1604 ?_
  refine s_aload_n hZ.1 dX12_cut_24 rfl ?_
  refine yg12_1 dX12_cut_25 zw1604 ?_
  exact s_iret hZ.1 rfl dX12_cut_28
noncomputable def vX12_cut_12 : rx_K := o_const 34359738360 (o_ret1 rx_isI)
set_option maxRecDepth 20000 in
theorem wX12_cut_12 (hZ : zO b e D A X) : rx_OK (zV b e D A X) mX12_cut 0 12 vX12_cut_12 := by
  unfold vX12_cut_12
  refine s_iconst dX12_cut_12 (by decide +kernel) ?_
  exact s_iret hZ.1 rfl dX12_cut_13
noncomputable def vX12_cut_4 : rx_K := o_ld rx_isI 1 (o_ld rx_isR 0 (o_getf 12 1 (o_c2 (fun h x y => rx_lt h y x) vX12_cut_12 vX12_cut_14)))
set_option maxRecDepth 20000 in
theorem wX12_cut_4 (hZ : zO b e D A X) : rx_OK (zV b e D A X) mX12_cut 0 4 vX12_cut_4 := by
  unfold vX12_cut_4
  refine s_iload_n hZ.1 dX12_cut_4 rfl ?_
  refine s_aload_n hZ.1 dX12_cut_5 rfl ?_
  refine yg12_1 dX12_cut_6 zw1604 ?_
  exact s_icmp_le dX12_cut_9 (by decide) (wX12_cut_14 hZ) (wX12_cut_12 hZ)
noncomputable def vX12_cut_0 : rx_K := o_ld rx_isI 1 (o_c1 rx_lt vX12_cut_12 vX12_cut_4)
set_option maxRecDepth 20000 in
theorem wX12_cut_0 (hZ : zO b e D A X) : rx_OK (zV b e D A X) mX12_cut 0 0 vX12_cut_0 := by
  unfold vX12_cut_0
  refine s_iload_n hZ.1 dX12_cut_0 rfl ?_
  exact s_if_lt dX12_cut_1 (by decide) (wX12_cut_12 hZ) (wX12_cut_4 hZ)
noncomputable def FX12_cut : List Nat → rx_H → Option (Nat × rx_H) := rx_ent 2 vX12_cut_0
theorem Met_X12_cut (hZ : zO b e D A X) : rx_Met (zV b e D A X) 0 yX12_cut mX12_cut (FX12_cut) := rx_entry hZ.1 (wX12_cut_0 hZ) (by decide +kernel) rfl (fun h => by cases h)
abbrev mX12_unused : rx_M := (RX12, cX12_unused, 1, (some (.object "LinkHouse$Build")), false)
theorem vy_X12_unused : rx_Y (zV b e D A X) yX12_unused mX12_unused 0 := ⟨zw1686, zw413, by decide, by decide +kernel, by decide +kernel, by decide +kernel⟩
noncomputable def vX12_unused_0 : rx_K := o_ld rx_isR 0 (o_getf 12 4 (o_ld rx_isR 0 (o_callV 0 12 FX12_allBuilt (o_const 128 (o_mm z_min (o_ald 6 (o_ret1 rx_isR)))))))
set_option maxRecDepth 20000 in
theorem wX12_unused_0 (hZ : zO b e D A X) : rx_OK (zV b e D A X) mX12_unused 1 0 vX12_unused_0 := by
  unfold vX12_unused_0
  refine s_aload_n hZ.1 dX12_unused_0 rfl ?_
  refine yg12_4 dX12_unused_1 zw1607 ?_
  refine s_aload_n hZ.1 dX12_unused_4 rfl ?_
  refine s_callV hZ.1 (Met_X12_allBuilt hZ) (Nat.le_of_ble_eq_true rfl) vy_X12_allBuilt zcl12 zw1563 zw2 (Or.inl zw1561) dX12_unused_5 ?_
  refine s_bipush dX12_unused_8 (by decide +kernel) ?_
  refine s_mmin hZ.1 (Nat.le_of_ble_eq_true rfl) zw1687 zw1688 zw432 zmath_min dX12_unused_10 ?_
  refine s_aald (tt := 6) rfl rfl dX12_unused_13 ?_
  exact s_aret hZ.1 rfl (Or.inl ⟨_, rfl⟩) dX12_unused_14
noncomputable def FX12_unused : List Nat → rx_H → Option (Nat × rx_H) := rx_ent 1 vX12_unused_0
theorem Met_X12_unused (hZ : zO b e D A X) : rx_Met (zV b e D A X) 1 yX12_unused mX12_unused (FX12_unused) := rx_entry hZ.1 (wX12_unused_0 hZ) (by decide +kernel) rfl (fun h => by cases h)
abbrev mX12_splice : rx_M := (RX12, cX12_splice, 6, (some .int), false)
theorem vy_X12_splice : rx_Y (zV b e D A X) yX12_splice mX12_splice 3 := ⟨zw1682, zw413, by decide, by decide +kernel, by decide +kernel, by decide +kernel⟩
noncomputable def vX12_splice_86 : rx_K := o_ld rx_isI 2 (o_bi (fun x y => x - y) (o_copy 2 (rx_chk .byte) (o_ld rx_isR 5 (o_const 0 (o_ld rx_isR 0 (o_getf 12 0 (o_ld rx_isI 1 (o_ld rx_isI 3 (o_copy 2 (rx_chk .byte) (o_ld rx_isR 0 (o_dup (o_getf 12 1 (o_ld rx_isI 2 (o_bi (fun x y => x - y) (o_putf rx_isI 12 1 (o_ld rx_isR 0 (o_getf 12 1 (o_ret1 rx_isI))))))))))))))))))
set_option maxRecDepth 20000 in
theorem wX12_splice_86 (hZ : zO b e D A X) : rx_OK (zV b e D A X) mX12_splice 2 86 vX12_splice_86 := by
  unfold vX12_splice_86
  refine s_iload_n hZ.1 dX12_splice_86 rfl ?_
  refine s_isub dX12_splice_87 ?_
  refine s_copy hZ.1 (tt := 2) (ty := .byte) rfl rfl (fun c h => Or.inl ⟨_, rx_v_0 (z_chkY8 h)⟩) rfl (by decide) zw1690 zw1692 zw1691 zw433 dX12_splice_88 ?_
  refine s_aload hZ.1 dX12_splice_91 ?_
  refine s_iconst dX12_splice_93 (by decide +kernel) ?_
  refine s_aload_n hZ.1 dX12_splice_94 rfl ?_
  refine yg12_0 dX12_splice_95 zw1603 ?_
  refine s_iload_n hZ.1 dX12_splice_98 rfl ?_
  refine s_iload_n hZ.1 dX12_splice_99 rfl ?_
  refine s_copy hZ.1 (tt := 2) (ty := .byte) rfl rfl (fun c h => Or.inl ⟨_, rx_v_0 (z_chkY8 h)⟩) rfl (by decide) zw1690 zw1692 zw1691 zw433 dX12_splice_100 ?_
  refine s_aload_n hZ.1 dX12_splice_103 rfl ?_
  refine s_dup hZ.1 dX12_splice_104 ?_
  refine yg12_1 dX12_splice_105 zw1604 ?_
  refine s_iload_n hZ.1 dX12_splice_108 rfl ?_
  refine s_isub dX12_splice_109 ?_
  refine yp12_1 hZ.1 dX12_splice_110 zw1604 ?_
  refine s_aload_n hZ.1 dX12_splice_113 rfl ?_
  refine yg12_1 dX12_splice_114 zw1604 ?_
  exact s_iret hZ.1 rfl dX12_splice_117
noncomputable def vX12_splice_46 : rx_K := o_ld rx_isR 0 (o_callV 0 12 FX12_unused (o_getf 1 6 (o_st rx_isR 5 (o_ld rx_isR 0 (o_getf 12 0 (o_ld rx_isI 4 (o_ld rx_isR 5 (o_const 0 (o_ld rx_isI 3 (o_copy 2 (rx_chk .byte) (o_ld rx_isR 0 (o_getf 12 0 (o_ld rx_isI 1 (o_ld rx_isI 2 (o_bi (fun x y => x + y) (o_ld rx_isR 0 (o_getf 12 0 (o_ld rx_isI 1 (o_ld rx_isI 3 (o_bi (fun x y => x + y) (o_ld rx_isI 4 (o_ld rx_isI 1 (o_bi (fun x y => x - y) (vX12_splice_86))))))))))))))))))))))))
set_option maxRecDepth 20000 in
theorem wX12_splice_46 (hZ : zO b e D A X) : rx_OK (zV b e D A X) mX12_splice 2 46 vX12_splice_46 := by
  unfold vX12_splice_46
  refine s_aload_n hZ.1 dX12_splice_46 rfl ?_
  refine s_callV hZ.1 (Met_X12_unused hZ) (Nat.le_of_ble_eq_true rfl) vy_X12_unused zcl12 zw1685 zw6 (Or.inl zw1683) dX12_splice_47 ?_
  refine yg1_6 dX12_splice_50 zw1131 ?_
  refine s_astore hZ.1 dX12_splice_53 (Nat.le_of_ble_eq_true rfl) ?_
  refine s_aload_n hZ.1 dX12_splice_55 rfl ?_
  refine yg12_0 dX12_splice_56 zw1603 ?_
  refine s_iload hZ.1 dX12_splice_59 ?_
  refine s_aload hZ.1 dX12_splice_61 ?_
  refine s_iconst dX12_splice_63 (by decide +kernel) ?_
  refine s_iload_n hZ.1 dX12_splice_64 rfl ?_
  refine s_copy hZ.1 (tt := 2) (ty := .byte) rfl rfl (fun c h => Or.inl ⟨_, rx_v_0 (z_chkY8 h)⟩) rfl (by decide) zw1690 zw1692 zw1691 zw433 dX12_splice_65 ?_
  refine s_aload_n hZ.1 dX12_splice_68 rfl ?_
  refine yg12_0 dX12_splice_69 zw1603 ?_
  refine s_iload_n hZ.1 dX12_splice_72 rfl ?_
  refine s_iload_n hZ.1 dX12_splice_73 rfl ?_
  refine s_iadd dX12_splice_74 ?_
  refine s_aload_n hZ.1 dX12_splice_75 rfl ?_
  refine yg12_0 dX12_splice_76 zw1603 ?_
  refine s_iload_n hZ.1 dX12_splice_79 rfl ?_
  refine s_iload_n hZ.1 dX12_splice_80 rfl ?_
  refine s_iadd dX12_splice_81 ?_
  refine s_iload hZ.1 dX12_splice_82 ?_
  refine s_iload_n hZ.1 dX12_splice_84 rfl ?_
  refine s_isub dX12_splice_85 ?_
  exact (wX12_splice_86 hZ)
noncomputable def vX12_splice_44 : rx_K := o_const 34359738360 (o_ret1 rx_isI)
set_option maxRecDepth 20000 in
theorem wX12_splice_44 (hZ : zO b e D A X) : rx_OK (zV b e D A X) mX12_splice 2 44 vX12_splice_44 := by
  unfold vX12_splice_44
  refine s_iconst dX12_splice_44 (by decide +kernel) ?_
  exact s_iret hZ.1 rfl dX12_splice_45
noncomputable def vX12_splice_36 : rx_K := o_ld rx_isI 2 (o_ld rx_isI 4 (o_ld rx_isI 1 (o_bi (fun x y => x - y) (o_c2 (fun h x y => rx_lt h y x) vX12_splice_44 vX12_splice_46))))
set_option maxRecDepth 20000 in
theorem wX12_splice_36 (hZ : zO b e D A X) : rx_OK (zV b e D A X) mX12_splice 2 36 vX12_splice_36 := by
  unfold vX12_splice_36
  refine s_iload_n hZ.1 dX12_splice_36 rfl ?_
  refine s_iload hZ.1 dX12_splice_37 ?_
  refine s_iload_n hZ.1 dX12_splice_39 rfl ?_
  refine s_isub dX12_splice_40 ?_
  exact s_icmp_le dX12_splice_41 (by decide) (wX12_splice_46 hZ) (wX12_splice_44 hZ)
noncomputable def vX12_splice_32 : rx_K := o_ld rx_isI 2 (o_c1 rx_lt vX12_splice_44 vX12_splice_36)
set_option maxRecDepth 20000 in
theorem wX12_splice_32 (hZ : zO b e D A X) : rx_OK (zV b e D A X) mX12_splice 2 32 vX12_splice_32 := by
  unfold vX12_splice_32
  refine s_iload_n hZ.1 dX12_splice_32 rfl ?_
  exact s_if_lt dX12_splice_33 (by decide) (wX12_splice_44 hZ) (wX12_splice_36 hZ)
noncomputable def vX12_splice_26 : rx_K := o_ld rx_isI 1 (o_ld rx_isI 4 (o_c2 (fun h x y => rx_lt h y x) vX12_splice_44 vX12_splice_32))
set_option maxRecDepth 20000 in
theorem wX12_splice_26 (hZ : zO b e D A X) : rx_OK (zV b e D A X) mX12_splice 2 26 vX12_splice_26 := by
  unfold vX12_splice_26
  refine s_iload_n hZ.1 dX12_splice_26 rfl ?_
  refine s_iload hZ.1 dX12_splice_27 ?_
  exact s_icmp_gt dX12_splice_29 (by decide) (wX12_splice_44 hZ) (wX12_splice_32 hZ)
noncomputable def vX12_splice_14 : rx_K := o_ld rx_isR 0 (o_getf 12 1 (o_ld rx_isI 3 (o_bi (fun x y => x - y) (o_st rx_isI 4 (o_ld rx_isI 1 (o_c1 rx_lt vX12_splice_44 vX12_splice_26))))))
set_option maxRecDepth 20000 in
theorem wX12_splice_14 (hZ : zO b e D A X) : rx_OK (zV b e D A X) mX12_splice 2 14 vX12_splice_14 := by
  unfold vX12_splice_14
  refine s_aload_n hZ.1 dX12_splice_14 rfl ?_
  refine yg12_1 dX12_splice_15 zw1604 ?_
  refine s_iload_n hZ.1 dX12_splice_18 rfl ?_
  refine s_isub dX12_splice_19 ?_
  refine s_istore hZ.1 dX12_splice_20 (Nat.le_of_ble_eq_true rfl) ?_
  refine s_iload_n hZ.1 dX12_splice_22 rfl ?_
  exact s_if_lt dX12_splice_23 (by decide) (wX12_splice_44 hZ) (wX12_splice_26 hZ)
noncomputable def vX12_splice_12 : rx_K := o_const 34359738360 (o_ret1 rx_isI)
set_option maxRecDepth 20000 in
theorem wX12_splice_12 (hZ : zO b e D A X) : rx_OK (zV b e D A X) mX12_splice 2 12 vX12_splice_12 := by
  unfold vX12_splice_12
  refine s_iconst dX12_splice_12 (by decide +kernel) ?_
  exact s_iret hZ.1 rfl dX12_splice_13
noncomputable def vX12_splice_4 : rx_K := o_ld rx_isI 3 (o_ld rx_isR 0 (o_getf 12 1 (o_c2 (fun h x y => rx_lt h y x) vX12_splice_12 vX12_splice_14)))
set_option maxRecDepth 20000 in
theorem wX12_splice_4 (hZ : zO b e D A X) : rx_OK (zV b e D A X) mX12_splice 2 4 vX12_splice_4 := by
  unfold vX12_splice_4
  refine s_iload_n hZ.1 dX12_splice_4 rfl ?_
  refine s_aload_n hZ.1 dX12_splice_5 rfl ?_
  refine yg12_1 dX12_splice_6 zw1604 ?_
  exact s_icmp_le dX12_splice_9 (by decide) (wX12_splice_14 hZ) (wX12_splice_12 hZ)
noncomputable def vX12_splice_0 : rx_K := o_ld rx_isI 3 (o_c1 rx_lt vX12_splice_12 vX12_splice_4)
set_option maxRecDepth 20000 in
theorem wX12_splice_0 (hZ : zO b e D A X) : rx_OK (zV b e D A X) mX12_splice 2 0 vX12_splice_0 := by
  unfold vX12_splice_0
  refine s_iload_n hZ.1 dX12_splice_0 rfl ?_
  exact s_if_lt dX12_splice_1 (by decide) (wX12_splice_12 hZ) (wX12_splice_4 hZ)
noncomputable def FX12_splice : List Nat → rx_H → Option (Nat × rx_H) := rx_ent 6 vX12_splice_0
theorem Met_X12_splice (hZ : zO b e D A X) : rx_Met (zV b e D A X) 2 yX12_splice mX12_splice (FX12_splice) := rx_entry hZ.1 (wX12_splice_0 hZ) (by decide +kernel) rfl (fun h => by cases h)
abbrev mX12_text : rx_M := (RX12, cX12_text, 4, (some .int), false)
theorem vy_X12_text : rx_Y (zV b e D A X) yX12_text mX12_text 2 := ⟨zw1696, zw413, by decide, by decide +kernel, by decide +kernel, by decide +kernel⟩
noncomputable def vX12_text_13 : rx_K := o_ld rx_isR 3 (o_getf 1 6 (o_const 0 (o_ld rx_isR 0 (o_getf 12 0 (o_const 0 (o_ld rx_isR 3 (o_getf 1 7 (o_copy 2 (rx_chk .byte) (o_ld rx_isR 0 (o_ld rx_isR 3 (o_getf 1 7 (o_putf rx_isI 12 1 (o_ld rx_isR 0 (o_getf 12 1 (o_ret1 rx_isI)))))))))))))))
set_option maxRecDepth 20000 in
theorem wX12_text_13 (hZ : zO b e D A X) : rx_OK (zV b e D A X) mX12_text 2 13 vX12_text_13 := by
  unfold vX12_text_13
  refine s_aload_n hZ.1 dX12_text_13 rfl ?_
  refine yg1_6 dX12_text_14 zw1131 ?_
  refine s_iconst dX12_text_17 (by decide +kernel) ?_
  refine s_aload_n hZ.1 dX12_text_18 rfl ?_
  refine yg12_0 dX12_text_19 zw1603 ?_
  refine s_iconst dX12_text_22 (by decide +kernel) ?_
  refine s_aload_n hZ.1 dX12_text_23 rfl ?_
  refine yg1_7 dX12_text_24 zw1135 ?_
  refine s_copy hZ.1 (tt := 2) (ty := .byte) rfl rfl (fun c h => Or.inl ⟨_, rx_v_0 (z_chkY8 h)⟩) rfl (by decide) zw1690 zw1692 zw1691 zw433 dX12_text_27 ?_
  refine s_aload_n hZ.1 dX12_text_30 rfl ?_
  refine s_aload_n hZ.1 dX12_text_31 rfl ?_
  refine yg1_7 dX12_text_32 zw1135 ?_
  refine yp12_1 hZ.1 dX12_text_35 zw1604 ?_
  refine s_aload_n hZ.1 dX12_text_38 rfl ?_
  refine yg12_1 dX12_text_39 zw1604 ?_
  exact s_iret hZ.1 rfl dX12_text_42
noncomputable def vX12_text_11 : rx_K := o_const 34359738360 (o_ret1 rx_isI)
set_option maxRecDepth 20000 in
theorem wX12_text_11 (hZ : zO b e D A X) : rx_OK (zV b e D A X) mX12_text 2 11 vX12_text_11 := by
  unfold vX12_text_11
  refine s_iconst dX12_text_11 (by decide +kernel) ?_
  exact s_iret hZ.1 rfl dX12_text_12
noncomputable def vX12_text_0 : rx_K := o_ld rx_isR 0 (o_ld rx_isI 1 (o_ld rx_isI 2 (o_callV 2 12 FX12_buildOf (o_st rx_isR 3 (o_ld rx_isR 3 (o_nul vX12_text_11 vX12_text_13))))))
set_option maxRecDepth 20000 in
theorem wX12_text_0 (hZ : zO b e D A X) : rx_OK (zV b e D A X) mX12_text 2 0 vX12_text_0 := by
  unfold vX12_text_0
  refine s_aload_n hZ.1 dX12_text_0 rfl ?_
  refine s_iload_n hZ.1 dX12_text_1 rfl ?_
  refine s_iload_n hZ.1 dX12_text_2 rfl ?_
  refine s_callV hZ.1 (Met_X12_buildOf hZ) (Nat.le_of_ble_eq_true rfl) vy_X12_buildOf zcl12 zw1559 zw1 (Or.inl zw1557) dX12_text_3 ?_
  refine s_astore_n hZ.1 dX12_text_6 rfl (Nat.le_of_ble_eq_true rfl) ?_
  refine s_aload_n hZ.1 dX12_text_7 rfl ?_
  exact s_ifnonnull dX12_text_8 (by decide) (wX12_text_13 hZ) (wX12_text_11 hZ)
noncomputable def FX12_text : List Nat → rx_H → Option (Nat × rx_H) := rx_ent 4 vX12_text_0
theorem Met_X12_text (hZ : zO b e D A X) : rx_Met (zV b e D A X) 2 yX12_text mX12_text (FX12_text) := rx_entry hZ.1 (wX12_text_0 hZ) (by decide +kernel) rfl (fun h => by cases h)
abbrev mX12_size : rx_M := (RX12, cX12_size, 1, (some .int), false)
theorem vy_X12_size : rx_Y (zV b e D A X) yX12_size mX12_size 0 := ⟨zw1700, zw413, by decide, by decide +kernel, by decide +kernel, by decide +kernel⟩
noncomputable def vX12_size_0 : rx_K := o_ld rx_isR 0 (o_getf 12 3 (o_ret1 rx_isI))
set_option maxRecDepth 20000 in
theorem wX12_size_0 (hZ : zO b e D A X) : rx_OK (zV b e D A X) mX12_size 0 0 vX12_size_0 := by
  unfold vX12_size_0
  refine s_aload_n hZ.1 dX12_size_0 rfl ?_
  refine yg12_3 dX12_size_1 zw1606 ?_
  exact s_iret hZ.1 rfl dX12_size_4
noncomputable def FX12_size : List Nat → rx_H → Option (Nat × rx_H) := rx_ent 1 vX12_size_0
theorem Met_X12_size (hZ : zO b e D A X) : rx_Met (zV b e D A X) 0 yX12_size mX12_size (FX12_size) := rx_entry hZ.1 (wX12_size_0 hZ) (by decide +kernel) rfl (fun h => by cases h)
abbrev mX12_octet : rx_M := (RX12, cX12_octet, 2, (some .int), false)
theorem vy_X12_octet : rx_Y (zV b e D A X) yX12_octet mX12_octet 1 := ⟨zw1704, zw413, by decide, by decide +kernel, by decide +kernel, by decide +kernel⟩
noncomputable def vX12_octet_26 : rx_K := o_ret1 rx_isI
set_option maxRecDepth 20000 in
theorem wX12_octet_26 (hZ : zO b e D A X) : rx_OK (zV b e D A X) mX12_octet 0 26 vX12_octet_26 := by
  unfold vX12_octet_26
  exact s_iret hZ.1 rfl dX12_octet_26
noncomputable def vX12_octet_16 : rx_K := o_ld rx_isR 0 (o_getf 12 2 (o_ld rx_isI 1 (o_ald 2 (o_const 2040 (o_bi (fun x y => x &&& y) (vX12_octet_26))))))
set_option maxRecDepth 20000 in
theorem wX12_octet_16 (hZ : zO b e D A X) : rx_OK (zV b e D A X) mX12_octet 0 16 vX12_octet_16 := by
  unfold vX12_octet_16
  refine s_aload_n hZ.1 dX12_octet_16 rfl ?_
  refine yg12_2 dX12_octet_17 zw1605 ?_
  refine s_iload_n hZ.1 dX12_octet_20 rfl ?_
  refine s_bald (tt := 2) rfl dX12_octet_21 ?_
  refine s_sipush dX12_octet_22 (by decide +kernel) ?_
  refine s_iand dX12_octet_25 ?_
  exact (wX12_octet_26 hZ)
noncomputable def vX12_octet_12 : rx_K := o_const 34359738360 (vX12_octet_26)
set_option maxRecDepth 20000 in
theorem wX12_octet_12 (hZ : zO b e D A X) : rx_OK (zV b e D A X) mX12_octet 0 12 vX12_octet_12 := by
  unfold vX12_octet_12
  refine s_iconst dX12_octet_12 (by decide +kernel) ?_
  exact s_goto dX12_octet_13 (by decide) (wX12_octet_26 hZ)
noncomputable def vX12_octet_4 : rx_K := o_ld rx_isI 1 (o_ld rx_isR 0 (o_getf 12 3 (o_c2 rx_lt vX12_octet_16 vX12_octet_12)))
set_option maxRecDepth 20000 in
theorem wX12_octet_4 (hZ : zO b e D A X) : rx_OK (zV b e D A X) mX12_octet 0 4 vX12_octet_4 := by
  unfold vX12_octet_4
  refine s_iload_n hZ.1 dX12_octet_4 rfl ?_
  refine s_aload_n hZ.1 dX12_octet_5 rfl ?_
  refine yg12_3 dX12_octet_6 zw1606 ?_
  exact s_icmp_lt dX12_octet_9 (by decide) (wX12_octet_16 hZ) (wX12_octet_12 hZ)
noncomputable def vX12_octet_0 : rx_K := o_ld rx_isI 1 (o_c1 rx_lt vX12_octet_12 vX12_octet_4)
set_option maxRecDepth 20000 in
theorem wX12_octet_0 (hZ : zO b e D A X) : rx_OK (zV b e D A X) mX12_octet 0 0 vX12_octet_0 := by
  unfold vX12_octet_0
  refine s_iload_n hZ.1 dX12_octet_0 rfl ?_
  exact s_if_lt dX12_octet_1 (by decide) (wX12_octet_12 hZ) (wX12_octet_4 hZ)
noncomputable def FX12_octet : List Nat → rx_H → Option (Nat × rx_H) := rx_ent 2 vX12_octet_0
theorem Met_X12_octet (hZ : zO b e D A X) : rx_Met (zV b e D A X) 0 yX12_octet mX12_octet (FX12_octet) := rx_entry hZ.1 (wX12_octet_0 hZ) (by decide +kernel) rfl (fun h => by cases h)
abbrev mX12_isLibrary : rx_M := (RX12, cX12_isLibrary, 1, (some .boolean), false)
theorem vy_X12_isLibrary : rx_Y (zV b e D A X) yX12_isLibrary mX12_isLibrary 1 := ⟨zw1711, zw413, by decide, by decide +kernel, by decide +kernel, by decide +kernel⟩
noncomputable def vX12_isLibrary_14 : rx_K := o_ret1 rx_isZ
set_option maxRecDepth 20000 in
theorem wX12_isLibrary_14 (hZ : zO b e D A X) : rx_OK (zV b e D A X) mX12_isLibrary 0 14 vX12_isLibrary_14 := by
  unfold vX12_isLibrary_14
  exact s_zret rx_z_ok rfl dX12_isLibrary_14
noncomputable def vX12_isLibrary_13 : rx_K := o_const 0 (vX12_isLibrary_14)
set_option maxRecDepth 20000 in
theorem wX12_isLibrary_13 (hZ : zO b e D A X) : rx_OK (zV b e D A X) mX12_isLibrary 0 13 vX12_isLibrary_13 := by
  unfold vX12_isLibrary_13
  refine s_iconst dX12_isLibrary_13 (by decide +kernel) ?_
  exact (wX12_isLibrary_14 hZ)
noncomputable def vX12_isLibrary_9 : rx_K := o_const 8 (vX12_isLibrary_14)
set_option maxRecDepth 20000 in
theorem wX12_isLibrary_9 (hZ : zO b e D A X) : rx_OK (zV b e D A X) mX12_isLibrary 0 9 vX12_isLibrary_9 := by
  unfold vX12_isLibrary_9
  refine s_iconst dX12_isLibrary_9 (by decide +kernel) ?_
  exact s_goto dX12_isLibrary_10 (by decide) (wX12_isLibrary_14 hZ)
noncomputable def vX12_isLibrary_4 : rx_K := o_ld rx_isI 0 (o_const 40 (o_c2 rx_lt vX12_isLibrary_9 vX12_isLibrary_13))
set_option maxRecDepth 20000 in
theorem wX12_isLibrary_4 (hZ : zO b e D A X) : rx_OK (zV b e D A X) mX12_isLibrary 0 4 vX12_isLibrary_4 := by
  unfold vX12_isLibrary_4
  refine s_iload_n hZ.1 dX12_isLibrary_4 rfl ?_
  refine s_iconst dX12_isLibrary_5 (by decide +kernel) ?_
  exact s_icmp_ge dX12_isLibrary_6 (by decide) (wX12_isLibrary_13 hZ) (wX12_isLibrary_9 hZ)
noncomputable def vX12_isLibrary_0 : rx_K := o_ld rx_isI 0 (o_c1 rx_lt vX12_isLibrary_13 vX12_isLibrary_4)
set_option maxRecDepth 20000 in
theorem wX12_isLibrary_0 (hZ : zO b e D A X) : rx_OK (zV b e D A X) mX12_isLibrary 0 0 vX12_isLibrary_0 := by
  unfold vX12_isLibrary_0
  refine s_iload_n hZ.1 dX12_isLibrary_0 rfl ?_
  exact s_if_lt dX12_isLibrary_1 (by decide) (wX12_isLibrary_13 hZ) (wX12_isLibrary_4 hZ)
noncomputable def FX12_isLibrary : List Nat → rx_H → Option (Nat × rx_H) := rx_ent 1 vX12_isLibrary_0
theorem Met_X12_isLibrary (hZ : zO b e D A X) : rx_Met (zV b e D A X) 0 yX12_isLibrary mX12_isLibrary (FX12_isLibrary) := rx_entry hZ.1 (wX12_isLibrary_0 hZ) (by decide +kernel) rfl (fun h => by cases h)
abbrev mX12_rowOf : rx_M := (RX12, cX12_rowOf, 5, (some (.object "LinkHouse$Row")), false)
theorem vy_X12_rowOf : rx_Y (zV b e D A X) yX12_rowOf mX12_rowOf 3 := ⟨zw2371, zw413, by decide, by decide +kernel, by decide +kernel, by decide +kernel⟩
noncomputable def vX12_rowOf_37 : rx_K := o_ret1 rx_isR
set_option maxRecDepth 20000 in
theorem wX12_rowOf_37 (hZ : zO b e D A X) : rx_OK (zV b e D A X) mX12_rowOf 2 37 vX12_rowOf_37 := by
  unfold vX12_rowOf_37
  exact s_aret hZ.1 rfl (Or.inl ⟨_, rfl⟩) dX12_rowOf_37
noncomputable def vX12_rowOf_30 : rx_K := o_ld rx_isR 4 (o_getf 1 2 (o_ld rx_isI 3 (o_ald 4 (vX12_rowOf_37))))
set_option maxRecDepth 20000 in
theorem wX12_rowOf_30 (hZ : zO b e D A X) : rx_OK (zV b e D A X) mX12_rowOf 2 30 vX12_rowOf_30 := by
  unfold vX12_rowOf_30
  refine s_aload hZ.1 dX12_rowOf_30 ?_
  refine yg1_2 dX12_rowOf_32 zw1119 ?_
  refine s_iload_n hZ.1 dX12_rowOf_35 rfl ?_
  refine s_aald (tt := 4) rfl rfl dX12_rowOf_36 ?_
  exact (wX12_rowOf_37 hZ)
noncomputable def vX12_rowOf_26 : rx_K := o_const 3 (vX12_rowOf_37)
set_option maxRecDepth 20000 in
theorem wX12_rowOf_26 (hZ : zO b e D A X) : rx_OK (zV b e D A X) mX12_rowOf 2 26 vX12_rowOf_26 := by
  unfold vX12_rowOf_26
  refine s_null dX12_rowOf_26 ?_
  exact s_goto dX12_rowOf_27 (by decide) (wX12_rowOf_37 hZ)
noncomputable def vX12_rowOf_17 : rx_K := o_ld rx_isI 3 (o_ld rx_isR 4 (o_getf 1 3 (o_c2 rx_lt vX12_rowOf_30 vX12_rowOf_26)))
set_option maxRecDepth 20000 in
theorem wX12_rowOf_17 (hZ : zO b e D A X) : rx_OK (zV b e D A X) mX12_rowOf 2 17 vX12_rowOf_17 := by
  unfold vX12_rowOf_17
  refine s_iload_n hZ.1 dX12_rowOf_17 rfl ?_
  refine s_aload hZ.1 dX12_rowOf_18 ?_
  refine yg1_3 dX12_rowOf_20 zw1126 ?_
  exact s_icmp_lt dX12_rowOf_23 (by decide) (wX12_rowOf_30 hZ) (wX12_rowOf_26 hZ)
noncomputable def vX12_rowOf_13 : rx_K := o_ld rx_isI 3 (o_c1 rx_lt vX12_rowOf_26 vX12_rowOf_17)
set_option maxRecDepth 20000 in
theorem wX12_rowOf_13 (hZ : zO b e D A X) : rx_OK (zV b e D A X) mX12_rowOf 2 13 vX12_rowOf_13 := by
  unfold vX12_rowOf_13
  refine s_iload_n hZ.1 dX12_rowOf_13 rfl ?_
  exact s_if_lt dX12_rowOf_14 (by decide) (wX12_rowOf_26 hZ) (wX12_rowOf_17 hZ)
noncomputable def vX12_rowOf_0 : rx_K := o_ld rx_isR 0 (o_ld rx_isI 1 (o_ld rx_isI 2 (o_callV 2 12 FX12_buildOf (o_st rx_isR 4 (o_ld rx_isR 4 (o_nul vX12_rowOf_26 vX12_rowOf_13))))))
set_option maxRecDepth 20000 in
theorem wX12_rowOf_0 (hZ : zO b e D A X) : rx_OK (zV b e D A X) mX12_rowOf 2 0 vX12_rowOf_0 := by
  unfold vX12_rowOf_0
  refine s_aload_n hZ.1 dX12_rowOf_0 rfl ?_
  refine s_iload_n hZ.1 dX12_rowOf_1 rfl ?_
  refine s_iload_n hZ.1 dX12_rowOf_2 rfl ?_
  refine s_callV hZ.1 (Met_X12_buildOf hZ) (Nat.le_of_ble_eq_true rfl) vy_X12_buildOf zcl12 zw1559 zw1 (Or.inl zw1557) dX12_rowOf_3 ?_
  refine s_astore hZ.1 dX12_rowOf_6 (Nat.le_of_ble_eq_true rfl) ?_
  refine s_aload hZ.1 dX12_rowOf_8 ?_
  exact s_ifnull dX12_rowOf_10 (by decide) (wX12_rowOf_26 hZ) (wX12_rowOf_13 hZ)
noncomputable def FX12_rowOf : List Nat → rx_H → Option (Nat × rx_H) := rx_ent 5 vX12_rowOf_0
theorem Met_X12_rowOf (hZ : zO b e D A X) : rx_Met (zV b e D A X) 2 yX12_rowOf mX12_rowOf (FX12_rowOf) := rx_entry hZ.1 (wX12_rowOf_0 hZ) (by decide +kernel) rfl (fun h => by cases h)
abbrev mX12_isFull : rx_M := (RX12, cX12_isFull, 2, (some .boolean), false)
theorem vy_X12_isFull : rx_Y (zV b e D A X) yX12_isFull mX12_isFull 1 := ⟨zw1715, zw413, by decide, by decide +kernel, by decide +kernel, by decide +kernel⟩
noncomputable def vX12_isFull_25 : rx_K := o_ret1 rx_isZ
set_option maxRecDepth 20000 in
theorem wX12_isFull_25 (hZ : zO b e D A X) : rx_OK (zV b e D A X) mX12_isFull 1 25 vX12_isFull_25 := by
  unfold vX12_isFull_25
  exact s_zret rx_z_ok rfl dX12_isFull_25
noncomputable def vX12_isFull_24 : rx_K := o_const 0 (vX12_isFull_25)
set_option maxRecDepth 20000 in
theorem wX12_isFull_24 (hZ : zO b e D A X) : rx_OK (zV b e D A X) mX12_isFull 1 24 vX12_isFull_24 := by
  unfold vX12_isFull_24
  refine s_iconst dX12_isFull_24 (by decide +kernel) ?_
  exact (wX12_isFull_25 hZ)
noncomputable def vX12_isFull_20 : rx_K := o_const 8 (vX12_isFull_25)
set_option maxRecDepth 20000 in
theorem wX12_isFull_20 (hZ : zO b e D A X) : rx_OK (zV b e D A X) mX12_isFull 1 20 vX12_isFull_20 := by
  unfold vX12_isFull_20
  refine s_iconst dX12_isFull_20 (by decide +kernel) ?_
  exact s_goto dX12_isFull_21 (by decide) (wX12_isFull_25 hZ)
noncomputable def vX12_isFull_11 : rx_K := o_ld rx_isR 0 (o_callV 0 12 FX12_allBuilt (o_const 128 (o_c2 rx_lt vX12_isFull_24 vX12_isFull_20)))
set_option maxRecDepth 20000 in
theorem wX12_isFull_11 (hZ : zO b e D A X) : rx_OK (zV b e D A X) mX12_isFull 1 11 vX12_isFull_11 := by
  unfold vX12_isFull_11
  refine s_aload_n hZ.1 dX12_isFull_11 rfl ?_
  refine s_callV hZ.1 (Met_X12_allBuilt hZ) (Nat.le_of_ble_eq_true rfl) vy_X12_allBuilt zcl12 zw1563 zw2 (Or.inl zw1561) dX12_isFull_12 ?_
  refine s_bipush dX12_isFull_15 (by decide +kernel) ?_
  exact s_icmp_lt dX12_isFull_17 (by decide) (wX12_isFull_24 hZ) (wX12_isFull_20 hZ)
noncomputable def vX12_isFull_0 : rx_K := o_ld rx_isR 0 (o_getf 12 5 (o_ld rx_isI 1 (o_ald 0 (o_const 64 (o_c2 rx_lt vX12_isFull_11 vX12_isFull_20)))))
set_option maxRecDepth 20000 in
theorem wX12_isFull_0 (hZ : zO b e D A X) : rx_OK (zV b e D A X) mX12_isFull 1 0 vX12_isFull_0 := by
  unfold vX12_isFull_0
  refine s_aload_n hZ.1 dX12_isFull_0 rfl ?_
  refine yg12_5 dX12_isFull_1 zw1608 ?_
  refine s_iload_n hZ.1 dX12_isFull_4 rfl ?_
  refine s_iald (tt := 0) rfl dX12_isFull_5 ?_
  refine s_bipush dX12_isFull_6 (by decide +kernel) ?_
  exact s_icmp_ge dX12_isFull_8 (by decide) (wX12_isFull_20 hZ) (wX12_isFull_11 hZ)
noncomputable def FX12_isFull : List Nat → rx_H → Option (Nat × rx_H) := rx_ent 2 vX12_isFull_0
theorem Met_X12_isFull (hZ : zO b e D A X) : rx_Met (zV b e D A X) 1 yX12_isFull mX12_isFull (FX12_isFull) := rx_entry hZ.1 (wX12_isFull_0 hZ) (by decide +kernel) rfl (fun h => by cases h)
abbrev mX12_faulted : rx_M := (RX12, cX12_faulted, 3, (some .int), false)
theorem vy_X12_faulted : rx_Y (zV b e D A X) yX12_faulted mX12_faulted 2 := ⟨zw1887, zw413, by decide, by decide +kernel, by decide +kernel, by decide +kernel⟩
noncomputable def vX12_faulted_0 : rx_K := o_ld rx_isR 0 (o_ld rx_isR 0 (o_getf 12 8 (o_getf 9 2 (o_ld rx_isI 2 (o_ald 0 (o_putf rx_isI 12 12 (o_const 34359738288 (o_ld rx_isI 1 (o_bi (fun x y => x - y) (o_ret1 rx_isI))))))))))
set_option maxRecDepth 20000 in
theorem wX12_faulted_0 (hZ : zO b e D A X) : rx_OK (zV b e D A X) mX12_faulted 0 0 vX12_faulted_0 := by
  unfold vX12_faulted_0
  refine s_aload_n hZ.1 dX12_faulted_0 rfl ?_
  refine s_aload_n hZ.1 dX12_faulted_1 rfl ?_
  refine yg12_8 dX12_faulted_2 zw1611 ?_
  refine yg9_2 dX12_faulted_5 zw584 ?_
  refine s_iload_n hZ.1 dX12_faulted_8 rfl ?_
  refine s_iald (tt := 0) rfl dX12_faulted_9 ?_
  refine yp12_12 hZ.1 dX12_faulted_10 zw1615 ?_
  refine s_bipush dX12_faulted_13 (by decide +kernel) ?_
  refine s_iload_n hZ.1 dX12_faulted_15 rfl ?_
  refine s_isub dX12_faulted_16 ?_
  exact s_iret hZ.1 rfl dX12_faulted_17
noncomputable def FX12_faulted : List Nat → rx_H → Option (Nat × rx_H) := rx_ent 3 vX12_faulted_0
theorem Met_X12_faulted (hZ : zO b e D A X) : rx_Met (zV b e D A X) 0 yX12_faulted mX12_faulted (FX12_faulted) := rx_entry hZ.1 (wX12_faulted_0 hZ) (by decide +kernel) rfl (fun h => by cases h)
abbrev mX12_keep : rx_M := (RX12, cX12_keep, 3, (some .int), false)
theorem vy_X12_keep : rx_Y (zV b e D A X) yX12_keep mX12_keep 2 := ⟨zw2339, zw413, by decide, by decide +kernel, by decide +kernel, by decide +kernel⟩
noncomputable def vX12_keep_0 : rx_K := o_ld rx_isR 1 (o_ld rx_isI 2 (o_putf rx_isI 1 0 (o_ld rx_isR 1 (o_ld rx_isR 0 (o_getf 12 5 (o_ld rx_isI 2 (o_ald 0 (o_putf rx_isI 1 1 (o_ld rx_isR 0 (o_getf 12 5 (o_ld rx_isI 2 (o_dup2 (o_ald 0 (o_const 8 (o_bi (fun x y => x + y) (o_ast 0 (fun v => v) rx_isI (o_ld rx_isR 1 (o_getf 1 1 (o_ret1 rx_isI)))))))))))))))))))
set_option maxRecDepth 20000 in
theorem wX12_keep_0 (hZ : zO b e D A X) : rx_OK (zV b e D A X) mX12_keep 0 0 vX12_keep_0 := by
  unfold vX12_keep_0
  refine s_aload_n hZ.1 dX12_keep_0 rfl ?_
  refine s_iload_n hZ.1 dX12_keep_1 rfl ?_
  refine yp1_0 hZ.1 dX12_keep_2 zw1111 ?_
  refine s_aload_n hZ.1 dX12_keep_5 rfl ?_
  refine s_aload_n hZ.1 dX12_keep_6 rfl ?_
  refine yg12_5 dX12_keep_7 zw1608 ?_
  refine s_iload_n hZ.1 dX12_keep_10 rfl ?_
  refine s_iald (tt := 0) rfl dX12_keep_11 ?_
  refine yp1_1 hZ.1 dX12_keep_12 zw1112 ?_
  refine s_aload_n hZ.1 dX12_keep_15 rfl ?_
  refine yg12_5 dX12_keep_16 zw1608 ?_
  refine s_iload_n hZ.1 dX12_keep_19 rfl ?_
  refine s_dup2 hZ.1 dX12_keep_20 ?_
  refine s_iald (tt := 0) rfl dX12_keep_21 ?_
  refine s_iconst dX12_keep_22 (by decide +kernel) ?_
  refine s_iadd dX12_keep_23 ?_
  refine s_iast hZ.1 (tt := 0) rfl dX12_keep_24 ?_
  refine s_aload_n hZ.1 dX12_keep_25 rfl ?_
  refine yg1_1 dX12_keep_26 zw1112 ?_
  exact s_iret hZ.1 rfl dX12_keep_29
noncomputable def FX12_keep : List Nat → rx_H → Option (Nat × rx_H) := rx_ent 3 vX12_keep_0
theorem Met_X12_keep (hZ : zO b e D A X) : rx_Met (zV b e D A X) 0 yX12_keep mX12_keep (FX12_keep) := rx_entry hZ.1 (wX12_keep_0 hZ) (by decide +kernel) rfl (fun h => by cases h)
end ZM30

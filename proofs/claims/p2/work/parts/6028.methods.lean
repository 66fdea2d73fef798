section ZM28
variable {b : Nat} {e : Nat → Value} {D : va_G} {A : Nat → ClassId} {X : State → Prop}
abbrev mX9_readMember : rx_M := (RX9, cX9_readMember, 4, (some .boolean), false)
theorem vy_X9_readMember : rx_Y (zV b e D A X) yX9_readMember mX9_readMember 1 := ⟨zw1784, zw414, by decide, by decide +kernel, by decide +kernel, by decide +kernel⟩
noncomputable def vX9_readMember_284 : rx_K := o_ret1 rx_isZ
set_option maxRecDepth 20000 in
theorem wX9_readMember_284 (hZ : zO b e D A X) : rx_OK (zV b e D A X) mX9_readMember 4 284 vX9_readMember_284 := by
  unfold vX9_readMember_284
  exact s_zret rx_z_ok rfl dX9_readMember_284
noncomputable def vX9_readMember_283 : rx_K := o_const 0 (vX9_readMember_284)
set_option maxRecDepth 20000 in
theorem wX9_readMember_283 (hZ : zO b e D A X) : rx_OK (zV b e D A X) mX9_readMember 4 283 vX9_readMember_283 := by
  unfold vX9_readMember_283
  refine s_iconst dX9_readMember_283 (by decide +kernel) ?_
  exact (wX9_readMember_284 hZ)
noncomputable def vX9_readMember_279 : rx_K := o_const 8 (vX9_readMember_284)
set_option maxRecDepth 20000 in
theorem wX9_readMember_279 (hZ : zO b e D A X) : rx_OK (zV b e D A X) mX9_readMember 4 279 vX9_readMember_279 := by
  unfold vX9_readMember_279
  refine s_iconst dX9_readMember_279 (by decide +kernel) ?_
  exact s_goto dX9_readMember_280 (by decide) (wX9_readMember_284 hZ)
noncomputable def vX9_readMember_271 : rx_K := o_ld rx_isR 0 (o_ld rx_isR 3 (o_callV 1 9 FX9_readTyped (o_c1 rx_eq vX9_readMember_283 vX9_readMember_279)))
set_option maxRecDepth 20000 in
theorem wX9_readMember_271 (hZ : zO b e D A X) : rx_OK (zV b e D A X) mX9_readMember 4 271 vX9_readMember_271 := by
  unfold vX9_readMember_271
  refine s_aload_n hZ.1 dX9_readMember_271 rfl ?_
  refine s_aload_n hZ.1 dX9_readMember_272 rfl ?_
  refine s_callV hZ.1 (Met_X9_readTyped hZ) (Nat.le_of_ble_eq_true rfl) vy_X9_readTyped zcl9 zw1798 zw22 (Or.inl zw1796) dX9_readMember_273 ?_
  exact s_if_eq dX9_readMember_276 (by decide) (wX9_readMember_283 hZ) (wX9_readMember_279 hZ)
noncomputable def vX9_readMember_264 : rx_K := o_ld rx_isR 0 (o_callV 0 9 FX9_take (o_c1 rx_eq vX9_readMember_283 vX9_readMember_271))
set_option maxRecDepth 20000 in
theorem wX9_readMember_264 (hZ : zO b e D A X) : rx_OK (zV b e D A X) mX9_readMember 4 264 vX9_readMember_264 := by
  unfold vX9_readMember_264
  refine s_aload_n hZ.1 dX9_readMember_264 rfl ?_
  refine s_callV hZ.1 (Met_X9_take hZ) (Nat.le_of_ble_eq_true rfl) vy_X9_take zcl9 zw1754 zw14 (Or.inl zw1752) dX9_readMember_265 ?_
  exact s_if_eq dX9_readMember_268 (by decide) (wX9_readMember_283 hZ) (wX9_readMember_271 hZ)
noncomputable def vX9_readMember_257 : rx_K := o_ld rx_isR 3 (o_getf 7 4 (o_c1 rx_eq vX9_readMember_271 vX9_readMember_264))
set_option maxRecDepth 20000 in
theorem wX9_readMember_257 (hZ : zO b e D A X) : rx_OK (zV b e D A X) mX9_readMember 4 257 vX9_readMember_257 := by
  unfold vX9_readMember_257
  refine s_aload_n hZ.1 dX9_readMember_257 rfl ?_
  refine yg7_4 dX9_readMember_258 zw985 ?_
  exact s_if_eq dX9_readMember_261 (by decide) (wX9_readMember_271 hZ) (wX9_readMember_264 hZ)
noncomputable def vX9_readMember_247 : rx_K := o_putf rx_isZ 7 4 (o_ld rx_isR 3 (o_getf 7 3 (o_c1 rx_eq vX9_readMember_257 vX9_readMember_264)))
set_option maxRecDepth 20000 in
theorem wX9_readMember_247 (hZ : zO b e D A X) : rx_OK (zV b e D A X) mX9_readMember 4 247 vX9_readMember_247 := by
  unfold vX9_readMember_247
  refine yp7_4 hZ.1 dX9_readMember_247 zw985 ?_
  refine s_aload_n hZ.1 dX9_readMember_250 rfl ?_
  refine yg7_3 dX9_readMember_251 zw977 ?_
  exact s_if_ne dX9_readMember_254 (by decide) (wX9_readMember_264 hZ) (wX9_readMember_257 hZ)
noncomputable def vX9_readMember_246 : rx_K := o_const 0 (vX9_readMember_247)
set_option maxRecDepth 20000 in
theorem wX9_readMember_246 (hZ : zO b e D A X) : rx_OK (zV b e D A X) mX9_readMember 4 246 vX9_readMember_246 := by
  unfold vX9_readMember_246
  refine s_iconst dX9_readMember_246 (by decide +kernel) ?_
  exact (wX9_readMember_247 hZ)
noncomputable def vX9_readMember_242 : rx_K := o_const 8 (vX9_readMember_247)
set_option maxRecDepth 20000 in
theorem wX9_readMember_242 (hZ : zO b e D A X) : rx_OK (zV b e D A X) mX9_readMember 4 242 vX9_readMember_242 := by
  unfold vX9_readMember_242
  refine s_iconst dX9_readMember_242 (by decide +kernel) ?_
  exact s_goto dX9_readMember_243 (by decide) (wX9_readMember_247 hZ)
noncomputable def vX9_readMember_229 : rx_K := o_putf rx_isZ 7 3 (o_ld rx_isR 3 (o_ld rx_isR 0 (o_callV 0 9 FX9_now (o_const 168 (o_c2 rx_eq vX9_readMember_242 vX9_readMember_246)))))
set_option maxRecDepth 20000 in
theorem wX9_readMember_229 (hZ : zO b e D A X) : rx_OK (zV b e D A X) mX9_readMember 4 229 vX9_readMember_229 := by
  unfold vX9_readMember_229
  refine yp7_3 hZ.1 dX9_readMember_229 zw977 ?_
  refine s_aload_n hZ.1 dX9_readMember_232 rfl ?_
  refine s_aload_n hZ.1 dX9_readMember_233 rfl ?_
  refine s_callV hZ.1 (Met_X9_now hZ) (Nat.le_of_ble_eq_true rfl) vy_X9_now zcl9 zw1746 zw12 (Or.inl zw1744) dX9_readMember_234 ?_
  refine s_bipush dX9_readMember_237 (by decide +kernel) ?_
  exact s_icmp_ne dX9_readMember_239 (by decide) (wX9_readMember_246 hZ) (wX9_readMember_242 hZ)
noncomputable def vX9_readMember_228 : rx_K := o_const 0 (vX9_readMember_229)
set_option maxRecDepth 20000 in
theorem wX9_readMember_228 (hZ : zO b e D A X) : rx_OK (zV b e D A X) mX9_readMember 4 228 vX9_readMember_228 := by
  unfold vX9_readMember_228
  refine s_iconst dX9_readMember_228 (by decide +kernel) ?_
  exact (wX9_readMember_229 hZ)
noncomputable def vX9_readMember_224 : rx_K := o_const 8 (vX9_readMember_229)
set_option maxRecDepth 20000 in
theorem wX9_readMember_224 (hZ : zO b e D A X) : rx_OK (zV b e D A X) mX9_readMember 4 224 vX9_readMember_224 := by
  unfold vX9_readMember_224
  refine s_iconst dX9_readMember_224 (by decide +kernel) ?_
  exact s_goto dX9_readMember_225 (by decide) (wX9_readMember_229 hZ)
noncomputable def vX9_readMember_214 : rx_K := o_ld rx_isR 3 (o_ld rx_isR 0 (o_callV 0 9 FX9_now (o_const 160 (o_c2 rx_eq vX9_readMember_224 vX9_readMember_228))))
set_option maxRecDepth 20000 in
theorem wX9_readMember_214 (hZ : zO b e D A X) : rx_OK (zV b e D A X) mX9_readMember 4 214 vX9_readMember_214 := by
  unfold vX9_readMember_214
  refine s_aload_n hZ.1 dX9_readMember_214 rfl ?_
  refine s_aload_n hZ.1 dX9_readMember_215 rfl ?_
  refine s_callV hZ.1 (Met_X9_now hZ) (Nat.le_of_ble_eq_true rfl) vy_X9_now zcl9 zw1746 zw12 (Or.inl zw1744) dX9_readMember_216 ?_
  refine s_bipush dX9_readMember_219 (by decide +kernel) ?_
  exact s_icmp_ne dX9_readMember_221 (by decide) (wX9_readMember_228 hZ) (wX9_readMember_224 hZ)
noncomputable def vX9_readMember_212 : rx_K := o_const 0 (o_ret1 rx_isZ)
set_option maxRecDepth 20000 in
theorem wX9_readMember_212 (hZ : zO b e D A X) : rx_OK (zV b e D A X) mX9_readMember 4 212 vX9_readMember_212 := by
  unfold vX9_readMember_212
  refine s_iconst dX9_readMember_212 (by decide +kernel) ?_
  exact s_zret rx_z_ok rfl dX9_readMember_213
noncomputable def vX9_readMember_205 : rx_K := o_ld rx_isR 0 (o_callV 0 9 FX9_take (o_c1 rx_eq vX9_readMember_212 vX9_readMember_214))
set_option maxRecDepth 20000 in
theorem wX9_readMember_205 (hZ : zO b e D A X) : rx_OK (zV b e D A X) mX9_readMember 4 205 vX9_readMember_205 := by
  unfold vX9_readMember_205
  refine s_aload_n hZ.1 dX9_readMember_205 rfl ?_
  refine s_callV hZ.1 (Met_X9_take hZ) (Nat.le_of_ble_eq_true rfl) vy_X9_take zcl9 zw1754 zw14 (Or.inl zw1752) dX9_readMember_206 ?_
  exact s_if_ne dX9_readMember_209 (by decide) (wX9_readMember_214 hZ) (wX9_readMember_212 hZ)
noncomputable def vX9_readMember_195 : rx_K := o_putf rx_isZ 7 2 (o_ld rx_isR 3 (o_getf 7 2 (o_c1 rx_eq vX9_readMember_214 vX9_readMember_205)))
set_option maxRecDepth 20000 in
theorem wX9_readMember_195 (hZ : zO b e D A X) : rx_OK (zV b e D A X) mX9_readMember 4 195 vX9_readMember_195 := by
  unfold vX9_readMember_195
  refine yp7_2 hZ.1 dX9_readMember_195 zw970 ?_
  refine s_aload_n hZ.1 dX9_readMember_198 rfl ?_
  refine yg7_2 dX9_readMember_199 zw970 ?_
  exact s_if_eq dX9_readMember_202 (by decide) (wX9_readMember_214 hZ) (wX9_readMember_205 hZ)
noncomputable def vX9_readMember_194 : rx_K := o_const 0 (vX9_readMember_195)
set_option maxRecDepth 20000 in
theorem wX9_readMember_194 (hZ : zO b e D A X) : rx_OK (zV b e D A X) mX9_readMember 4 194 vX9_readMember_194 := by
  unfold vX9_readMember_194
  refine s_iconst dX9_readMember_194 (by decide +kernel) ?_
  exact (wX9_readMember_195 hZ)
noncomputable def vX9_readMember_190 : rx_K := o_const 8 (vX9_readMember_195)
set_option maxRecDepth 20000 in
theorem wX9_readMember_190 (hZ : zO b e D A X) : rx_OK (zV b e D A X) mX9_readMember 4 190 vX9_readMember_190 := by
  unfold vX9_readMember_190
  refine s_iconst dX9_readMember_190 (by decide +kernel) ?_
  exact s_goto dX9_readMember_191 (by decide) (wX9_readMember_195 hZ)
noncomputable def vX9_readMember_180 : rx_K := o_ld rx_isR 3 (o_ld rx_isR 0 (o_callV 0 9 FX9_now (o_const 176 (o_c2 rx_eq vX9_readMember_190 vX9_readMember_194))))
set_option maxRecDepth 20000 in
theorem wX9_readMember_180 (hZ : zO b e D A X) : rx_OK (zV b e D A X) mX9_readMember 4 180 vX9_readMember_180 := by
  unfold vX9_readMember_180
  refine s_aload_n hZ.1 dX9_readMember_180 rfl ?_
  refine s_aload_n hZ.1 dX9_readMember_181 rfl ?_
  refine s_callV hZ.1 (Met_X9_now hZ) (Nat.le_of_ble_eq_true rfl) vy_X9_now zcl9 zw1746 zw12 (Or.inl zw1744) dX9_readMember_182 ?_
  refine s_bipush dX9_readMember_185 (by decide +kernel) ?_
  exact s_icmp_ne dX9_readMember_187 (by decide) (wX9_readMember_194 hZ) (wX9_readMember_190 hZ)
noncomputable def vX9_readMember_179 : rx_K := o_ret1 rx_isZ
set_option maxRecDepth 20000 in
theorem wX9_readMember_179 (hZ : zO b e D A X) : rx_OK (zV b e D A X) mX9_readMember 4 179 vX9_readMember_179 := by
  unfold vX9_readMember_179
  exact s_zret rx_z_ok rfl dX9_readMember_179
noncomputable def vX9_readMember_178 : rx_K := o_const 0 (vX9_readMember_179)
set_option maxRecDepth 20000 in
theorem wX9_readMember_178 (hZ : zO b e D A X) : rx_OK (zV b e D A X) mX9_readMember 4 178 vX9_readMember_178 := by
  unfold vX9_readMember_178
  refine s_iconst dX9_readMember_178 (by decide +kernel) ?_
  exact (wX9_readMember_179 hZ)
noncomputable def vX9_readMember_174 : rx_K := o_const 8 (vX9_readMember_179)
set_option maxRecDepth 20000 in
theorem wX9_readMember_174 (hZ : zO b e D A X) : rx_OK (zV b e D A X) mX9_readMember 4 174 vX9_readMember_174 := by
  unfold vX9_readMember_174
  refine s_iconst dX9_readMember_174 (by decide +kernel) ?_
  exact s_goto dX9_readMember_175 (by decide) (wX9_readMember_179 hZ)
noncomputable def vX9_readMember_166 : rx_K := o_ld rx_isR 0 (o_ld rx_isR 3 (o_callV 1 9 FX9_readParams (o_c1 rx_eq vX9_readMember_178 vX9_readMember_174)))
set_option maxRecDepth 20000 in
theorem wX9_readMember_166 (hZ : zO b e D A X) : rx_OK (zV b e D A X) mX9_readMember 4 166 vX9_readMember_166 := by
  unfold vX9_readMember_166
  refine s_aload_n hZ.1 dX9_readMember_166 rfl ?_
  refine s_aload_n hZ.1 dX9_readMember_167 rfl ?_
  refine s_callV hZ.1 (Met_X9_readParams hZ) (Nat.le_of_ble_eq_true rfl) vy_X9_readParams zcl9 zw1793 zw21 (Or.inl zw1791) dX9_readMember_168 ?_
  exact s_if_eq dX9_readMember_171 (by decide) (wX9_readMember_178 hZ) (wX9_readMember_174 hZ)
noncomputable def vX9_readMember_146 : rx_K := o_ld rx_isR 3 (o_const 16 (o_putf rx_isI 7 0 (o_ld rx_isR 3 (o_ld rx_isR 0 (o_getf 9 8 (o_putf rx_isI 7 11 (o_ld rx_isR 0 (o_callV 0 9 FX9_take (o_c1 rx_eq vX9_readMember_178 vX9_readMember_166)))))))))
set_option maxRecDepth 20000 in
theorem wX9_readMember_146 (hZ : zO b e D A X) : rx_OK (zV b e D A X) mX9_readMember 4 146 vX9_readMember_146 := by
  unfold vX9_readMember_146
  refine s_aload_n hZ.1 dX9_readMember_146 rfl ?_
  refine s_iconst dX9_readMember_147 (by decide +kernel) ?_
  refine yp7_0 hZ.1 dX9_readMember_148 zw951 ?_
  refine s_aload_n hZ.1 dX9_readMember_151 rfl ?_
  refine s_aload_n hZ.1 dX9_readMember_152 rfl ?_
  refine yg9_8 dX9_readMember_153 zw592 ?_
  refine yp7_11 hZ.1 dX9_readMember_156 zw1039 ?_
  refine s_aload_n hZ.1 dX9_readMember_159 rfl ?_
  refine s_callV hZ.1 (Met_X9_take hZ) (Nat.le_of_ble_eq_true rfl) vy_X9_take zcl9 zw1754 zw14 (Or.inl zw1752) dX9_readMember_160 ?_
  exact s_if_eq dX9_readMember_163 (by decide) (wX9_readMember_178 hZ) (wX9_readMember_166 hZ)
noncomputable def vX9_readMember_137 : rx_K := o_ld rx_isR 0 (o_callV 0 9 FX9_now (o_const 200 (o_c2 rx_eq vX9_readMember_146 vX9_readMember_180)))
set_option maxRecDepth 20000 in
theorem wX9_readMember_137 (hZ : zO b e D A X) : rx_OK (zV b e D A X) mX9_readMember 4 137 vX9_readMember_137 := by
  unfold vX9_readMember_137
  refine s_aload_n hZ.1 dX9_readMember_137 rfl ?_
  refine s_callV hZ.1 (Met_X9_now hZ) (Nat.le_of_ble_eq_true rfl) vy_X9_now zcl9 zw1746 zw12 (Or.inl zw1744) dX9_readMember_138 ?_
  refine s_bipush dX9_readMember_141 (by decide +kernel) ?_
  exact s_icmp_ne dX9_readMember_143 (by decide) (wX9_readMember_180 hZ) (wX9_readMember_146 hZ)
noncomputable def vX9_readMember_135 : rx_K := o_const 0 (o_ret1 rx_isZ)
set_option maxRecDepth 20000 in
theorem wX9_readMember_135 (hZ : zO b e D A X) : rx_OK (zV b e D A X) mX9_readMember 4 135 vX9_readMember_135 := by
  unfold vX9_readMember_135
  refine s_iconst dX9_readMember_135 (by decide +kernel) ?_
  exact s_zret rx_z_ok rfl dX9_readMember_136
noncomputable def vX9_readMember_125 : rx_K := o_putf rx_isI 7 1 (o_ld rx_isR 0 (o_callV 0 9 FX9_take (o_c1 rx_eq vX9_readMember_135 vX9_readMember_137)))
set_option maxRecDepth 20000 in
theorem wX9_readMember_125 (hZ : zO b e D A X) : rx_OK (zV b e D A X) mX9_readMember 4 125 vX9_readMember_125 := by
  unfold vX9_readMember_125
  refine yp7_1 hZ.1 dX9_readMember_125 zw958 ?_
  refine s_aload_n hZ.1 dX9_readMember_128 rfl ?_
  refine s_callV hZ.1 (Met_X9_take hZ) (Nat.le_of_ble_eq_true rfl) vy_X9_take zcl9 zw1754 zw14 (Or.inl zw1752) dX9_readMember_129 ?_
  exact s_if_ne dX9_readMember_132 (by decide) (wX9_readMember_137 hZ) (wX9_readMember_135 hZ)
noncomputable def vX9_readMember_124 : rx_K := o_const 0 (vX9_readMember_125)
set_option maxRecDepth 20000 in
theorem wX9_readMember_124 (hZ : zO b e D A X) : rx_OK (zV b e D A X) mX9_readMember 4 124 vX9_readMember_124 := by
  unfold vX9_readMember_124
  refine s_iconst dX9_readMember_124 (by decide +kernel) ?_
  exact (wX9_readMember_125 hZ)
noncomputable def vX9_readMember_120 : rx_K := o_const 16 (vX9_readMember_125)
set_option maxRecDepth 20000 in
theorem wX9_readMember_120 (hZ : zO b e D A X) : rx_OK (zV b e D A X) mX9_readMember 4 120 vX9_readMember_120 := by
  unfold vX9_readMember_120
  refine s_iconst dX9_readMember_120 (by decide +kernel) ?_
  exact s_goto dX9_readMember_121 (by decide) (wX9_readMember_125 hZ)
noncomputable def vX9_readMember_114 : rx_K := o_ld rx_isI 2 (o_const 144 (o_c2 rx_eq vX9_readMember_120 vX9_readMember_124))
set_option maxRecDepth 20000 in
theorem wX9_readMember_114 (hZ : zO b e D A X) : rx_OK (zV b e D A X) mX9_readMember 4 114 vX9_readMember_114 := by
  unfold vX9_readMember_114
  refine s_iload_n hZ.1 dX9_readMember_114 rfl ?_
  refine s_bipush dX9_readMember_115 (by decide +kernel) ?_
  exact s_icmp_ne dX9_readMember_117 (by decide) (wX9_readMember_124 hZ) (wX9_readMember_120 hZ)
noncomputable def vX9_readMember_110 : rx_K := o_const 24 (vX9_readMember_125)
set_option maxRecDepth 20000 in
theorem wX9_readMember_110 (hZ : zO b e D A X) : rx_OK (zV b e D A X) mX9_readMember 4 110 vX9_readMember_110 := by
  unfold vX9_readMember_110
  refine s_iconst dX9_readMember_110 (by decide +kernel) ?_
  exact s_goto dX9_readMember_111 (by decide) (wX9_readMember_125 hZ)
noncomputable def vX9_readMember_103 : rx_K := o_ld rx_isR 3 (o_ld rx_isI 2 (o_const 136 (o_c2 rx_eq vX9_readMember_110 vX9_readMember_114)))
set_option maxRecDepth 20000 in
theorem wX9_readMember_103 (hZ : zO b e D A X) : rx_OK (zV b e D A X) mX9_readMember 4 103 vX9_readMember_103 := by
  unfold vX9_readMember_103
  refine s_aload_n hZ.1 dX9_readMember_103 rfl ?_
  refine s_iload_n hZ.1 dX9_readMember_104 rfl ?_
  refine s_bipush dX9_readMember_105 (by decide +kernel) ?_
  exact s_icmp_ne dX9_readMember_107 (by decide) (wX9_readMember_114 hZ) (wX9_readMember_110 hZ)
noncomputable def vX9_readMember_97 : rx_K := o_ld rx_isI 2 (o_const 152 (o_c2 (fun h x y => rx_lt h y x) vX9_readMember_137 vX9_readMember_103))
set_option maxRecDepth 20000 in
theorem wX9_readMember_97 (hZ : zO b e D A X) : rx_OK (zV b e D A X) mX9_readMember 4 97 vX9_readMember_97 := by
  unfold vX9_readMember_97
  refine s_iload_n hZ.1 dX9_readMember_97 rfl ?_
  refine s_bipush dX9_readMember_98 (by decide +kernel) ?_
  exact s_icmp_gt dX9_readMember_100 (by decide) (wX9_readMember_137 hZ) (wX9_readMember_103 hZ)
noncomputable def vX9_readMember_86 : rx_K := o_ld rx_isR 1 (o_ld rx_isR 3 (o_callV 1 10 FX10_add (o_ld rx_isI 2 (o_const 136 (o_c2 rx_lt vX9_readMember_137 vX9_readMember_97)))))
set_option maxRecDepth 20000 in
theorem wX9_readMember_86 (hZ : zO b e D A X) : rx_OK (zV b e D A X) mX9_readMember 4 86 vX9_readMember_86 := by
  unfold vX9_readMember_86
  refine s_aload_n hZ.1 dX9_readMember_86 rfl ?_
  refine s_aload_n hZ.1 dX9_readMember_87 rfl ?_
  refine s_callV hZ.1 (Met_X10_add hZ) (Nat.le_of_ble_eq_true rfl) vy_X10_add zcl10 zw1244 zw1245 (Or.inl zw1790) dX9_readMember_88 ?_
  refine s_iload_n hZ.1 dX9_readMember_91 rfl ?_
  refine s_bipush dX9_readMember_92 (by decide +kernel) ?_
  exact s_icmp_lt dX9_readMember_94 (by decide) (wX9_readMember_137 hZ) (wX9_readMember_97 hZ)
noncomputable def vX9_readMember_68 : rx_K := o_ld rx_isR 3 (o_const 24 (o_putf rx_isI 7 0 (o_ld rx_isR 3 (o_ld rx_isR 0 (o_getf 9 8 (o_putf rx_isI 7 11 (o_ld rx_isR 0 (o_callV 0 9 FX9_take (o_ret1 rx_isZ)))))))))
set_option maxRecDepth 20000 in
theorem wX9_readMember_68 (hZ : zO b e D A X) : rx_OK (zV b e D A X) mX9_readMember 4 68 vX9_readMember_68 := by
  unfold vX9_readMember_68
  refine s_aload_n hZ.1 dX9_readMember_68 rfl ?_
  refine s_iconst dX9_readMember_69 (by decide +kernel) ?_
  refine yp7_0 hZ.1 dX9_readMember_70 zw951 ?_
  refine s_aload_n hZ.1 dX9_readMember_73 rfl ?_
  refine s_aload_n hZ.1 dX9_readMember_74 rfl ?_
  refine yg9_8 dX9_readMember_75 zw592 ?_
  refine yp7_11 hZ.1 dX9_readMember_78 zw1039 ?_
  refine s_aload_n hZ.1 dX9_readMember_81 rfl ?_
  refine s_callV hZ.1 (Met_X9_take hZ) (Nat.le_of_ble_eq_true rfl) vy_X9_take zcl9 zw1754 zw14 (Or.inl zw1752) dX9_readMember_82 ?_
  exact s_zret rx_z_ok rfl dX9_readMember_85
noncomputable def vX9_readMember_42 : rx_K := o_ld rx_isR 0 (o_getf 9 11 (o_callV 0 1 FX1_newMember (o_st rx_isR 3 (o_ld rx_isR 1 (o_ld rx_isR 3 (o_callV 1 10 FX10_addItem (o_ld rx_isR 0 (o_const 1784 (o_putf rx_isI 9 12 (o_ld rx_isI 2 (o_const 184 (o_c2 rx_eq vX9_readMember_68 vX9_readMember_86))))))))))))
set_option maxRecDepth 20000 in
theorem wX9_readMember_42 (hZ : zO b e D A X) : rx_OK (zV b e D A X) mX9_readMember 4 42 vX9_readMember_42 := by
  unfold vX9_readMember_42
  refine s_aload_n hZ.1 dX9_readMember_42 rfl ?_
  refine yg9_11 dX9_readMember_43 zw597 ?_
  refine s_callV hZ.1 (Met_X1_newMember hZ) (Nat.le_of_ble_eq_true rfl) vy_X1_newMember zcl1 zw1228 zw1229 (Or.inl zw1785) dX9_readMember_46 ?_
  refine s_astore_n hZ.1 dX9_readMember_49 rfl (Nat.le_of_ble_eq_true rfl) ?_
  refine s_aload_n hZ.1 dX9_readMember_50 rfl ?_
  refine s_aload_n hZ.1 dX9_readMember_51 rfl ?_
  refine s_callV hZ.1 (Met_X10_addItem hZ) (Nat.le_of_ble_eq_true rfl) vy_X10_addItem zcl10 zw1787 zw1788 (Or.inl zw1786) dX9_readMember_52 ?_
  refine s_aload_n hZ.1 dX9_readMember_55 rfl ?_
  refine s_sipush dX9_readMember_56 (by decide +kernel) ?_
  refine yp9_12 hZ.1 dX9_readMember_59 zw598 ?_
  refine s_iload_n hZ.1 dX9_readMember_62 rfl ?_
  refine s_bipush dX9_readMember_63 (by decide +kernel) ?_
  exact s_icmp_ne dX9_readMember_65 (by decide) (wX9_readMember_86 hZ) (wX9_readMember_68 hZ)
noncomputable def vX9_readMember_36 : rx_K := o_ld rx_isR 0 (o_const 24 (o_callV 1 9 FX9_stop (o_ret1 rx_isZ)))
set_option maxRecDepth 20000 in
theorem wX9_readMember_36 (hZ : zO b e D A X) : rx_OK (zV b e D A X) mX9_readMember 4 36 vX9_readMember_36 := by
  unfold vX9_readMember_36
  refine s_aload_n hZ.1 dX9_readMember_36 rfl ?_
  refine s_iconst dX9_readMember_37 (by decide +kernel) ?_
  refine s_callV hZ.1 (Met_X9_stop hZ) (Nat.le_of_ble_eq_true rfl) vy_X9_stop zcl9 zw1758 zw15 (Or.inl zw1756) dX9_readMember_38 ?_
  exact s_zret rx_z_ok rfl dX9_readMember_41
noncomputable def vX9_readMember_27 : rx_K := o_ld rx_isR 1 (o_getf 10 13 (o_const 160 (o_c2 rx_lt vX9_readMember_42 vX9_readMember_36)))
set_option maxRecDepth 20000 in
theorem wX9_readMember_27 (hZ : zO b e D A X) : rx_OK (zV b e D A X) mX9_readMember 4 27 vX9_readMember_27 := by
  unfold vX9_readMember_27
  refine s_aload_n hZ.1 dX9_readMember_27 rfl ?_
  refine yg10_13 dX9_readMember_28 zw854 ?_
  refine s_bipush dX9_readMember_31 (by decide +kernel) ?_
  exact s_icmp_lt dX9_readMember_33 (by decide) (wX9_readMember_42 hZ) (wX9_readMember_36 hZ)
noncomputable def vX9_readMember_22 : rx_K := o_ld rx_isR 0 (o_callV 0 9 FX9_miss (o_ret1 rx_isZ))
set_option maxRecDepth 20000 in
theorem wX9_readMember_22 (hZ : zO b e D A X) : rx_OK (zV b e D A X) mX9_readMember 4 22 vX9_readMember_22 := by
  unfold vX9_readMember_22
  refine s_aload_n hZ.1 dX9_readMember_22 rfl ?_
  refine s_callV hZ.1 (Met_X9_miss hZ) (Nat.le_of_ble_eq_true rfl) vy_X9_miss zcl9 zw1762 zw16 (Or.inl zw1760) dX9_readMember_23 ?_
  exact s_zret rx_z_ok rfl dX9_readMember_26
noncomputable def vX9_readMember_16 : rx_K := o_ld rx_isI 2 (o_const 208 (o_c2 (fun h x y => rx_lt h y x) vX9_readMember_22 vX9_readMember_27))
set_option maxRecDepth 20000 in
theorem wX9_readMember_16 (hZ : zO b e D A X) : rx_OK (zV b e D A X) mX9_readMember 4 16 vX9_readMember_16 := by
  unfold vX9_readMember_16
  refine s_iload_n hZ.1 dX9_readMember_16 rfl ?_
  refine s_bipush dX9_readMember_17 (by decide +kernel) ?_
  exact s_icmp_le dX9_readMember_19 (by decide) (wX9_readMember_27 hZ) (wX9_readMember_22 hZ)
noncomputable def vX9_readMember_10 : rx_K := o_ld rx_isI 2 (o_const 136 (o_c2 rx_lt vX9_readMember_22 vX9_readMember_16))
set_option maxRecDepth 20000 in
theorem wX9_readMember_10 (hZ : zO b e D A X) : rx_OK (zV b e D A X) mX9_readMember 4 10 vX9_readMember_10 := by
  unfold vX9_readMember_10
  refine s_iload_n hZ.1 dX9_readMember_10 rfl ?_
  refine s_bipush dX9_readMember_11 (by decide +kernel) ?_
  exact s_icmp_lt dX9_readMember_13 (by decide) (wX9_readMember_22 hZ) (wX9_readMember_16 hZ)
noncomputable def vX9_readMember_0 : rx_K := o_ld rx_isR 0 (o_callV 0 9 FX9_now (o_st rx_isI 2 (o_ld rx_isI 2 (o_const 16 (o_c2 rx_eq vX9_readMember_27 vX9_readMember_10)))))
set_option maxRecDepth 20000 in
theorem wX9_readMember_0 (hZ : zO b e D A X) : rx_OK (zV b e D A X) mX9_readMember 4 0 vX9_readMember_0 := by
  unfold vX9_readMember_0
  refine s_aload_n hZ.1 dX9_readMember_0 rfl ?_
  refine s_callV hZ.1 (Met_X9_now hZ) (Nat.le_of_ble_eq_true rfl) vy_X9_now zcl9 zw1746 zw12 (Or.inl zw1744) dX9_readMember_1 ?_
  refine s_istore_n hZ.1 dX9_readMember_4 rfl (Nat.le_of_ble_eq_true rfl) ?_
  refine s_iload_n hZ.1 dX9_readMember_5 rfl ?_
  refine s_iconst dX9_readMember_6 (by decide +kernel) ?_
  exact s_icmp_eq dX9_readMember_7 (by decide) (wX9_readMember_27 hZ) (wX9_readMember_10 hZ)
noncomputable def FX9_readMember : List Nat → rx_H → Option (Nat × rx_H) := rx_ent 4 vX9_readMember_0
theorem Met_X9_readMember (hZ : zO b e D A X) : rx_Met (zV b e D A X) 4 yX9_readMember mX9_readMember (FX9_readMember) := rx_entry hZ.1 (wX9_readMember_0 hZ) (by decide +kernel) rfl (fun h => by cases h)
abbrev mX9_isSign : rx_M := (RX9, cX9_isSign, 1, (some .boolean), false)
theorem vy_X9_isSign : rx_Y (zV b e D A X) yX9_isSign mX9_isSign 1 := ⟨zw1743, zw414, by decide, by decide +kernel, by decide +kernel, by decide +kernel⟩
noncomputable def vX9_isSign_77 : rx_K := o_ret1 rx_isZ
set_option maxRecDepth 20000 in
theorem wX9_isSign_77 (hZ : zO b e D A X) : rx_OK (zV b e D A X) mX9_isSign 0 77 vX9_isSign_77 := by
  unfold vX9_isSign_77
  exact s_zret rx_z_ok rfl dX9_isSign_77
noncomputable def vX9_isSign_76 : rx_K := o_const 0 (vX9_isSign_77)
set_option maxRecDepth 20000 in
theorem wX9_isSign_76 (hZ : zO b e D A X) : rx_OK (zV b e D A X) mX9_isSign 0 76 vX9_isSign_76 := by
  unfold vX9_isSign_76
  refine s_iconst dX9_isSign_76 (by decide +kernel) ?_
  exact (wX9_isSign_77 hZ)
noncomputable def vX9_isSign_72 : rx_K := o_const 8 (vX9_isSign_77)
set_option maxRecDepth 20000 in
theorem wX9_isSign_72 (hZ : zO b e D A X) : rx_OK (zV b e D A X) mX9_isSign 0 72 vX9_isSign_72 := by
  unfold vX9_isSign_72
  refine s_iconst dX9_isSign_72 (by decide +kernel) ?_
  exact s_goto dX9_isSign_73 (by decide) (wX9_isSign_77 hZ)
noncomputable def vX9_isSign_66 : rx_K := o_ld rx_isI 0 (o_const 336 (o_c2 rx_eq vX9_isSign_72 vX9_isSign_76))
set_option maxRecDepth 20000 in
theorem wX9_isSign_66 (hZ : zO b e D A X) : rx_OK (zV b e D A X) mX9_isSign 0 66 vX9_isSign_66 := by
  unfold vX9_isSign_66
  refine s_iload_n hZ.1 dX9_isSign_66 rfl ?_
  refine s_bipush dX9_isSign_67 (by decide +kernel) ?_
  exact s_icmp_ne dX9_isSign_69 (by decide) (wX9_isSign_76 hZ) (wX9_isSign_72 hZ)
noncomputable def vX9_isSign_60 : rx_K := o_ld rx_isI 0 (o_const 360 (o_c2 rx_eq vX9_isSign_72 vX9_isSign_66))
set_option maxRecDepth 20000 in
theorem wX9_isSign_60 (hZ : zO b e D A X) : rx_OK (zV b e D A X) mX9_isSign 0 60 vX9_isSign_60 := by
  unfold vX9_isSign_60
  refine s_iload_n hZ.1 dX9_isSign_60 rfl ?_
  refine s_bipush dX9_isSign_61 (by decide +kernel) ?_
  exact s_icmp_eq dX9_isSign_63 (by decide) (wX9_isSign_72 hZ) (wX9_isSign_66 hZ)
noncomputable def vX9_isSign_54 : rx_K := o_ld rx_isI 0 (o_const 344 (o_c2 rx_eq vX9_isSign_72 vX9_isSign_60))
set_option maxRecDepth 20000 in
theorem wX9_isSign_54 (hZ : zO b e D A X) : rx_OK (zV b e D A X) mX9_isSign 0 54 vX9_isSign_54 := by
  unfold vX9_isSign_54
  refine s_iload_n hZ.1 dX9_isSign_54 rfl ?_
  refine s_bipush dX9_isSign_55 (by decide +kernel) ?_
  exact s_icmp_eq dX9_isSign_57 (by decide) (wX9_isSign_72 hZ) (wX9_isSign_60 hZ)
noncomputable def vX9_isSign_48 : rx_K := o_ld rx_isI 0 (o_const 480 (o_c2 rx_eq vX9_isSign_72 vX9_isSign_54))
set_option maxRecDepth 20000 in
theorem wX9_isSign_48 (hZ : zO b e D A X) : rx_OK (zV b e D A X) mX9_isSign 0 48 vX9_isSign_48 := by
  unfold vX9_isSign_48
  refine s_iload_n hZ.1 dX9_isSign_48 rfl ?_
  refine s_bipush dX9_isSign_49 (by decide +kernel) ?_
  exact s_icmp_eq dX9_isSign_51 (by decide) (wX9_isSign_72 hZ) (wX9_isSign_54 hZ)
noncomputable def vX9_isSign_42 : rx_K := o_ld rx_isI 0 (o_const 488 (o_c2 rx_eq vX9_isSign_72 vX9_isSign_48))
set_option maxRecDepth 20000 in
theorem wX9_isSign_42 (hZ : zO b e D A X) : rx_OK (zV b e D A X) mX9_isSign 0 42 vX9_isSign_42 := by
  unfold vX9_isSign_42
  refine s_iload_n hZ.1 dX9_isSign_42 rfl ?_
  refine s_bipush dX9_isSign_43 (by decide +kernel) ?_
  exact s_icmp_eq dX9_isSign_45 (by decide) (wX9_isSign_72 hZ) (wX9_isSign_48 hZ)
noncomputable def vX9_isSign_36 : rx_K := o_ld rx_isI 0 (o_const 368 (o_c2 rx_eq vX9_isSign_72 vX9_isSign_42))
set_option maxRecDepth 20000 in
theorem wX9_isSign_36 (hZ : zO b e D A X) : rx_OK (zV b e D A X) mX9_isSign 0 36 vX9_isSign_36 := by
  unfold vX9_isSign_36
  refine s_iload_n hZ.1 dX9_isSign_36 rfl ?_
  refine s_bipush dX9_isSign_37 (by decide +kernel) ?_
  exact s_icmp_eq dX9_isSign_39 (by decide) (wX9_isSign_72 hZ) (wX9_isSign_42 hZ)
noncomputable def vX9_isSign_30 : rx_K := o_ld rx_isI 0 (o_const 472 (o_c2 rx_eq vX9_isSign_72 vX9_isSign_36))
set_option maxRecDepth 20000 in
theorem wX9_isSign_30 (hZ : zO b e D A X) : rx_OK (zV b e D A X) mX9_isSign 0 30 vX9_isSign_30 := by
  unfold vX9_isSign_30
  refine s_iload_n hZ.1 dX9_isSign_30 rfl ?_
  refine s_bipush dX9_isSign_31 (by decide +kernel) ?_
  exact s_icmp_eq dX9_isSign_33 (by decide) (wX9_isSign_72 hZ) (wX9_isSign_36 hZ)
noncomputable def vX9_isSign_24 : rx_K := o_ld rx_isI 0 (o_const 352 (o_c2 rx_eq vX9_isSign_72 vX9_isSign_30))
set_option maxRecDepth 20000 in
theorem wX9_isSign_24 (hZ : zO b e D A X) : rx_OK (zV b e D A X) mX9_isSign 0 24 vX9_isSign_24 := by
  unfold vX9_isSign_24
  refine s_iload_n hZ.1 dX9_isSign_24 rfl ?_
  refine s_bipush dX9_isSign_25 (by decide +kernel) ?_
  exact s_icmp_eq dX9_isSign_27 (by decide) (wX9_isSign_72 hZ) (wX9_isSign_30 hZ)
noncomputable def vX9_isSign_18 : rx_K := o_ld rx_isI 0 (o_const 328 (o_c2 rx_eq vX9_isSign_72 vX9_isSign_24))
set_option maxRecDepth 20000 in
theorem wX9_isSign_18 (hZ : zO b e D A X) : rx_OK (zV b e D A X) mX9_isSign 0 18 vX9_isSign_18 := by
  unfold vX9_isSign_18
  refine s_iload_n hZ.1 dX9_isSign_18 rfl ?_
  refine s_bipush dX9_isSign_19 (by decide +kernel) ?_
  exact s_icmp_eq dX9_isSign_21 (by decide) (wX9_isSign_72 hZ) (wX9_isSign_24 hZ)
noncomputable def vX9_isSign_12 : rx_K := o_ld rx_isI 0 (o_const 320 (o_c2 rx_eq vX9_isSign_72 vX9_isSign_18))
set_option maxRecDepth 20000 in
theorem wX9_isSign_12 (hZ : zO b e D A X) : rx_OK (zV b e D A X) mX9_isSign 0 12 vX9_isSign_12 := by
  unfold vX9_isSign_12
  refine s_iload_n hZ.1 dX9_isSign_12 rfl ?_
  refine s_bipush dX9_isSign_13 (by decide +kernel) ?_
  exact s_icmp_eq dX9_isSign_15 (by decide) (wX9_isSign_72 hZ) (wX9_isSign_18 hZ)
noncomputable def vX9_isSign_6 : rx_K := o_ld rx_isI 0 (o_const 1000 (o_c2 rx_eq vX9_isSign_72 vX9_isSign_12))
set_option maxRecDepth 20000 in
theorem wX9_isSign_6 (hZ : zO b e D A X) : rx_OK (zV b e D A X) mX9_isSign 0 6 vX9_isSign_6 := by
  unfold vX9_isSign_6
  refine s_iload_n hZ.1 dX9_isSign_6 rfl ?_
  refine s_bipush dX9_isSign_7 (by decide +kernel) ?_
  exact s_icmp_eq dX9_isSign_9 (by decide) (wX9_isSign_72 hZ) (wX9_isSign_12 hZ)
noncomputable def vX9_isSign_0 : rx_K := o_ld rx_isI 0 (o_const 984 (o_c2 rx_eq vX9_isSign_72 vX9_isSign_6))
set_option maxRecDepth 20000 in
theorem wX9_isSign_0 (hZ : zO b e D A X) : rx_OK (zV b e D A X) mX9_isSign 0 0 vX9_isSign_0 := by
  unfold vX9_isSign_0
  refine s_iload_n hZ.1 dX9_isSign_0 rfl ?_
  refine s_bipush dX9_isSign_1 (by decide +kernel) ?_
  exact s_icmp_eq dX9_isSign_3 (by decide) (wX9_isSign_72 hZ) (wX9_isSign_6 hZ)
noncomputable def FX9_isSign : List Nat → rx_H → Option (Nat × rx_H) := rx_ent 1 vX9_isSign_0
theorem Met_X9_isSign (hZ : zO b e D A X) : rx_Met (zV b e D A X) 0 yX9_isSign mX9_isSign (FX9_isSign) := rx_entry hZ.1 (wX9_isSign_0 hZ) (by decide +kernel) rfl (fun h => by cases h)
abbrev mX9_scanName : rx_M := (RX9, cX9_scanName, 8, (some .int), false)
theorem vy_X9_scanName : rx_Y (zV b e D A X) yX9_scanName mX9_scanName 1 := ⟨zw1735, zw414, by decide, by decide +kernel, by decide +kernel, by decide +kernel⟩
noncomputable def vX9_scanName_287 (j : Nat → rx_K) : rx_K := o_ld rx_isI 5 (o_ret1 rx_isI)
set_option maxRecDepth 20000 in
theorem wX9_scanName_287 (hZ : zO b e D A X) (j : Nat → rx_K) (hj : ∀ k pc, [124, 235][k]? = some pc → rx_OK (zV b e D A X) mX9_scanName 1 pc (j k)) : rx_OK (zV b e D A X) mX9_scanName 1 287 (vX9_scanName_287 j) := by
  unfold vX9_scanName_287
  refine s_iload hZ.1 dX9_scanName_287 ?_
  exact s_iret hZ.1 rfl dX9_scanName_289
noncomputable def vX9_scanName_281 (j : Nat → rx_K) : rx_K := o_inc 7 (1) ((j 1))
set_option maxRecDepth 20000 in
theorem wX9_scanName_281 (hZ : zO b e D A X) (j : Nat → rx_K) (hj : ∀ k pc, [124, 235][k]? = some pc → rx_OK (zV b e D A X) mX9_scanName 1 pc (j k)) : rx_OK (zV b e D A X) mX9_scanName 1 281 (vX9_scanName_281 j) := by
  unfold vX9_scanName_281
  refine s_iinc hZ.1 dX9_scanName_281 (Nat.le_of_ble_eq_true rfl) ?_
  exact s_goto dX9_scanName_284 (by decide) (hj 1 235 rfl)
noncomputable def vX9_scanName_267 (j : Nat → rx_K) : rx_K := o_ld rx_isR 0 (o_getf 9 1 (o_ld rx_isR 0 (o_getf 9 5 (o_const 80 (o_ld rx_isI 7 (o_bi (fun x y => x + y) (o_ast 0 (fun v => v) rx_isI ((vX9_scanName_281 j)))))))))
set_option maxRecDepth 20000 in
theorem wX9_scanName_267 (hZ : zO b e D A X) (j : Nat → rx_K) (hj : ∀ k pc, [124, 235][k]? = some pc → rx_OK (zV b e D A X) mX9_scanName 1 pc (j k)) : rx_OK (zV b e D A X) mX9_scanName 1 267 (vX9_scanName_267 j) := by
  unfold vX9_scanName_267
  refine s_aload_n hZ.1 dX9_scanName_267 rfl ?_
  refine yg9_1 dX9_scanName_268 zw582 ?_
  refine s_aload_n hZ.1 dX9_scanName_271 rfl ?_
  refine yg9_5 dX9_scanName_272 zw589 ?_
  refine s_bipush dX9_scanName_275 (by decide +kernel) ?_
  refine s_iload hZ.1 dX9_scanName_277 ?_
  refine s_iadd dX9_scanName_279 ?_
  refine s_iast hZ.1 (tt := 0) rfl dX9_scanName_280 ?_
  exact (wX9_scanName_281 hZ j hj)
noncomputable def vX9_scanName_255 (j : Nat → rx_K) : rx_K := o_ld rx_isR 0 (o_getf 9 0 (o_ld rx_isI 7 (o_ald 1 (o_ld rx_isL 3 (o_bc (fun x y => lg_cmp x y) (o_c1 rx_eq (vX9_scanName_267 j) (vX9_scanName_281 j)))))))
set_option maxRecDepth 20000 in
theorem wX9_scanName_255 (hZ : zO b e D A X) (j : Nat → rx_K) (hj : ∀ k pc, [124, 235][k]? = some pc → rx_OK (zV b e D A X) mX9_scanName 1 pc (j k)) : rx_OK (zV b e D A X) mX9_scanName 1 255 (vX9_scanName_255 j) := by
  unfold vX9_scanName_255
  refine s_aload_n hZ.1 dX9_scanName_255 rfl ?_
  refine yg9_0 dX9_scanName_256 zw581 ?_
  refine s_iload hZ.1 dX9_scanName_259 ?_
  refine s_lald (tt := 1) rfl dX9_scanName_261 ?_
  refine s_lload_n hZ.1 dX9_scanName_262 rfl ?_
  refine s_lcmp dX9_scanName_263 ?_
  exact s_if_ne dX9_scanName_264 (by decide) (wX9_scanName_281 hZ j hj) (wX9_scanName_267 hZ j hj)
noncomputable def vX9_scanName_242 (j : Nat → rx_K) : rx_K := o_ld rx_isR 0 (o_getf 9 1 (o_ld rx_isR 0 (o_getf 9 5 (o_ald 0 (o_const 24 (o_c2 rx_eq (vX9_scanName_255 j) (vX9_scanName_287 j)))))))
set_option maxRecDepth 20000 in
theorem wX9_scanName_242 (hZ : zO b e D A X) (j : Nat → rx_K) (hj : ∀ k pc, [124, 235][k]? = some pc → rx_OK (zV b e D A X) mX9_scanName 1 pc (j k)) : rx_OK (zV b e D A X) mX9_scanName 1 242 (vX9_scanName_242 j) := by
  unfold vX9_scanName_242
  refine s_aload_n hZ.1 dX9_scanName_242 rfl ?_
  refine yg9_1 dX9_scanName_243 zw582 ?_
  refine s_aload_n hZ.1 dX9_scanName_246 rfl ?_
  refine yg9_5 dX9_scanName_247 zw589 ?_
  refine s_iald (tt := 0) rfl dX9_scanName_250 ?_
  refine s_iconst dX9_scanName_251 (by decide +kernel) ?_
  exact s_icmp_ne dX9_scanName_252 (by decide) (wX9_scanName_287 hZ j hj) (wX9_scanName_255 hZ j hj)
noncomputable def vX9_scanName_235 (j : Nat → rx_K) : rx_K := o_ld rx_isI 7 (o_const 240 (o_c2 rx_lt (vX9_scanName_242 j) (vX9_scanName_287 j)))
set_option maxRecDepth 20000 in
theorem wX9_scanName_235 (hZ : zO b e D A X) (j : Nat → rx_K) (hj : ∀ k pc, [124, 235][k]? = some pc → rx_OK (zV b e D A X) mX9_scanName 1 pc (j k)) : rx_OK (zV b e D A X) mX9_scanName 1 235 (vX9_scanName_235 j) := by
  unfold vX9_scanName_235
  refine s_iload hZ.1 dX9_scanName_235 ?_
  refine s_bipush dX9_scanName_237 (by decide +kernel) ?_
  exact s_icmp_ge dX9_scanName_239 (by decide) (wX9_scanName_287 hZ j hj) (wX9_scanName_242 hZ j hj)
noncomputable def vX9_scanName_221 (j : Nat → rx_K) : rx_K := o_ast 0 (fun v => v) rx_isI (o_ld rx_isR 0 (o_getf 9 4 (o_ld rx_isR 0 (o_getf 9 5 (o_ld rx_isL 3 (o_ast 1 (fun v => v) rx_isL (o_const 0 (o_st rx_isI 7 ((vX9_scanName_235 j))))))))))
set_option maxRecDepth 20000 in
theorem wX9_scanName_221 (hZ : zO b e D A X) (j : Nat → rx_K) (hj : ∀ k pc, [124, 235][k]? = some pc → rx_OK (zV b e D A X) mX9_scanName 1 pc (j k)) : rx_OK (zV b e D A X) mX9_scanName 1 221 (vX9_scanName_221 j) := by
  unfold vX9_scanName_221
  refine s_iast hZ.1 (tt := 0) rfl dX9_scanName_221 ?_
  refine s_aload_n hZ.1 dX9_scanName_222 rfl ?_
  refine yg9_4 dX9_scanName_223 zw586 ?_
  refine s_aload_n hZ.1 dX9_scanName_226 rfl ?_
  refine yg9_5 dX9_scanName_227 zw589 ?_
  refine s_lload_n hZ.1 dX9_scanName_230 rfl ?_
  refine s_last (tt := 1) rfl dX9_scanName_231 ?_
  refine s_iconst dX9_scanName_232 (by decide +kernel) ?_
  refine s_istore hZ.1 dX9_scanName_233 (Nat.le_of_ble_eq_true rfl) ?_
  exact (wX9_scanName_235 hZ j hj)
noncomputable def vX9_scanName_220 (j : Nat → rx_K) : rx_K := o_const 24 ((vX9_scanName_221 j))
set_option maxRecDepth 20000 in
theorem wX9_scanName_220 (hZ : zO b e D A X) (j : Nat → rx_K) (hj : ∀ k pc, [124, 235][k]? = some pc → rx_OK (zV b e D A X) mX9_scanName 1 pc (j k)) : rx_OK (zV b e D A X) mX9_scanName 1 220 (vX9_scanName_220 j) := by
  unfold vX9_scanName_220
  refine s_iconst dX9_scanName_220 (by decide +kernel) ?_
  exact (wX9_scanName_221 hZ j hj)
noncomputable def vX9_scanName_216 (j : Nat → rx_K) : rx_K := o_const 16 ((vX9_scanName_221 j))
set_option maxRecDepth 20000 in
theorem wX9_scanName_216 (hZ : zO b e D A X) (j : Nat → rx_K) (hj : ∀ k pc, [124, 235][k]? = some pc → rx_OK (zV b e D A X) mX9_scanName 1 pc (j k)) : rx_OK (zV b e D A X) mX9_scanName 1 216 (vX9_scanName_216 j) := by
  unfold vX9_scanName_216
  refine s_iconst dX9_scanName_216 (by decide +kernel) ?_
  exact s_goto dX9_scanName_217 (by decide) (wX9_scanName_221 hZ j hj)
noncomputable def vX9_scanName_212 (j : Nat → rx_K) : rx_K := o_ld rx_isI 2 (o_c1 rx_eq (vX9_scanName_220 j) (vX9_scanName_216 j))
set_option maxRecDepth 20000 in
theorem wX9_scanName_212 (hZ : zO b e D A X) (j : Nat → rx_K) (hj : ∀ k pc, [124, 235][k]? = some pc → rx_OK (zV b e D A X) mX9_scanName 1 pc (j k)) : rx_OK (zV b e D A X) mX9_scanName 1 212 (vX9_scanName_212 j) := by
  unfold vX9_scanName_212
  refine s_iload_n hZ.1 dX9_scanName_212 rfl ?_
  exact s_if_eq dX9_scanName_213 (by decide) (wX9_scanName_220 hZ j hj) (wX9_scanName_216 hZ j hj)
noncomputable def vX9_scanName_208 (j : Nat → rx_K) : rx_K := o_const 8 ((vX9_scanName_221 j))
set_option maxRecDepth 20000 in
theorem wX9_scanName_208 (hZ : zO b e D A X) (j : Nat → rx_K) (hj : ∀ k pc, [124, 235][k]? = some pc → rx_OK (zV b e D A X) mX9_scanName 1 pc (j k)) : rx_OK (zV b e D A X) mX9_scanName 1 208 (vX9_scanName_208 j) := by
  unfold vX9_scanName_208
  refine s_iconst dX9_scanName_208 (by decide +kernel) ?_
  exact s_goto dX9_scanName_209 (by decide) (wX9_scanName_221 hZ j hj)
noncomputable def vX9_scanName_205 (j : Nat → rx_K) : rx_K := o_c2 (fun h x y => rx_lt h y x) (vX9_scanName_208 j) (vX9_scanName_212 j)
set_option maxRecDepth 20000 in
theorem wX9_scanName_205 (hZ : zO b e D A X) (j : Nat → rx_K) (hj : ∀ k pc, [124, 235][k]? = some pc → rx_OK (zV b e D A X) mX9_scanName 1 pc (j k)) : rx_OK (zV b e D A X) mX9_scanName 1 205 (vX9_scanName_205 j) := by
  unfold vX9_scanName_205
  exact s_icmp_le dX9_scanName_205 (by decide) (wX9_scanName_212 hZ j hj) (wX9_scanName_208 hZ j hj)
noncomputable def vX9_scanName_203 (j : Nat → rx_K) : rx_K := o_const 80 ((vX9_scanName_205 j))
set_option maxRecDepth 20000 in
theorem wX9_scanName_203 (hZ : zO b e D A X) (j : Nat → rx_K) (hj : ∀ k pc, [124, 235][k]? = some pc → rx_OK (zV b e D A X) mX9_scanName 1 pc (j k)) : rx_OK (zV b e D A X) mX9_scanName 1 203 (vX9_scanName_203 j) := by
  unfold vX9_scanName_203
  refine s_bipush dX9_scanName_203 (by decide +kernel) ?_
  exact (wX9_scanName_205 hZ j hj)
noncomputable def vX9_scanName_198 (j : Nat → rx_K) : rx_K := o_const 88 ((vX9_scanName_205 j))
set_option maxRecDepth 20000 in
theorem wX9_scanName_198 (hZ : zO b e D A X) (j : Nat → rx_K) (hj : ∀ k pc, [124, 235][k]? = some pc → rx_OK (zV b e D A X) mX9_scanName 1 pc (j k)) : rx_OK (zV b e D A X) mX9_scanName 1 198 (vX9_scanName_198 j) := by
  unfold vX9_scanName_198
  refine s_bipush dX9_scanName_198 (by decide +kernel) ?_
  exact s_goto dX9_scanName_200 (by decide) (wX9_scanName_205 hZ j hj)
noncomputable def vX9_scanName_182 (j : Nat → rx_K) : rx_K := o_ld rx_isR 0 (o_getf 9 1 (o_ld rx_isR 0 (o_getf 9 5 (o_ld rx_isI 5 (o_ld rx_isI 1 (o_bi (fun x y => x - y) (o_ld rx_isI 2 (o_c1 rx_eq (vX9_scanName_203 j) (vX9_scanName_198 j)))))))))
set_option maxRecDepth 20000 in
theorem wX9_scanName_182 (hZ : zO b e D A X) (j : Nat → rx_K) (hj : ∀ k pc, [124, 235][k]? = some pc → rx_OK (zV b e D A X) mX9_scanName 1 pc (j k)) : rx_OK (zV b e D A X) mX9_scanName 1 182 (vX9_scanName_182 j) := by
  unfold vX9_scanName_182
  refine s_aload_n hZ.1 dX9_scanName_182 rfl ?_
  refine yg9_1 dX9_scanName_183 zw582 ?_
  refine s_aload_n hZ.1 dX9_scanName_186 rfl ?_
  refine yg9_5 dX9_scanName_187 zw589 ?_
  refine s_iload hZ.1 dX9_scanName_190 ?_
  refine s_iload_n hZ.1 dX9_scanName_192 rfl ?_
  refine s_isub dX9_scanName_193 ?_
  refine s_iload_n hZ.1 dX9_scanName_194 rfl ?_
  exact s_if_eq dX9_scanName_195 (by decide) (wX9_scanName_203 hZ j hj) (wX9_scanName_198 hZ j hj)
noncomputable def vX9_scanName_171 (j : Nat → rx_K) : rx_K := o_bl (fun x y => x ||| y) (o_stL 3 (o_inc 6 (-6) (o_inc 5 (1) ((j 0)))))
set_option maxRecDepth 20000 in
theorem wX9_scanName_171 (hZ : zO b e D A X) (j : Nat → rx_K) (hj : ∀ k pc, [124, 235][k]? = some pc → rx_OK (zV b e D A X) mX9_scanName 1 pc (j k)) : rx_OK (zV b e D A X) mX9_scanName 1 171 (vX9_scanName_171 j) := by
  unfold vX9_scanName_171
  refine s_lor dX9_scanName_171 ?_
  refine s_lstore_n hZ.1 dX9_scanName_172 rfl (Nat.le_of_ble_eq_true rfl) ?_
  refine s_iinc hZ.1 dX9_scanName_173 (Nat.le_of_ble_eq_true rfl) ?_
  refine s_iinc hZ.1 dX9_scanName_176 (Nat.le_of_ble_eq_true rfl) ?_
  exact s_goto dX9_scanName_179 (by decide) (hj 0 124 rfl)
noncomputable def vX9_scanName_170 (j : Nat → rx_K) : rx_K := o_const 1 ((vX9_scanName_171 j))
set_option maxRecDepth 20000 in
theorem wX9_scanName_170 (hZ : zO b e D A X) (j : Nat → rx_K) (hj : ∀ k pc, [124, 235][k]? = some pc → rx_OK (zV b e D A X) mX9_scanName 1 pc (j k)) : rx_OK (zV b e D A X) mX9_scanName 1 170 (vX9_scanName_170 j) := by
  unfold vX9_scanName_170
  refine s_lconst dX9_scanName_170 (by decide +kernel) ?_
  exact (wX9_scanName_171 hZ j hj)
noncomputable def vX9_scanName_154 (j : Nat → rx_K) : rx_K := o_ld rx_isR 0 (o_getf 9 6 (o_ld rx_isI 5 (o_ald 2 (o_callS 1 FX9_sixBits (o_ld rx_isI 6 (o_bs (fun x y => x <<< (y.toInt64 &&& 63)) ((vX9_scanName_171 j))))))))
set_option maxRecDepth 20000 in
theorem wX9_scanName_154 (hZ : zO b e D A X) (j : Nat → rx_K) (hj : ∀ k pc, [124, 235][k]? = some pc → rx_OK (zV b e D A X) mX9_scanName 1 pc (j k)) : rx_OK (zV b e D A X) mX9_scanName 1 154 (vX9_scanName_154 j) := by
  unfold vX9_scanName_154
  refine s_aload_n hZ.1 dX9_scanName_154 rfl ?_
  refine yg9_6 dX9_scanName_155 zw590 ?_
  refine s_iload hZ.1 dX9_scanName_158 ?_
  refine s_bald (tt := 2) rfl dX9_scanName_160 ?_
  refine s_callS hZ.1 (Met_X9_sixBits hZ) (Nat.le_of_ble_eq_true rfl) vy_X9_sixBits zw579 (Or.inl zw578) dX9_scanName_161 ?_
  refine s_iload hZ.1 dX9_scanName_164 ?_
  refine s_lshl dX9_scanName_166 ?_
  exact s_goto dX9_scanName_167 (by decide) (wX9_scanName_171 hZ j hj)
noncomputable def vX9_scanName_148 (j : Nat → rx_K) : rx_K := o_ld rx_isL 3 (o_ld rx_isI 6 (o_c1 rx_lt (vX9_scanName_170 j) (vX9_scanName_154 j)))
set_option maxRecDepth 20000 in
theorem wX9_scanName_148 (hZ : zO b e D A X) (j : Nat → rx_K) (hj : ∀ k pc, [124, 235][k]? = some pc → rx_OK (zV b e D A X) mX9_scanName 1 pc (j k)) : rx_OK (zV b e D A X) mX9_scanName 1 148 (vX9_scanName_148 j) := by
  unfold vX9_scanName_148
  refine s_lload_n hZ.1 dX9_scanName_148 rfl ?_
  refine s_iload hZ.1 dX9_scanName_149 ?_
  exact s_if_lt dX9_scanName_151 (by decide) (wX9_scanName_170 hZ j hj) (wX9_scanName_154 hZ j hj)
noncomputable def vX9_scanName_133 (j : Nat → rx_K) : rx_K := o_ld rx_isR 0 (o_getf 9 6 (o_ld rx_isI 5 (o_ald 2 (o_callS 1 FX9_sixBits (o_const 1 (o_bc (fun x y => lg_cmp x y) (o_c1 (fun h x y => rx_lt h y x) (vX9_scanName_148 j) (vX9_scanName_182 j))))))))
set_option maxRecDepth 20000 in
theorem wX9_scanName_133 (hZ : zO b e D A X) (j : Nat → rx_K) (hj : ∀ k pc, [124, 235][k]? = some pc → rx_OK (zV b e D A X) mX9_scanName 1 pc (j k)) : rx_OK (zV b e D A X) mX9_scanName 1 133 (vX9_scanName_133 j) := by
  unfold vX9_scanName_133
  refine s_aload_n hZ.1 dX9_scanName_133 rfl ?_
  refine yg9_6 dX9_scanName_134 zw590 ?_
  refine s_iload hZ.1 dX9_scanName_137 ?_
  refine s_bald (tt := 2) rfl dX9_scanName_139 ?_
  refine s_callS hZ.1 (Met_X9_sixBits hZ) (Nat.le_of_ble_eq_true rfl) vy_X9_sixBits zw579 (Or.inl zw578) dX9_scanName_140 ?_
  refine s_lconst dX9_scanName_143 (by decide +kernel) ?_
  refine s_lcmp dX9_scanName_144 ?_
  exact s_if_le dX9_scanName_145 (by decide) (wX9_scanName_182 hZ j hj) (wX9_scanName_148 hZ j hj)
noncomputable def vX9_scanName_124 (j : Nat → rx_K) : rx_K := o_ld rx_isI 5 (o_ld rx_isR 0 (o_getf 9 7 (o_c2 rx_lt (vX9_scanName_133 j) (vX9_scanName_182 j))))
set_option maxRecDepth 20000 in
theorem wX9_scanName_124 (hZ : zO b e D A X) (j : Nat → rx_K) (hj : ∀ k pc, [124, 235][k]? = some pc → rx_OK (zV b e D A X) mX9_scanName 1 pc (j k)) : rx_OK (zV b e D A X) mX9_scanName 1 124 (vX9_scanName_124 j) := by
  unfold vX9_scanName_124
  refine s_iload hZ.1 dX9_scanName_124 ?_
  refine s_aload_n hZ.1 dX9_scanName_126 rfl ?_
  refine yg9_7 dX9_scanName_127 zw591 ?_
  exact s_icmp_ge dX9_scanName_130 (by decide) (wX9_scanName_182 hZ j hj) (wX9_scanName_133 hZ j hj)
noncomputable def vX9_scanName_118 (j : Nat → rx_K) : rx_K := o_st rx_isI 5 (o_const 384 (o_st rx_isI 6 ((vX9_scanName_124 j))))
set_option maxRecDepth 20000 in
theorem wX9_scanName_118 (hZ : zO b e D A X) (j : Nat → rx_K) (hj : ∀ k pc, [124, 235][k]? = some pc → rx_OK (zV b e D A X) mX9_scanName 1 pc (j k)) : rx_OK (zV b e D A X) mX9_scanName 1 118 (vX9_scanName_118 j) := by
  unfold vX9_scanName_118
  refine s_istore hZ.1 dX9_scanName_118 (Nat.le_of_ble_eq_true rfl) ?_
  refine s_bipush dX9_scanName_120 (by decide +kernel) ?_
  refine s_istore hZ.1 dX9_scanName_122 (Nat.le_of_ble_eq_true rfl) ?_
  exact (wX9_scanName_124 hZ j hj)
noncomputable def vX9_scanName_115 (j : Nat → rx_K) : rx_K := o_ld rx_isI 1 (o_const 8 (o_bi (fun x y => x + y) ((vX9_scanName_118 j))))
set_option maxRecDepth 20000 in
theorem wX9_scanName_115 (hZ : zO b e D A X) (j : Nat → rx_K) (hj : ∀ k pc, [124, 235][k]? = some pc → rx_OK (zV b e D A X) mX9_scanName 1 pc (j k)) : rx_OK (zV b e D A X) mX9_scanName 1 115 (vX9_scanName_115 j) := by
  unfold vX9_scanName_115
  refine s_iload_n hZ.1 dX9_scanName_115 rfl ?_
  refine s_iconst dX9_scanName_116 (by decide +kernel) ?_
  refine s_iadd dX9_scanName_117 ?_
  exact (wX9_scanName_118 hZ j hj)
noncomputable def vX9_scanName_109 (j : Nat → rx_K) : rx_K := o_ld rx_isI 1 (o_const 24 (o_bi (fun x y => x + y) ((vX9_scanName_118 j))))
set_option maxRecDepth 20000 in
theorem wX9_scanName_109 (hZ : zO b e D A X) (j : Nat → rx_K) (hj : ∀ k pc, [124, 235][k]? = some pc → rx_OK (zV b e D A X) mX9_scanName 1 pc (j k)) : rx_OK (zV b e D A X) mX9_scanName 1 109 (vX9_scanName_109 j) := by
  unfold vX9_scanName_109
  refine s_iload_n hZ.1 dX9_scanName_109 rfl ?_
  refine s_iconst dX9_scanName_110 (by decide +kernel) ?_
  refine s_iadd dX9_scanName_111 ?_
  exact s_goto dX9_scanName_112 (by decide) (wX9_scanName_118 hZ j hj)
noncomputable def vX9_scanName_104 (j : Nat → rx_K) : rx_K := o_stL 3 (o_ld rx_isI 2 (o_c1 rx_eq (vX9_scanName_115 j) (vX9_scanName_109 j)))
set_option maxRecDepth 20000 in
theorem wX9_scanName_104 (hZ : zO b e D A X) (j : Nat → rx_K) (hj : ∀ k pc, [124, 235][k]? = some pc → rx_OK (zV b e D A X) mX9_scanName 1 pc (j k)) : rx_OK (zV b e D A X) mX9_scanName 1 104 (vX9_scanName_104 j) := by
  unfold vX9_scanName_104
  refine s_lstore_n hZ.1 dX9_scanName_104 rfl (Nat.le_of_ble_eq_true rfl) ?_
  refine s_iload_n hZ.1 dX9_scanName_105 rfl ?_
  exact s_if_eq dX9_scanName_106 (by decide) (wX9_scanName_115 hZ j hj) (wX9_scanName_109 hZ j hj)
noncomputable def vX9_scanName_91 (j : Nat → rx_K) : rx_K := o_ld rx_isR 0 (o_getf 9 6 (o_ld rx_isI 1 (o_ald 2 (o_const 776 (o_bi (fun x y => x - y) (o_il (fun x => x.toInt64) (o_const 432 (o_bs (fun x y => x <<< (y.toInt64 &&& 63)) ((vX9_scanName_104 j))))))))))
set_option maxRecDepth 20000 in
theorem wX9_scanName_91 (hZ : zO b e D A X) (j : Nat → rx_K) (hj : ∀ k pc, [124, 235][k]? = some pc → rx_OK (zV b e D A X) mX9_scanName 1 pc (j k)) : rx_OK (zV b e D A X) mX9_scanName 1 91 (vX9_scanName_91 j) := by
  unfold vX9_scanName_91
  refine s_aload_n hZ.1 dX9_scanName_91 rfl ?_
  refine yg9_6 dX9_scanName_92 zw590 ?_
  refine s_iload_n hZ.1 dX9_scanName_95 rfl ?_
  refine s_bald (tt := 2) rfl dX9_scanName_96 ?_
  refine s_bipush dX9_scanName_97 (by decide +kernel) ?_
  refine s_isub dX9_scanName_99 ?_
  refine s_i2l dX9_scanName_100 ?_
  refine s_bipush dX9_scanName_101 (by decide +kernel) ?_
  refine s_lshl dX9_scanName_103 ?_
  exact (wX9_scanName_104 hZ j hj)
noncomputable def vX9_scanName_59 (j : Nat → rx_K) : rx_K := o_ld rx_isR 0 (o_getf 9 6 (o_ld rx_isI 1 (o_ald 2 (o_const 776 (o_bi (fun x y => x - y) (o_il (fun x => x.toInt64) (o_const 472 (o_bs (fun x y => x <<< (y.toInt64 &&& 63)) (o_ld rx_isR 0 (o_getf 9 6 (o_ld rx_isI 1 (o_const 16 (o_bi (fun x y => x + y) (o_ald 2 (o_const 520 (o_bi (fun x y => x - y) (o_il (fun x => x.toInt64) (o_const 432 (o_bs (fun x y => x <<< (y.toInt64 &&& 63)) (o_bl (fun x y => x ||| y) ((vX9_scanName_104 j))))))))))))))))))))))
set_option maxRecDepth 20000 in
theorem wX9_scanName_59 (hZ : zO b e D A X) (j : Nat → rx_K) (hj : ∀ k pc, [124, 235][k]? = some pc → rx_OK (zV b e D A X) mX9_scanName 1 pc (j k)) : rx_OK (zV b e D A X) mX9_scanName 1 59 (vX9_scanName_59 j) := by
  unfold vX9_scanName_59
  refine s_aload_n hZ.1 dX9_scanName_59 rfl ?_
  refine yg9_6 dX9_scanName_60 zw590 ?_
  refine s_iload_n hZ.1 dX9_scanName_63 rfl ?_
  refine s_bald (tt := 2) rfl dX9_scanName_64 ?_
  refine s_bipush dX9_scanName_65 (by decide +kernel) ?_
  refine s_isub dX9_scanName_67 ?_
  refine s_i2l dX9_scanName_68 ?_
  refine s_bipush dX9_scanName_69 (by decide +kernel) ?_
  refine s_lshl dX9_scanName_71 ?_
  refine s_aload_n hZ.1 dX9_scanName_72 rfl ?_
  refine yg9_6 dX9_scanName_73 zw590 ?_
  refine s_iload_n hZ.1 dX9_scanName_76 rfl ?_
  refine s_iconst dX9_scanName_77 (by decide +kernel) ?_
  refine s_iadd dX9_scanName_78 ?_
  refine s_bald (tt := 2) rfl dX9_scanName_79 ?_
  refine s_bipush dX9_scanName_80 (by decide +kernel) ?_
  refine s_isub dX9_scanName_82 ?_
  refine s_i2l dX9_scanName_83 ?_
  refine s_bipush dX9_scanName_84 (by decide +kernel) ?_
  refine s_lshl dX9_scanName_86 ?_
  refine s_lor dX9_scanName_87 ?_
  exact s_goto dX9_scanName_88 (by decide) (wX9_scanName_104 hZ j hj)
noncomputable def vX9_scanName_54 (j : Nat → rx_K) : rx_K := o_st rx_isI 2 (o_ld rx_isI 2 (o_c1 rx_eq (vX9_scanName_91 j) (vX9_scanName_59 j)))
set_option maxRecDepth 20000 in
theorem wX9_scanName_54 (hZ : zO b e D A X) (j : Nat → rx_K) (hj : ∀ k pc, [124, 235][k]? = some pc → rx_OK (zV b e D A X) mX9_scanName 1 pc (j k)) : rx_OK (zV b e D A X) mX9_scanName 1 54 (vX9_scanName_54 j) := by
  unfold vX9_scanName_54
  refine s_istore_n hZ.1 dX9_scanName_54 rfl (Nat.le_of_ble_eq_true rfl) ?_
  refine s_iload_n hZ.1 dX9_scanName_55 rfl ?_
  exact s_if_eq dX9_scanName_56 (by decide) (wX9_scanName_91 hZ j hj) (wX9_scanName_59 hZ j hj)
noncomputable def vX9_scanName_53 (j : Nat → rx_K) : rx_K := o_const 0 ((vX9_scanName_54 j))
set_option maxRecDepth 20000 in
theorem wX9_scanName_53 (hZ : zO b e D A X) (j : Nat → rx_K) (hj : ∀ k pc, [124, 235][k]? = some pc → rx_OK (zV b e D A X) mX9_scanName 1 pc (j k)) : rx_OK (zV b e D A X) mX9_scanName 1 53 (vX9_scanName_53 j) := by
  unfold vX9_scanName_53
  refine s_iconst dX9_scanName_53 (by decide +kernel) ?_
  exact (wX9_scanName_54 hZ j hj)
noncomputable def vX9_scanName_49 (j : Nat → rx_K) : rx_K := o_const 8 ((vX9_scanName_54 j))
set_option maxRecDepth 20000 in
theorem wX9_scanName_49 (hZ : zO b e D A X) (j : Nat → rx_K) (hj : ∀ k pc, [124, 235][k]? = some pc → rx_OK (zV b e D A X) mX9_scanName 1 pc (j k)) : rx_OK (zV b e D A X) mX9_scanName 1 49 (vX9_scanName_49 j) := by
  unfold vX9_scanName_49
  refine s_iconst dX9_scanName_49 (by decide +kernel) ?_
  exact s_goto dX9_scanName_50 (by decide) (wX9_scanName_54 hZ j hj)
noncomputable def vX9_scanName_36 (j : Nat → rx_K) : rx_K := o_ld rx_isR 0 (o_getf 9 6 (o_ld rx_isI 1 (o_const 16 (o_bi (fun x y => x + y) (o_ald 2 (o_const 720 (o_c2 (fun h x y => rx_lt h y x) (vX9_scanName_53 j) (vX9_scanName_49 j))))))))
set_option maxRecDepth 20000 in
theorem wX9_scanName_36 (hZ : zO b e D A X) (j : Nat → rx_K) (hj : ∀ k pc, [124, 235][k]? = some pc → rx_OK (zV b e D A X) mX9_scanName 1 pc (j k)) : rx_OK (zV b e D A X) mX9_scanName 1 36 (vX9_scanName_36 j) := by
  unfold vX9_scanName_36
  refine s_aload_n hZ.1 dX9_scanName_36 rfl ?_
  refine yg9_6 dX9_scanName_37 zw590 ?_
  refine s_iload_n hZ.1 dX9_scanName_40 rfl ?_
  refine s_iconst dX9_scanName_41 (by decide +kernel) ?_
  refine s_iadd dX9_scanName_42 ?_
  refine s_bald (tt := 2) rfl dX9_scanName_43 ?_
  refine s_bipush dX9_scanName_44 (by decide +kernel) ?_
  exact s_icmp_gt dX9_scanName_46 (by decide) (wX9_scanName_53 hZ j hj) (wX9_scanName_49 hZ j hj)
noncomputable def vX9_scanName_23 (j : Nat → rx_K) : rx_K := o_ld rx_isR 0 (o_getf 9 6 (o_ld rx_isI 1 (o_const 16 (o_bi (fun x y => x + y) (o_ald 2 (o_const 520 (o_c2 rx_lt (vX9_scanName_53 j) (vX9_scanName_36 j))))))))
set_option maxRecDepth 20000 in
theorem wX9_scanName_23 (hZ : zO b e D A X) (j : Nat → rx_K) (hj : ∀ k pc, [124, 235][k]? = some pc → rx_OK (zV b e D A X) mX9_scanName 1 pc (j k)) : rx_OK (zV b e D A X) mX9_scanName 1 23 (vX9_scanName_23 j) := by
  unfold vX9_scanName_23
  refine s_aload_n hZ.1 dX9_scanName_23 rfl ?_
  refine yg9_6 dX9_scanName_24 zw590 ?_
  refine s_iload_n hZ.1 dX9_scanName_27 rfl ?_
  refine s_iconst dX9_scanName_28 (by decide +kernel) ?_
  refine s_iadd dX9_scanName_29 ?_
  refine s_bald (tt := 2) rfl dX9_scanName_30 ?_
  refine s_bipush dX9_scanName_31 (by decide +kernel) ?_
  exact s_icmp_lt dX9_scanName_33 (by decide) (wX9_scanName_53 hZ j hj) (wX9_scanName_36 hZ j hj)
noncomputable def vX9_scanName_10 (j : Nat → rx_K) : rx_K := o_ld rx_isR 0 (o_getf 9 6 (o_ld rx_isI 1 (o_const 8 (o_bi (fun x y => x + y) (o_ald 2 (o_const 368 (o_c2 rx_eq (vX9_scanName_23 j) (vX9_scanName_53 j))))))))
set_option maxRecDepth 20000 in
theorem wX9_scanName_10 (hZ : zO b e D A X) (j : Nat → rx_K) (hj : ∀ k pc, [124, 235][k]? = some pc → rx_OK (zV b e D A X) mX9_scanName 1 pc (j k)) : rx_OK (zV b e D A X) mX9_scanName 1 10 (vX9_scanName_10 j) := by
  unfold vX9_scanName_10
  refine s_aload_n hZ.1 dX9_scanName_10 rfl ?_
  refine yg9_6 dX9_scanName_11 zw590 ?_
  refine s_iload_n hZ.1 dX9_scanName_14 rfl ?_
  refine s_iconst dX9_scanName_15 (by decide +kernel) ?_
  refine s_iadd dX9_scanName_16 ?_
  refine s_bald (tt := 2) rfl dX9_scanName_17 ?_
  refine s_bipush dX9_scanName_18 (by decide +kernel) ?_
  exact s_icmp_ne dX9_scanName_20 (by decide) (wX9_scanName_53 hZ j hj) (wX9_scanName_23 hZ j hj)
noncomputable def vX9_scanName_0 (j : Nat → rx_K) : rx_K := o_ld rx_isI 1 (o_const 16 (o_bi (fun x y => x + y) (o_ld rx_isR 0 (o_getf 9 7 (o_c2 rx_lt (vX9_scanName_10 j) (vX9_scanName_53 j))))))
set_option maxRecDepth 20000 in
theorem wX9_scanName_0 (hZ : zO b e D A X) (j : Nat → rx_K) (hj : ∀ k pc, [124, 235][k]? = some pc → rx_OK (zV b e D A X) mX9_scanName 1 pc (j k)) : rx_OK (zV b e D A X) mX9_scanName 1 0 (vX9_scanName_0 j) := by
  unfold vX9_scanName_0
  refine s_iload_n hZ.1 dX9_scanName_0 rfl ?_
  refine s_iconst dX9_scanName_1 (by decide +kernel) ?_
  refine s_iadd dX9_scanName_2 ?_
  refine s_aload_n hZ.1 dX9_scanName_3 rfl ?_
  refine yg9_7 dX9_scanName_4 zw591 ?_
  exact s_icmp_ge dX9_scanName_7 (by decide) (wX9_scanName_53 hZ j hj) (wX9_scanName_10 hZ j hj)
noncomputable def vhX9_scanName (j : Nat → rx_K) : List rx_K := [vX9_scanName_124 j, vX9_scanName_235 j]
theorem vlX9_scanName (hZ : zO b e D A X) : ∀ n k pc, [124, 235][k]? = some pc → rx_OK (zV b e D A X) mX9_scanName 1 pc (rx_J (vhX9_scanName) n k) := rx_loop fun j hj k pc h => by
  match k, h with
  | 0, h =>
    have e9 := Option.some.inj (show some 124 = some pc from h)
    subst e9
    exact wX9_scanName_124 hZ j hj
  | 1, h =>
    have e9 := Option.some.inj (show some 235 = some pc from h)
    subst e9
    exact wX9_scanName_235 hZ j hj
  | _ + 2, h => exact absurd h (by simp)
noncomputable def FX9_scanName : List Nat → rx_H → Option (Nat × rx_H) := rx_ent 8 (vX9_scanName_0 (rx_J (vhX9_scanName) 4000000000))
theorem Met_X9_scanName (hZ : zO b e D A X) : rx_Met (zV b e D A X) 1 yX9_scanName mX9_scanName (FX9_scanName) := rx_entry hZ.1 (wX9_scanName_0 hZ _ (vlX9_scanName hZ 4000000000)) (by decide +kernel) rfl (fun h => by cases h)
abbrev mX9_scanNumber : rx_M := (RX9, cX9_scanNumber, 5, (some .int), false)
theorem vy_X9_scanNumber : rx_Y (zV b e D A X) yX9_scanNumber mX9_scanNumber 1 := ⟨zw1739, zw414, by decide, by decide +kernel, by decide +kernel, by decide +kernel⟩
noncomputable def vX9_scanNumber_90 (j : Nat → rx_K) : rx_K := o_ast 0 (fun v => v) rx_isI (o_ld rx_isR 0 (o_getf 9 4 (o_ld rx_isR 0 (o_getf 9 5 (o_ld rx_isL 3 (o_ast 1 (fun v => v) rx_isL (o_ld rx_isI 2 (o_ret1 rx_isI))))))))
set_option maxRecDepth 20000 in
theorem wX9_scanNumber_90 (hZ : zO b e D A X) (j : Nat → rx_K) (hj : ∀ k pc, [4][k]? = some pc → rx_OK (zV b e D A X) mX9_scanNumber 0 pc (j k)) : rx_OK (zV b e D A X) mX9_scanNumber 0 90 (vX9_scanNumber_90 j) := by
  unfold vX9_scanNumber_90
  refine s_iast hZ.1 (tt := 0) rfl dX9_scanNumber_90 ?_
  refine s_aload_n hZ.1 dX9_scanNumber_91 rfl ?_
  refine yg9_4 dX9_scanNumber_92 zw586 ?_
  refine s_aload_n hZ.1 dX9_scanNumber_95 rfl ?_
  refine yg9_5 dX9_scanNumber_96 zw589 ?_
  refine s_lload_n hZ.1 dX9_scanNumber_99 rfl ?_
  refine s_last (tt := 1) rfl dX9_scanNumber_100 ?_
  refine s_iload_n hZ.1 dX9_scanNumber_101 rfl ?_
  exact s_iret hZ.1 rfl dX9_scanNumber_102
noncomputable def vX9_scanNumber_89 (j : Nat → rx_K) : rx_K := o_const 32 ((vX9_scanNumber_90 j))
set_option maxRecDepth 20000 in
theorem wX9_scanNumber_89 (hZ : zO b e D A X) (j : Nat → rx_K) (hj : ∀ k pc, [4][k]? = some pc → rx_OK (zV b e D A X) mX9_scanNumber 0 pc (j k)) : rx_OK (zV b e D A X) mX9_scanNumber 0 89 (vX9_scanNumber_89 j) := by
  unfold vX9_scanNumber_89
  refine s_iconst dX9_scanNumber_89 (by decide +kernel) ?_
  exact (wX9_scanNumber_90 hZ j hj)
noncomputable def vX9_scanNumber_85 (j : Nat → rx_K) : rx_K := o_const 8 ((vX9_scanNumber_90 j))
set_option maxRecDepth 20000 in
theorem wX9_scanNumber_85 (hZ : zO b e D A X) (j : Nat → rx_K) (hj : ∀ k pc, [4][k]? = some pc → rx_OK (zV b e D A X) mX9_scanNumber 0 pc (j k)) : rx_OK (zV b e D A X) mX9_scanNumber 0 85 (vX9_scanNumber_85 j) := by
  unfold vX9_scanNumber_85
  refine s_iconst dX9_scanNumber_85 (by decide +kernel) ?_
  exact s_goto dX9_scanNumber_86 (by decide) (wX9_scanNumber_90 hZ j hj)
noncomputable def vX9_scanNumber_69 (j : Nat → rx_K) : rx_K := o_ld rx_isR 0 (o_getf 9 1 (o_ld rx_isR 0 (o_getf 9 5 (o_ld rx_isI 2 (o_ld rx_isI 1 (o_bi (fun x y => x - y) (o_const 72 (o_c2 (fun h x y => rx_lt h y x) (vX9_scanNumber_85 j) (vX9_scanNumber_89 j)))))))))
set_option maxRecDepth 20000 in
theorem wX9_scanNumber_69 (hZ : zO b e D A X) (j : Nat → rx_K) (hj : ∀ k pc, [4][k]? = some pc → rx_OK (zV b e D A X) mX9_scanNumber 0 pc (j k)) : rx_OK (zV b e D A X) mX9_scanNumber 0 69 (vX9_scanNumber_69 j) := by
  unfold vX9_scanNumber_69
  refine s_aload_n hZ.1 dX9_scanNumber_69 rfl ?_
  refine yg9_1 dX9_scanNumber_70 zw582 ?_
  refine s_aload_n hZ.1 dX9_scanNumber_73 rfl ?_
  refine yg9_5 dX9_scanNumber_74 zw589 ?_
  refine s_iload_n hZ.1 dX9_scanNumber_77 rfl ?_
  refine s_iload_n hZ.1 dX9_scanNumber_78 rfl ?_
  refine s_isub dX9_scanNumber_79 ?_
  refine s_bipush dX9_scanNumber_80 (by decide +kernel) ?_
  exact s_icmp_le dX9_scanNumber_82 (by decide) (wX9_scanNumber_89 hZ j hj) (wX9_scanNumber_85 hZ j hj)
noncomputable def vX9_scanNumber_62 (j : Nat → rx_K) : rx_K := o_stL 3 (o_inc 2 (1) ((j 0)))
set_option maxRecDepth 20000 in
theorem wX9_scanNumber_62 (hZ : zO b e D A X) (j : Nat → rx_K) (hj : ∀ k pc, [4][k]? = some pc → rx_OK (zV b e D A X) mX9_scanNumber 0 pc (j k)) : rx_OK (zV b e D A X) mX9_scanNumber 0 62 (vX9_scanNumber_62 j) := by
  unfold vX9_scanNumber_62
  refine s_lstore_n hZ.1 dX9_scanNumber_62 rfl (Nat.le_of_ble_eq_true rfl) ?_
  refine s_iinc hZ.1 dX9_scanNumber_63 (Nat.le_of_ble_eq_true rfl) ?_
  exact s_goto dX9_scanNumber_66 (by decide) (hj 0 4 rfl)
noncomputable def vX9_scanNumber_61 (j : Nat → rx_K) : rx_K := o_ld rx_isL 3 ((vX9_scanNumber_62 j))
set_option maxRecDepth 20000 in
theorem wX9_scanNumber_61 (hZ : zO b e D A X) (j : Nat → rx_K) (hj : ∀ k pc, [4][k]? = some pc → rx_OK (zV b e D A X) mX9_scanNumber 0 pc (j k)) : rx_OK (zV b e D A X) mX9_scanNumber 0 61 (vX9_scanNumber_61 j) := by
  unfold vX9_scanNumber_61
  refine s_lload_n hZ.1 dX9_scanNumber_61 rfl ?_
  exact (wX9_scanNumber_62 hZ j hj)
noncomputable def vX9_scanNumber_42 (j : Nat → rx_K) : rx_K := o_ld rx_isL 3 (o_const 81 (o_bl (fun x y => x * y) (o_ld rx_isR 0 (o_getf 9 6 (o_ld rx_isI 2 (o_ald 2 (o_const 384 (o_bi (fun x y => x - y) (o_il (fun x => x.toInt64) (o_bl (fun x y => x + y) ((vX9_scanNumber_62 j))))))))))))
set_option maxRecDepth 20000 in
theorem wX9_scanNumber_42 (hZ : zO b e D A X) (j : Nat → rx_K) (hj : ∀ k pc, [4][k]? = some pc → rx_OK (zV b e D A X) mX9_scanNumber 0 pc (j k)) : rx_OK (zV b e D A X) mX9_scanNumber 0 42 (vX9_scanNumber_42 j) := by
  unfold vX9_scanNumber_42
  refine s_lload_n hZ.1 dX9_scanNumber_42 rfl ?_
  refine s_ldc2 dX9_scanNumber_43 zw1740 (by decide +kernel) ?_
  refine s_lmul dX9_scanNumber_46 ?_
  refine s_aload_n hZ.1 dX9_scanNumber_47 rfl ?_
  refine yg9_6 dX9_scanNumber_48 zw590 ?_
  refine s_iload_n hZ.1 dX9_scanNumber_51 rfl ?_
  refine s_bald (tt := 2) rfl dX9_scanNumber_52 ?_
  refine s_bipush dX9_scanNumber_53 (by decide +kernel) ?_
  refine s_isub dX9_scanNumber_55 ?_
  refine s_i2l dX9_scanNumber_56 ?_
  refine s_ladd dX9_scanNumber_57 ?_
  exact s_goto dX9_scanNumber_58 (by decide) (wX9_scanNumber_62 hZ j hj)
noncomputable def vX9_scanNumber_34 (j : Nat → rx_K) : rx_K := o_ld rx_isI 2 (o_ld rx_isI 1 (o_bi (fun x y => x - y) (o_const 72 (o_c2 rx_lt (vX9_scanNumber_42 j) (vX9_scanNumber_61 j)))))
set_option maxRecDepth 20000 in
theorem wX9_scanNumber_34 (hZ : zO b e D A X) (j : Nat → rx_K) (hj : ∀ k pc, [4][k]? = some pc → rx_OK (zV b e D A X) mX9_scanNumber 0 pc (j k)) : rx_OK (zV b e D A X) mX9_scanNumber 0 34 (vX9_scanNumber_34 j) := by
  unfold vX9_scanNumber_34
  refine s_iload_n hZ.1 dX9_scanNumber_34 rfl ?_
  refine s_iload_n hZ.1 dX9_scanNumber_35 rfl ?_
  refine s_isub dX9_scanNumber_36 ?_
  refine s_bipush dX9_scanNumber_37 (by decide +kernel) ?_
  exact s_icmp_ge dX9_scanNumber_39 (by decide) (wX9_scanNumber_61 hZ j hj) (wX9_scanNumber_42 hZ j hj)
noncomputable def vX9_scanNumber_23 (j : Nat → rx_K) : rx_K := o_ld rx_isR 0 (o_getf 9 6 (o_ld rx_isI 2 (o_ald 2 (o_const 456 (o_c2 (fun h x y => rx_lt h y x) (vX9_scanNumber_69 j) (vX9_scanNumber_34 j))))))
set_option maxRecDepth 20000 in
theorem wX9_scanNumber_23 (hZ : zO b e D A X) (j : Nat → rx_K) (hj : ∀ k pc, [4][k]? = some pc → rx_OK (zV b e D A X) mX9_scanNumber 0 pc (j k)) : rx_OK (zV b e D A X) mX9_scanNumber 0 23 (vX9_scanNumber_23 j) := by
  unfold vX9_scanNumber_23
  refine s_aload_n hZ.1 dX9_scanNumber_23 rfl ?_
  refine yg9_6 dX9_scanNumber_24 zw590 ?_
  refine s_iload_n hZ.1 dX9_scanNumber_27 rfl ?_
  refine s_bald (tt := 2) rfl dX9_scanNumber_28 ?_
  refine s_bipush dX9_scanNumber_29 (by decide +kernel) ?_
  exact s_icmp_gt dX9_scanNumber_31 (by decide) (wX9_scanNumber_69 hZ j hj) (wX9_scanNumber_34 hZ j hj)
noncomputable def vX9_scanNumber_12 (j : Nat → rx_K) : rx_K := o_ld rx_isR 0 (o_getf 9 6 (o_ld rx_isI 2 (o_ald 2 (o_const 384 (o_c2 rx_lt (vX9_scanNumber_69 j) (vX9_scanNumber_23 j))))))
set_option maxRecDepth 20000 in
theorem wX9_scanNumber_12 (hZ : zO b e D A X) (j : Nat → rx_K) (hj : ∀ k pc, [4][k]? = some pc → rx_OK (zV b e D A X) mX9_scanNumber 0 pc (j k)) : rx_OK (zV b e D A X) mX9_scanNumber 0 12 (vX9_scanNumber_12 j) := by
  unfold vX9_scanNumber_12
  refine s_aload_n hZ.1 dX9_scanNumber_12 rfl ?_
  refine yg9_6 dX9_scanNumber_13 zw590 ?_
  refine s_iload_n hZ.1 dX9_scanNumber_16 rfl ?_
  refine s_bald (tt := 2) rfl dX9_scanNumber_17 ?_
  refine s_bipush dX9_scanNumber_18 (by decide +kernel) ?_
  exact s_icmp_lt dX9_scanNumber_20 (by decide) (wX9_scanNumber_69 hZ j hj) (wX9_scanNumber_23 hZ j hj)
noncomputable def vX9_scanNumber_4 (j : Nat → rx_K) : rx_K := o_ld rx_isI 2 (o_ld rx_isR 0 (o_getf 9 7 (o_c2 rx_lt (vX9_scanNumber_12 j) (vX9_scanNumber_69 j))))
set_option maxRecDepth 20000 in
theorem wX9_scanNumber_4 (hZ : zO b e D A X) (j : Nat → rx_K) (hj : ∀ k pc, [4][k]? = some pc → rx_OK (zV b e D A X) mX9_scanNumber 0 pc (j k)) : rx_OK (zV b e D A X) mX9_scanNumber 0 4 (vX9_scanNumber_4 j) := by
  unfold vX9_scanNumber_4
  refine s_iload_n hZ.1 dX9_scanNumber_4 rfl ?_
  refine s_aload_n hZ.1 dX9_scanNumber_5 rfl ?_
  refine yg9_7 dX9_scanNumber_6 zw591 ?_
  exact s_icmp_ge dX9_scanNumber_9 (by decide) (wX9_scanNumber_69 hZ j hj) (wX9_scanNumber_12 hZ j hj)
noncomputable def vX9_scanNumber_0 (j : Nat → rx_K) : rx_K := o_ld rx_isI 1 (o_st rx_isI 2 (o_const 1 (o_stL 3 ((vX9_scanNumber_4 j)))))
set_option maxRecDepth 20000 in
theorem wX9_scanNumber_0 (hZ : zO b e D A X) (j : Nat → rx_K) (hj : ∀ k pc, [4][k]? = some pc → rx_OK (zV b e D A X) mX9_scanNumber 0 pc (j k)) : rx_OK (zV b e D A X) mX9_scanNumber 0 0 (vX9_scanNumber_0 j) := by
  unfold vX9_scanNumber_0
  refine s_iload_n hZ.1 dX9_scanNumber_0 rfl ?_
  refine s_istore_n hZ.1 dX9_scanNumber_1 rfl (Nat.le_of_ble_eq_true rfl) ?_
  refine s_lconst dX9_scanNumber_2 (by decide +kernel) ?_
  refine s_lstore_n hZ.1 dX9_scanNumber_3 rfl (Nat.le_of_ble_eq_true rfl) ?_
  exact (wX9_scanNumber_4 hZ j hj)
noncomputable def vhX9_scanNumber (j : Nat → rx_K) : List rx_K := [vX9_scanNumber_4 j]
theorem vlX9_scanNumber (hZ : zO b e D A X) : ∀ n k pc, [4][k]? = some pc → rx_OK (zV b e D A X) mX9_scanNumber 0 pc (rx_J (vhX9_scanNumber) n k) := rx_loop fun j hj k pc h => by
  match k, h with
  | 0, h =>
    have e9 := Option.some.inj (show some 4 = some pc from h)
    subst e9
    exact wX9_scanNumber_4 hZ j hj
  | _ + 1, h => exact absurd h (by simp)
noncomputable def FX9_scanNumber : List Nat → rx_H → Option (Nat × rx_H) := rx_ent 5 (vX9_scanNumber_0 (rx_J (vhX9_scanNumber) 4000000000))
theorem Met_X9_scanNumber (hZ : zO b e D A X) : rx_Met (zV b e D A X) 0 yX9_scanNumber mX9_scanNumber (FX9_scanNumber) := rx_entry hZ.1 (wX9_scanNumber_0 hZ _ (vlX9_scanNumber hZ 4000000000)) (by decide +kernel) rfl (fun h => by cases h)
abbrev mX9_scan : rx_M := (RX9, cX9_scan, 6, (some .int), false)
theorem vy_X9_scan : rx_Y (zV b e D A X) yX9_scan mX9_scan 1 := ⟨zw1731, zw414, by decide, by decide +kernel, by decide +kernel, by decide +kernel⟩
noncomputable def vX9_scan_246 (j : Nat → rx_K) : rx_K := o_ret1 rx_isI
set_option maxRecDepth 20000 in
theorem wX9_scan_246 (hZ : zO b e D A X) (j : Nat → rx_K) (hj : ∀ k pc, [2][k]? = some pc → rx_OK (zV b e D A X) mX9_scan 2 pc (j k)) : rx_OK (zV b e D A X) mX9_scan 2 246 (vX9_scan_246 j) := by
  unfold vX9_scan_246
  exact s_iret hZ.1 rfl dX9_scan_246
noncomputable def vX9_scan_245 (j : Nat → rx_K) : rx_K := o_ld rx_isI 3 ((vX9_scan_246 j))
set_option maxRecDepth 20000 in
theorem wX9_scan_245 (hZ : zO b e D A X) (j : Nat → rx_K) (hj : ∀ k pc, [2][k]? = some pc → rx_OK (zV b e D A X) mX9_scan 2 pc (j k)) : rx_OK (zV b e D A X) mX9_scan 2 245 (vX9_scan_245 j) := by
  unfold vX9_scan_245
  refine s_iload_n hZ.1 dX9_scan_245 rfl ?_
  exact (wX9_scan_246 hZ j hj)
noncomputable def vX9_scan_240 (j : Nat → rx_K) : rx_K := o_const 34359738352 ((vX9_scan_246 j))
set_option maxRecDepth 20000 in
theorem wX9_scan_240 (hZ : zO b e D A X) (j : Nat → rx_K) (hj : ∀ k pc, [2][k]? = some pc → rx_OK (zV b e D A X) mX9_scan 2 pc (j k)) : rx_OK (zV b e D A X) mX9_scan 2 240 (vX9_scan_240 j) := by
  unfold vX9_scan_240
  refine s_bipush dX9_scan_240 (by decide +kernel) ?_
  exact s_goto dX9_scan_242 (by decide) (wX9_scan_246 hZ j hj)
noncomputable def vX9_scan_235 (j : Nat → rx_K) : rx_K := o_ald 0 (o_const 8 (o_c2 rx_eq (vX9_scan_240 j) (vX9_scan_245 j)))
set_option maxRecDepth 20000 in
theorem wX9_scan_235 (hZ : zO b e D A X) (j : Nat → rx_K) (hj : ∀ k pc, [2][k]? = some pc → rx_OK (zV b e D A X) mX9_scan 2 pc (j k)) : rx_OK (zV b e D A X) mX9_scan 2 235 (vX9_scan_235 j) := by
  unfold vX9_scan_235
  refine s_iald (tt := 0) rfl dX9_scan_235 ?_
  refine s_iconst dX9_scan_236 (by decide +kernel) ?_
  exact s_icmp_ne dX9_scan_237 (by decide) (wX9_scan_245 hZ j hj) (wX9_scan_240 hZ j hj)
noncomputable def vX9_scan_195 (j : Nat → rx_K) : rx_K := o_ld rx_isR 0 (o_getf 9 2 (o_ld rx_isR 0 (o_getf 9 5 (o_ld rx_isI 2 (o_ast 0 (fun v => v) rx_isI (o_ld rx_isR 0 (o_getf 9 3 (o_ld rx_isR 0 (o_getf 9 5 (o_ld rx_isI 3 (o_ast 0 (fun v => v) rx_isI (o_ld rx_isR 0 (o_dup (o_getf 9 5 (o_const 8 (o_bi (fun x y => x + y) (o_putf rx_isI 9 5 (o_ld rx_isR 0 (o_getf 9 1 (o_ld rx_isR 0 (o_getf 9 5 (o_const 8 (o_bi (fun x y => x - y) ((vX9_scan_235 j)))))))))))))))))))))))))
set_option maxRecDepth 20000 in
theorem wX9_scan_195 (hZ : zO b e D A X) (j : Nat → rx_K) (hj : ∀ k pc, [2][k]? = some pc → rx_OK (zV b e D A X) mX9_scan 2 pc (j k)) : rx_OK (zV b e D A X) mX9_scan 2 195 (vX9_scan_195 j) := by
  unfold vX9_scan_195
  refine s_aload_n hZ.1 dX9_scan_195 rfl ?_
  refine yg9_2 dX9_scan_196 zw583 ?_
  refine s_aload_n hZ.1 dX9_scan_199 rfl ?_
  refine yg9_5 dX9_scan_200 zw589 ?_
  refine s_iload_n hZ.1 dX9_scan_203 rfl ?_
  refine s_iast hZ.1 (tt := 0) rfl dX9_scan_204 ?_
  refine s_aload_n hZ.1 dX9_scan_205 rfl ?_
  refine yg9_3 dX9_scan_206 zw585 ?_
  refine s_aload_n hZ.1 dX9_scan_209 rfl ?_
  refine yg9_5 dX9_scan_210 zw589 ?_
  refine s_iload_n hZ.1 dX9_scan_213 rfl ?_
  refine s_iast hZ.1 (tt := 0) rfl dX9_scan_214 ?_
  refine s_aload_n hZ.1 dX9_scan_215 rfl ?_
  refine s_dup hZ.1 dX9_scan_216 ?_
  refine yg9_5 dX9_scan_217 zw589 ?_
  refine s_iconst dX9_scan_220 (by decide +kernel) ?_
  refine s_iadd dX9_scan_221 ?_
  refine yp9_5 hZ.1 dX9_scan_222 zw589 ?_
  refine s_aload_n hZ.1 dX9_scan_225 rfl ?_
  refine yg9_1 dX9_scan_226 zw582 ?_
  refine s_aload_n hZ.1 dX9_scan_229 rfl ?_
  refine yg9_5 dX9_scan_230 zw589 ?_
  refine s_iconst dX9_scan_233 (by decide +kernel) ?_
  refine s_isub dX9_scan_234 ?_
  exact (wX9_scan_235 hZ j hj)
noncomputable def vX9_scan_194 (j : Nat → rx_K) : rx_K := o_ast 0 (fun v => v) rx_isI ((vX9_scan_195 j))
set_option maxRecDepth 20000 in
theorem wX9_scan_194 (hZ : zO b e D A X) (j : Nat → rx_K) (hj : ∀ k pc, [2][k]? = some pc → rx_OK (zV b e D A X) mX9_scan 2 pc (j k)) : rx_OK (zV b e D A X) mX9_scan 2 194 (vX9_scan_194 j) := by
  unfold vX9_scan_194
  refine s_iast hZ.1 (tt := 0) rfl dX9_scan_194 ?_
  exact (wX9_scan_195 hZ j hj)
noncomputable def vX9_scan_193 (j : Nat → rx_K) : rx_K := o_const 8 ((vX9_scan_194 j))
set_option maxRecDepth 20000 in
theorem wX9_scan_193 (hZ : zO b e D A X) (j : Nat → rx_K) (hj : ∀ k pc, [2][k]? = some pc → rx_OK (zV b e D A X) mX9_scan 2 pc (j k)) : rx_OK (zV b e D A X) mX9_scan 2 193 (vX9_scan_193 j) := by
  unfold vX9_scan_193
  refine s_iconst dX9_scan_193 (by decide +kernel) ?_
  exact (wX9_scan_194 hZ j hj)
noncomputable def vX9_scan_185 (j : Nat → rx_K) : rx_K := o_const 800 (o_ld rx_isI 4 (o_bi (fun x y => x + y) ((vX9_scan_194 j))))
set_option maxRecDepth 20000 in
theorem wX9_scan_185 (hZ : zO b e D A X) (j : Nat → rx_K) (hj : ∀ k pc, [2][k]? = some pc → rx_OK (zV b e D A X) mX9_scan 2 pc (j k)) : rx_OK (zV b e D A X) mX9_scan 2 185 (vX9_scan_185 j) := by
  unfold vX9_scan_185
  refine s_bipush dX9_scan_185 (by decide +kernel) ?_
  refine s_iload hZ.1 dX9_scan_187 ?_
  refine s_iadd dX9_scan_189 ?_
  exact s_goto dX9_scan_190 (by decide) (wX9_scan_194 hZ j hj)
noncomputable def vX9_scan_177 (j : Nat → rx_K) : rx_K := o_ld rx_isI 4 (o_callS 1 FX9_isSign (o_c1 rx_eq (vX9_scan_193 j) (vX9_scan_185 j)))
set_option maxRecDepth 20000 in
theorem wX9_scan_177 (hZ : zO b e D A X) (j : Nat → rx_K) (hj : ∀ k pc, [2][k]? = some pc → rx_OK (zV b e D A X) mX9_scan 2 pc (j k)) : rx_OK (zV b e D A X) mX9_scan 2 177 (vX9_scan_177 j) := by
  unfold vX9_scan_177
  refine s_iload hZ.1 dX9_scan_177 ?_
  refine s_callS hZ.1 (Met_X9_isSign hZ) (Nat.le_of_ble_eq_true rfl) vy_X9_isSign zw1742 (Or.inl zw1741) dX9_scan_179 ?_
  exact s_if_eq dX9_scan_182 (by decide) (wX9_scan_193 hZ j hj) (wX9_scan_185 hZ j hj)
noncomputable def vX9_scan_172 (j : Nat → rx_K) : rx_K := o_const 792 ((vX9_scan_194 j))
set_option maxRecDepth 20000 in
theorem wX9_scan_172 (hZ : zO b e D A X) (j : Nat → rx_K) (hj : ∀ k pc, [2][k]? = some pc → rx_OK (zV b e D A X) mX9_scan 2 pc (j k)) : rx_OK (zV b e D A X) mX9_scan 2 172 (vX9_scan_172 j) := by
  unfold vX9_scan_172
  refine s_bipush dX9_scan_172 (by decide +kernel) ?_
  exact s_goto dX9_scan_174 (by decide) (wX9_scan_194 hZ j hj)
noncomputable def vX9_scan_158 (j : Nat → rx_K) : rx_K := o_st rx_isI 3 (o_ld rx_isR 0 (o_getf 9 1 (o_ld rx_isR 0 (o_getf 9 5 (o_ld rx_isI 5 (o_c1 rx_eq (vX9_scan_177 j) (vX9_scan_172 j)))))))
set_option maxRecDepth 20000 in
theorem wX9_scan_158 (hZ : zO b e D A X) (j : Nat → rx_K) (hj : ∀ k pc, [2][k]? = some pc → rx_OK (zV b e D A X) mX9_scan 2 pc (j k)) : rx_OK (zV b e D A X) mX9_scan 2 158 (vX9_scan_158 j) := by
  unfold vX9_scan_158
  refine s_istore_n hZ.1 dX9_scan_158 rfl (Nat.le_of_ble_eq_true rfl) ?_
  refine s_aload_n hZ.1 dX9_scan_159 rfl ?_
  refine yg9_1 dX9_scan_160 zw582 ?_
  refine s_aload_n hZ.1 dX9_scan_163 rfl ?_
  refine yg9_5 dX9_scan_164 zw589 ?_
  refine s_iload hZ.1 dX9_scan_167 ?_
  exact s_if_eq dX9_scan_169 (by decide) (wX9_scan_177 hZ j hj) (wX9_scan_172 hZ j hj)
noncomputable def vX9_scan_155 (j : Nat → rx_K) : rx_K := o_ld rx_isI 2 (o_const 8 (o_bi (fun x y => x + y) ((vX9_scan_158 j))))
set_option maxRecDepth 20000 in
theorem wX9_scan_155 (hZ : zO b e D A X) (j : Nat → rx_K) (hj : ∀ k pc, [2][k]? = some pc → rx_OK (zV b e D A X) mX9_scan 2 pc (j k)) : rx_OK (zV b e D A X) mX9_scan 2 155 (vX9_scan_155 j) := by
  unfold vX9_scan_155
  refine s_iload_n hZ.1 dX9_scan_155 rfl ?_
  refine s_iconst dX9_scan_156 (by decide +kernel) ?_
  refine s_iadd dX9_scan_157 ?_
  exact (wX9_scan_158 hZ j hj)
noncomputable def vX9_scan_149 (j : Nat → rx_K) : rx_K := o_ld rx_isI 2 (o_const 16 (o_bi (fun x y => x + y) ((vX9_scan_158 j))))
set_option maxRecDepth 20000 in
theorem wX9_scan_149 (hZ : zO b e D A X) (j : Nat → rx_K) (hj : ∀ k pc, [2][k]? = some pc → rx_OK (zV b e D A X) mX9_scan 2 pc (j k)) : rx_OK (zV b e D A X) mX9_scan 2 149 (vX9_scan_149 j) := by
  unfold vX9_scan_149
  refine s_iload_n hZ.1 dX9_scan_149 rfl ?_
  refine s_iconst dX9_scan_150 (by decide +kernel) ?_
  refine s_iadd dX9_scan_151 ?_
  exact s_goto dX9_scan_152 (by decide) (wX9_scan_158 hZ j hj)
noncomputable def vX9_scan_142 (j : Nat → rx_K) : rx_K := o_st rx_isI 5 (o_ld rx_isI 5 (o_c1 rx_eq (vX9_scan_155 j) (vX9_scan_149 j)))
set_option maxRecDepth 20000 in
theorem wX9_scan_142 (hZ : zO b e D A X) (j : Nat → rx_K) (hj : ∀ k pc, [2][k]? = some pc → rx_OK (zV b e D A X) mX9_scan 2 pc (j k)) : rx_OK (zV b e D A X) mX9_scan 2 142 (vX9_scan_142 j) := by
  unfold vX9_scan_142
  refine s_istore hZ.1 dX9_scan_142 (Nat.le_of_ble_eq_true rfl) ?_
  refine s_iload hZ.1 dX9_scan_144 ?_
  exact s_if_eq dX9_scan_146 (by decide) (wX9_scan_155 hZ j hj) (wX9_scan_149 hZ j hj)
noncomputable def vX9_scan_141 (j : Nat → rx_K) : rx_K := o_const 0 ((vX9_scan_142 j))
set_option maxRecDepth 20000 in
theorem wX9_scan_141 (hZ : zO b e D A X) (j : Nat → rx_K) (hj : ∀ k pc, [2][k]? = some pc → rx_OK (zV b e D A X) mX9_scan 2 pc (j k)) : rx_OK (zV b e D A X) mX9_scan 2 141 (vX9_scan_141 j) := by
  unfold vX9_scan_141
  refine s_iconst dX9_scan_141 (by decide +kernel) ?_
  exact (wX9_scan_142 hZ j hj)
noncomputable def vX9_scan_137 (j : Nat → rx_K) : rx_K := o_const 8 ((vX9_scan_142 j))
set_option maxRecDepth 20000 in
theorem wX9_scan_137 (hZ : zO b e D A X) (j : Nat → rx_K) (hj : ∀ k pc, [2][k]? = some pc → rx_OK (zV b e D A X) mX9_scan 2 pc (j k)) : rx_OK (zV b e D A X) mX9_scan 2 137 (vX9_scan_137 j) := by
  unfold vX9_scan_137
  refine s_iconst dX9_scan_137 (by decide +kernel) ?_
  exact s_goto dX9_scan_138 (by decide) (wX9_scan_142 hZ j hj)
noncomputable def vX9_scan_124 (j : Nat → rx_K) : rx_K := o_ld rx_isR 0 (o_getf 9 6 (o_ld rx_isI 2 (o_const 8 (o_bi (fun x y => x + y) (o_ald 2 (o_const 488 (o_c2 rx_eq (vX9_scan_137 j) (vX9_scan_141 j))))))))
set_option maxRecDepth 20000 in
theorem wX9_scan_124 (hZ : zO b e D A X) (j : Nat → rx_K) (hj : ∀ k pc, [2][k]? = some pc → rx_OK (zV b e D A X) mX9_scan 2 pc (j k)) : rx_OK (zV b e D A X) mX9_scan 2 124 (vX9_scan_124 j) := by
  unfold vX9_scan_124
  refine s_aload_n hZ.1 dX9_scan_124 rfl ?_
  refine yg9_6 dX9_scan_125 zw590 ?_
  refine s_iload_n hZ.1 dX9_scan_128 rfl ?_
  refine s_iconst dX9_scan_129 (by decide +kernel) ?_
  refine s_iadd dX9_scan_130 ?_
  refine s_bald (tt := 2) rfl dX9_scan_131 ?_
  refine s_bipush dX9_scan_132 (by decide +kernel) ?_
  exact s_icmp_ne dX9_scan_134 (by decide) (wX9_scan_141 hZ j hj) (wX9_scan_137 hZ j hj)
noncomputable def vX9_scan_114 (j : Nat → rx_K) : rx_K := o_ld rx_isI 2 (o_const 8 (o_bi (fun x y => x + y) (o_ld rx_isR 0 (o_getf 9 7 (o_c2 rx_lt (vX9_scan_124 j) (vX9_scan_141 j))))))
set_option maxRecDepth 20000 in
theorem wX9_scan_114 (hZ : zO b e D A X) (j : Nat → rx_K) (hj : ∀ k pc, [2][k]? = some pc → rx_OK (zV b e D A X) mX9_scan 2 pc (j k)) : rx_OK (zV b e D A X) mX9_scan 2 114 (vX9_scan_114 j) := by
  unfold vX9_scan_114
  refine s_iload_n hZ.1 dX9_scan_114 rfl ?_
  refine s_iconst dX9_scan_115 (by decide +kernel) ?_
  refine s_iadd dX9_scan_116 ?_
  refine s_aload_n hZ.1 dX9_scan_117 rfl ?_
  refine yg9_7 dX9_scan_118 zw591 ?_
  exact s_icmp_ge dX9_scan_121 (by decide) (wX9_scan_141 hZ j hj) (wX9_scan_124 hZ j hj)
noncomputable def vX9_scan_107 (j : Nat → rx_K) : rx_K := o_ld rx_isI 4 (o_const 488 (o_c2 rx_eq (vX9_scan_114 j) (vX9_scan_141 j)))
set_option maxRecDepth 20000 in
theorem wX9_scan_107 (hZ : zO b e D A X) (j : Nat → rx_K) (hj : ∀ k pc, [2][k]? = some pc → rx_OK (zV b e D A X) mX9_scan 2 pc (j k)) : rx_OK (zV b e D A X) mX9_scan 2 107 (vX9_scan_107 j) := by
  unfold vX9_scan_107
  refine s_iload hZ.1 dX9_scan_107 ?_
  refine s_bipush dX9_scan_109 (by decide +kernel) ?_
  exact s_icmp_ne dX9_scan_111 (by decide) (wX9_scan_141 hZ j hj) (wX9_scan_114 hZ j hj)
noncomputable def vX9_scan_98 (j : Nat → rx_K) : rx_K := o_ld rx_isR 0 (o_ld rx_isI 2 (o_callV 1 9 FX9_scanNumber (o_st rx_isI 3 ((vX9_scan_195 j)))))
set_option maxRecDepth 20000 in
theorem wX9_scan_98 (hZ : zO b e D A X) (j : Nat → rx_K) (hj : ∀ k pc, [2][k]? = some pc → rx_OK (zV b e D A X) mX9_scan 2 pc (j k)) : rx_OK (zV b e D A X) mX9_scan 2 98 (vX9_scan_98 j) := by
  unfold vX9_scan_98
  refine s_aload_n hZ.1 dX9_scan_98 rfl ?_
  refine s_iload_n hZ.1 dX9_scan_99 rfl ?_
  refine s_callV hZ.1 (Met_X9_scanNumber hZ) (Nat.le_of_ble_eq_true rfl) vy_X9_scanNumber zcl9 zw1738 zw11 (Or.inl zw1736) dX9_scan_100 ?_
  refine s_istore_n hZ.1 dX9_scan_103 rfl (Nat.le_of_ble_eq_true rfl) ?_
  exact s_goto dX9_scan_104 (by decide) (wX9_scan_195 hZ j hj)
noncomputable def vX9_scan_91 (j : Nat → rx_K) : rx_K := o_ld rx_isI 4 (o_const 456 (o_c2 (fun h x y => rx_lt h y x) (vX9_scan_107 j) (vX9_scan_98 j)))
set_option maxRecDepth 20000 in
theorem wX9_scan_91 (hZ : zO b e D A X) (j : Nat → rx_K) (hj : ∀ k pc, [2][k]? = some pc → rx_OK (zV b e D A X) mX9_scan 2 pc (j k)) : rx_OK (zV b e D A X) mX9_scan 2 91 (vX9_scan_91 j) := by
  unfold vX9_scan_91
  refine s_iload hZ.1 dX9_scan_91 ?_
  refine s_bipush dX9_scan_93 (by decide +kernel) ?_
  exact s_icmp_gt dX9_scan_95 (by decide) (wX9_scan_107 hZ j hj) (wX9_scan_98 hZ j hj)
noncomputable def vX9_scan_84 (j : Nat → rx_K) : rx_K := o_ld rx_isI 4 (o_const 384 (o_c2 rx_lt (vX9_scan_107 j) (vX9_scan_91 j)))
set_option maxRecDepth 20000 in
theorem wX9_scan_84 (hZ : zO b e D A X) (j : Nat → rx_K) (hj : ∀ k pc, [2][k]? = some pc → rx_OK (zV b e D A X) mX9_scan 2 pc (j k)) : rx_OK (zV b e D A X) mX9_scan 2 84 (vX9_scan_84 j) := by
  unfold vX9_scan_84
  refine s_iload hZ.1 dX9_scan_84 ?_
  refine s_bipush dX9_scan_86 (by decide +kernel) ?_
  exact s_icmp_lt dX9_scan_88 (by decide) (wX9_scan_107 hZ j hj) (wX9_scan_91 hZ j hj)
noncomputable def vX9_scan_75 (j : Nat → rx_K) : rx_K := o_ld rx_isR 0 (o_ld rx_isI 2 (o_callV 1 9 FX9_scanName (o_st rx_isI 3 ((vX9_scan_195 j)))))
set_option maxRecDepth 20000 in
theorem wX9_scan_75 (hZ : zO b e D A X) (j : Nat → rx_K) (hj : ∀ k pc, [2][k]? = some pc → rx_OK (zV b e D A X) mX9_scan 2 pc (j k)) : rx_OK (zV b e D A X) mX9_scan 2 75 (vX9_scan_75 j) := by
  unfold vX9_scan_75
  refine s_aload_n hZ.1 dX9_scan_75 rfl ?_
  refine s_iload_n hZ.1 dX9_scan_76 rfl ?_
  refine s_callV hZ.1 (Met_X9_scanName hZ) (Nat.le_of_ble_eq_true rfl) vy_X9_scanName zcl9 zw1734 zw10 (Or.inl zw1732) dX9_scan_77 ?_
  refine s_istore_n hZ.1 dX9_scan_80 rfl (Nat.le_of_ble_eq_true rfl) ?_
  exact s_goto dX9_scan_81 (by decide) (wX9_scan_195 hZ j hj)
noncomputable def vX9_scan_68 (j : Nat → rx_K) : rx_K := o_ld rx_isI 4 (o_const 976 (o_c2 (fun h x y => rx_lt h y x) (vX9_scan_84 j) (vX9_scan_75 j)))
set_option maxRecDepth 20000 in
theorem wX9_scan_68 (hZ : zO b e D A X) (j : Nat → rx_K) (hj : ∀ k pc, [2][k]? = some pc → rx_OK (zV b e D A X) mX9_scan 2 pc (j k)) : rx_OK (zV b e D A X) mX9_scan 2 68 (vX9_scan_68 j) := by
  unfold vX9_scan_68
  refine s_iload hZ.1 dX9_scan_68 ?_
  refine s_bipush dX9_scan_70 (by decide +kernel) ?_
  exact s_icmp_gt dX9_scan_72 (by decide) (wX9_scan_84 hZ j hj) (wX9_scan_75 hZ j hj)
noncomputable def vX9_scan_49 (j : Nat → rx_K) : rx_K := o_ld rx_isI 2 (o_const 8 (o_bi (fun x y => x + y) (o_st rx_isI 3 (o_ld rx_isR 0 (o_getf 9 6 (o_ld rx_isI 2 (o_ald 2 (o_st rx_isI 4 (o_ld rx_isI 4 (o_const 776 (o_c2 rx_lt (vX9_scan_84 j) (vX9_scan_68 j))))))))))))
set_option maxRecDepth 20000 in
theorem wX9_scan_49 (hZ : zO b e D A X) (j : Nat → rx_K) (hj : ∀ k pc, [2][k]? = some pc → rx_OK (zV b e D A X) mX9_scan 2 pc (j k)) : rx_OK (zV b e D A X) mX9_scan 2 49 (vX9_scan_49 j) := by
  unfold vX9_scan_49
  refine s_iload_n hZ.1 dX9_scan_49 rfl ?_
  refine s_iconst dX9_scan_50 (by decide +kernel) ?_
  refine s_iadd dX9_scan_51 ?_
  refine s_istore_n hZ.1 dX9_scan_52 rfl (Nat.le_of_ble_eq_true rfl) ?_
  refine s_aload_n hZ.1 dX9_scan_53 rfl ?_
  refine yg9_6 dX9_scan_54 zw590 ?_
  refine s_iload_n hZ.1 dX9_scan_57 rfl ?_
  refine s_bald (tt := 2) rfl dX9_scan_58 ?_
  refine s_istore hZ.1 dX9_scan_59 (Nat.le_of_ble_eq_true rfl) ?_
  refine s_iload hZ.1 dX9_scan_61 ?_
  refine s_bipush dX9_scan_63 (by decide +kernel) ?_
  exact s_icmp_lt dX9_scan_65 (by decide) (wX9_scan_84 hZ j hj) (wX9_scan_68 hZ j hj)
noncomputable def vX9_scan_46 (j : Nat → rx_K) : rx_K := o_const 34359738352 (o_ret1 rx_isI)
set_option maxRecDepth 20000 in
theorem wX9_scan_46 (hZ : zO b e D A X) (j : Nat → rx_K) (hj : ∀ k pc, [2][k]? = some pc → rx_OK (zV b e D A X) mX9_scan 2 pc (j k)) : rx_OK (zV b e D A X) mX9_scan 2 46 (vX9_scan_46 j) := by
  unfold vX9_scan_46
  refine s_bipush dX9_scan_46 (by decide +kernel) ?_
  exact s_iret hZ.1 rfl dX9_scan_48
noncomputable def vX9_scan_38 (j : Nat → rx_K) : rx_K := o_ld rx_isI 2 (o_ld rx_isR 0 (o_getf 9 7 (o_c2 rx_lt (vX9_scan_49 j) (vX9_scan_46 j))))
set_option maxRecDepth 20000 in
theorem wX9_scan_38 (hZ : zO b e D A X) (j : Nat → rx_K) (hj : ∀ k pc, [2][k]? = some pc → rx_OK (zV b e D A X) mX9_scan 2 pc (j k)) : rx_OK (zV b e D A X) mX9_scan 2 38 (vX9_scan_38 j) := by
  unfold vX9_scan_38
  refine s_iload_n hZ.1 dX9_scan_38 rfl ?_
  refine s_aload_n hZ.1 dX9_scan_39 rfl ?_
  refine yg9_7 dX9_scan_40 zw591 ?_
  exact s_icmp_lt dX9_scan_43 (by decide) (wX9_scan_49 hZ j hj) (wX9_scan_46 hZ j hj)
noncomputable def vX9_scan_32 (j : Nat → rx_K) : rx_K := o_inc 2 (1) ((j 0))
set_option maxRecDepth 20000 in
theorem wX9_scan_32 (hZ : zO b e D A X) (j : Nat → rx_K) (hj : ∀ k pc, [2][k]? = some pc → rx_OK (zV b e D A X) mX9_scan 2 pc (j k)) : rx_OK (zV b e D A X) mX9_scan 2 32 (vX9_scan_32 j) := by
  unfold vX9_scan_32
  refine s_iinc hZ.1 dX9_scan_32 (Nat.le_of_ble_eq_true rfl) ?_
  exact s_goto dX9_scan_35 (by decide) (hj 0 2 rfl)
noncomputable def vX9_scan_21 (j : Nat → rx_K) : rx_K := o_ld rx_isR 0 (o_getf 9 6 (o_ld rx_isI 2 (o_ald 2 (o_const 256 (o_c2 rx_eq (vX9_scan_32 j) (vX9_scan_38 j))))))
set_option maxRecDepth 20000 in
theorem wX9_scan_21 (hZ : zO b e D A X) (j : Nat → rx_K) (hj : ∀ k pc, [2][k]? = some pc → rx_OK (zV b e D A X) mX9_scan 2 pc (j k)) : rx_OK (zV b e D A X) mX9_scan 2 21 (vX9_scan_21 j) := by
  unfold vX9_scan_21
  refine s_aload_n hZ.1 dX9_scan_21 rfl ?_
  refine yg9_6 dX9_scan_22 zw590 ?_
  refine s_iload_n hZ.1 dX9_scan_25 rfl ?_
  refine s_bald (tt := 2) rfl dX9_scan_26 ?_
  refine s_bipush dX9_scan_27 (by decide +kernel) ?_
  exact s_icmp_ne dX9_scan_29 (by decide) (wX9_scan_38 hZ j hj) (wX9_scan_32 hZ j hj)
noncomputable def vX9_scan_10 (j : Nat → rx_K) : rx_K := o_ld rx_isR 0 (o_getf 9 6 (o_ld rx_isI 2 (o_ald 2 (o_const 80 (o_c2 rx_eq (vX9_scan_32 j) (vX9_scan_21 j))))))
set_option maxRecDepth 20000 in
theorem wX9_scan_10 (hZ : zO b e D A X) (j : Nat → rx_K) (hj : ∀ k pc, [2][k]? = some pc → rx_OK (zV b e D A X) mX9_scan 2 pc (j k)) : rx_OK (zV b e D A X) mX9_scan 2 10 (vX9_scan_10 j) := by
  unfold vX9_scan_10
  refine s_aload_n hZ.1 dX9_scan_10 rfl ?_
  refine yg9_6 dX9_scan_11 zw590 ?_
  refine s_iload_n hZ.1 dX9_scan_14 rfl ?_
  refine s_bald (tt := 2) rfl dX9_scan_15 ?_
  refine s_bipush dX9_scan_16 (by decide +kernel) ?_
  exact s_icmp_eq dX9_scan_18 (by decide) (wX9_scan_32 hZ j hj) (wX9_scan_21 hZ j hj)
noncomputable def vX9_scan_2 (j : Nat → rx_K) : rx_K := o_ld rx_isI 2 (o_ld rx_isR 0 (o_getf 9 7 (o_c2 rx_lt (vX9_scan_10 j) (vX9_scan_38 j))))
set_option maxRecDepth 20000 in
theorem wX9_scan_2 (hZ : zO b e D A X) (j : Nat → rx_K) (hj : ∀ k pc, [2][k]? = some pc → rx_OK (zV b e D A X) mX9_scan 2 pc (j k)) : rx_OK (zV b e D A X) mX9_scan 2 2 (vX9_scan_2 j) := by
  unfold vX9_scan_2
  refine s_iload_n hZ.1 dX9_scan_2 rfl ?_
  refine s_aload_n hZ.1 dX9_scan_3 rfl ?_
  refine yg9_7 dX9_scan_4 zw591 ?_
  exact s_icmp_ge dX9_scan_7 (by decide) (wX9_scan_38 hZ j hj) (wX9_scan_10 hZ j hj)
noncomputable def vX9_scan_0 (j : Nat → rx_K) : rx_K := o_ld rx_isI 1 (o_st rx_isI 2 ((vX9_scan_2 j)))
set_option maxRecDepth 20000 in
theorem wX9_scan_0 (hZ : zO b e D A X) (j : Nat → rx_K) (hj : ∀ k pc, [2][k]? = some pc → rx_OK (zV b e D A X) mX9_scan 2 pc (j k)) : rx_OK (zV b e D A X) mX9_scan 2 0 (vX9_scan_0 j) := by
  unfold vX9_scan_0
  refine s_iload_n hZ.1 dX9_scan_0 rfl ?_
  refine s_istore_n hZ.1 dX9_scan_1 rfl (Nat.le_of_ble_eq_true rfl) ?_
  exact (wX9_scan_2 hZ j hj)
noncomputable def vhX9_scan (j : Nat → rx_K) : List rx_K := [vX9_scan_2 j]
theorem vlX9_scan (hZ : zO b e D A X) : ∀ n k pc, [2][k]? = some pc → rx_OK (zV b e D A X) mX9_scan 2 pc (rx_J (vhX9_scan) n k) := rx_loop fun j hj k pc h => by
  match k, h with
  | 0, h =>
    have e9 := Option.some.inj (show some 2 = some pc from h)
    subst e9
    exact wX9_scan_2 hZ j hj
  | _ + 1, h => exact absurd h (by simp)
noncomputable def FX9_scan : List Nat → rx_H → Option (Nat × rx_H) := rx_ent 6 (vX9_scan_0 (rx_J (vhX9_scan) 4000000000))
theorem Met_X9_scan (hZ : zO b e D A X) : rx_Met (zV b e D A X) 2 yX9_scan mX9_scan (FX9_scan) := rx_entry hZ.1 (wX9_scan_0 hZ _ (vlX9_scan hZ 4000000000)) (by decide +kernel) rfl (fun h => by cases h)
end ZM28

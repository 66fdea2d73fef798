section ZM49
variable {b : Nat} {e : Nat → Value} {D : va_G} {A : Nat → ClassId} {X : State → Prop}
abbrev mX13_membersOf : rx_M := (RX13, cX13_membersOf, 8, none, false)
theorem vy_X13_membersOf : rx_Y (zV b e D A X) yX13_membersOf mX13_membersOf 0 := ⟨zw3225, zw431, by decide, by decide +kernel, by decide +kernel, by decide +kernel⟩
noncomputable def vX13_membersOf_320 (j : Nat → rx_K) : rx_K := o_ret0
set_option maxRecDepth 20000 in
theorem wX13_membersOf_320 (hZ : zO b e D A X) (j : Nat → rx_K) (hj : ∀ k pc, [2, 34, 124, 174][k]? = some pc → rx_OK (zV b e D A X) mX13_membersOf 5 pc (j k)) : rx_OK (zV b e D A X) mX13_membersOf 5 320 (vX13_membersOf_320 j) := by
  unfold vX13_membersOf_320
  exact s_vret rfl dX13_membersOf_320
noncomputable def vX13_membersOf_314 (j : Nat → rx_K) : rx_K := o_inc 1 (1) ((j 0))
set_option maxRecDepth 20000 in
theorem wX13_membersOf_314 (hZ : zO b e D A X) (j : Nat → rx_K) (hj : ∀ k pc, [2, 34, 124, 174][k]? = some pc → rx_OK (zV b e D A X) mX13_membersOf 5 pc (j k)) : rx_OK (zV b e D A X) mX13_membersOf 5 314 (vX13_membersOf_314 j) := by
  unfold vX13_membersOf_314
  refine s_iinc hZ.1 dX13_membersOf_314 (Nat.le_of_ble_eq_true rfl) ?_
  exact s_goto dX13_membersOf_317 (by decide) (hj 0 2 rfl)
noncomputable def vX13_membersOf_308 (j : Nat → rx_K) : rx_K := o_inc 3 (1) ((j 1))
set_option maxRecDepth 20000 in
theorem wX13_membersOf_308 (hZ : zO b e D A X) (j : Nat → rx_K) (hj : ∀ k pc, [2, 34, 124, 174][k]? = some pc → rx_OK (zV b e D A X) mX13_membersOf 5 pc (j k)) : rx_OK (zV b e D A X) mX13_membersOf 5 308 (vX13_membersOf_308 j) := by
  unfold vX13_membersOf_308
  refine s_iinc hZ.1 dX13_membersOf_308 (Nat.le_of_ble_eq_true rfl) ?_
  exact s_goto dX13_membersOf_311 (by decide) (hj 1 34 rfl)
noncomputable def vX13_membersOf_302 (j : Nat → rx_K) : rx_K := o_inc 5 (1) ((j 3))
set_option maxRecDepth 20000 in
theorem wX13_membersOf_302 (hZ : zO b e D A X) (j : Nat → rx_K) (hj : ∀ k pc, [2, 34, 124, 174][k]? = some pc → rx_OK (zV b e D A X) mX13_membersOf 5 pc (j k)) : rx_OK (zV b e D A X) mX13_membersOf 5 302 (vX13_membersOf_302 j) := by
  unfold vX13_membersOf_302
  refine s_iinc hZ.1 dX13_membersOf_302 (Nat.le_of_ble_eq_true rfl) ?_
  exact s_goto dX13_membersOf_305 (by decide) (hj 3 174 rfl)
noncomputable def vX13_membersOf_289 (j : Nat → rx_K) : rx_K := o_ld rx_isR 0 (o_const 48 (o_ld rx_isR 0 (o_getf 13 52 (o_ld rx_isI 4 (o_ald 0 (o_callV 2 13 FX13_fault ((vX13_membersOf_302 j))))))))
set_option maxRecDepth 20000 in
theorem wX13_membersOf_289 (hZ : zO b e D A X) (j : Nat → rx_K) (hj : ∀ k pc, [2, 34, 124, 174][k]? = some pc → rx_OK (zV b e D A X) mX13_membersOf 5 pc (j k)) : rx_OK (zV b e D A X) mX13_membersOf 5 289 (vX13_membersOf_289 j) := by
  unfold vX13_membersOf_289
  refine s_aload_n hZ.1 dX13_membersOf_289 rfl ?_
  refine s_bipush dX13_membersOf_290 (by decide +kernel) ?_
  refine s_aload_n hZ.1 dX13_membersOf_292 rfl ?_
  refine yg13_52 dX13_membersOf_293 zw4173 ?_
  refine s_iload hZ.1 dX13_membersOf_296 ?_
  refine s_iald (tt := 0) rfl dX13_membersOf_298 ?_
  refine s_callV hZ.1 (Met_X13_fault hZ) (Nat.le_of_ble_eq_true rfl) vy_X13_fault zcl13 zw3004 zw190 (Or.inl zw3002) dX13_membersOf_299 ?_
  exact (wX13_membersOf_302 hZ j hj)
noncomputable def vX13_membersOf_282 (j : Nat → rx_K) : rx_K := o_st rx_isI 7 (o_ld rx_isI 7 (o_c1 rx_eq (vX13_membersOf_302 j) (vX13_membersOf_289 j)))
set_option maxRecDepth 20000 in
theorem wX13_membersOf_282 (hZ : zO b e D A X) (j : Nat → rx_K) (hj : ∀ k pc, [2, 34, 124, 174][k]? = some pc → rx_OK (zV b e D A X) mX13_membersOf 5 pc (j k)) : rx_OK (zV b e D A X) mX13_membersOf 5 282 (vX13_membersOf_282 j) := by
  unfold vX13_membersOf_282
  refine s_istore hZ.1 dX13_membersOf_282 (Nat.le_of_ble_eq_true rfl) ?_
  refine s_iload hZ.1 dX13_membersOf_284 ?_
  exact s_if_eq dX13_membersOf_286 (by decide) (wX13_membersOf_302 hZ j hj) (wX13_membersOf_289 hZ j hj)
noncomputable def vX13_membersOf_281 (j : Nat → rx_K) : rx_K := o_const 0 ((vX13_membersOf_282 j))
set_option maxRecDepth 20000 in
theorem wX13_membersOf_281 (hZ : zO b e D A X) (j : Nat → rx_K) (hj : ∀ k pc, [2, 34, 124, 174][k]? = some pc → rx_OK (zV b e D A X) mX13_membersOf 5 pc (j k)) : rx_OK (zV b e D A X) mX13_membersOf 5 281 (vX13_membersOf_281 j) := by
  unfold vX13_membersOf_281
  refine s_iconst dX13_membersOf_281 (by decide +kernel) ?_
  exact (wX13_membersOf_282 hZ j hj)
noncomputable def vX13_membersOf_277 (j : Nat → rx_K) : rx_K := o_const 8 ((vX13_membersOf_282 j))
set_option maxRecDepth 20000 in
theorem wX13_membersOf_277 (hZ : zO b e D A X) (j : Nat → rx_K) (hj : ∀ k pc, [2, 34, 124, 174][k]? = some pc → rx_OK (zV b e D A X) mX13_membersOf 5 pc (j k)) : rx_OK (zV b e D A X) mX13_membersOf 5 277 (vX13_membersOf_277 j) := by
  unfold vX13_membersOf_277
  refine s_iconst dX13_membersOf_277 (by decide +kernel) ?_
  exact s_goto dX13_membersOf_278 (by decide) (wX13_membersOf_282 hZ j hj)
noncomputable def vX13_membersOf_266 (j : Nat → rx_K) : rx_K := o_ld rx_isR 0 (o_ld rx_isI 6 (o_ld rx_isI 4 (o_callV 2 13 FX13_sameParams (o_c1 rx_eq (vX13_membersOf_281 j) (vX13_membersOf_277 j)))))
set_option maxRecDepth 20000 in
theorem wX13_membersOf_266 (hZ : zO b e D A X) (j : Nat → rx_K) (hj : ∀ k pc, [2, 34, 124, 174][k]? = some pc → rx_OK (zV b e D A X) mX13_membersOf 5 pc (j k)) : rx_OK (zV b e D A X) mX13_membersOf 5 266 (vX13_membersOf_266 j) := by
  unfold vX13_membersOf_266
  refine s_aload_n hZ.1 dX13_membersOf_266 rfl ?_
  refine s_iload hZ.1 dX13_membersOf_267 ?_
  refine s_iload hZ.1 dX13_membersOf_269 ?_
  refine s_callV hZ.1 (Met_X13_sameParams hZ) (Nat.le_of_ble_eq_true rfl) vy_X13_sameParams zcl13 zw3243 zw238 (Or.inl zw3241) dX13_membersOf_271 ?_
  exact s_if_eq dX13_membersOf_274 (by decide) (wX13_membersOf_281 hZ j hj) (wX13_membersOf_277 hZ j hj)
noncomputable def vX13_membersOf_248 (j : Nat → rx_K) : rx_K := o_ld rx_isR 0 (o_getf 13 51 (o_ld rx_isI 6 (o_ald 1 (o_ld rx_isR 0 (o_getf 13 51 (o_ld rx_isI 4 (o_ald 1 (o_bc (fun x y => lg_cmp x y) (o_c1 rx_eq (vX13_membersOf_266 j) (vX13_membersOf_281 j))))))))))
set_option maxRecDepth 20000 in
theorem wX13_membersOf_248 (hZ : zO b e D A X) (j : Nat → rx_K) (hj : ∀ k pc, [2, 34, 124, 174][k]? = some pc → rx_OK (zV b e D A X) mX13_membersOf 5 pc (j k)) : rx_OK (zV b e D A X) mX13_membersOf 5 248 (vX13_membersOf_248 j) := by
  unfold vX13_membersOf_248
  refine s_aload_n hZ.1 dX13_membersOf_248 rfl ?_
  refine yg13_51 dX13_membersOf_249 zw4172 ?_
  refine s_iload hZ.1 dX13_membersOf_252 ?_
  refine s_lald (tt := 1) rfl dX13_membersOf_254 ?_
  refine s_aload_n hZ.1 dX13_membersOf_255 rfl ?_
  refine yg13_51 dX13_membersOf_256 zw4172 ?_
  refine s_iload hZ.1 dX13_membersOf_259 ?_
  refine s_lald (tt := 1) rfl dX13_membersOf_261 ?_
  refine s_lcmp dX13_membersOf_262 ?_
  exact s_if_ne dX13_membersOf_263 (by decide) (wX13_membersOf_281 hZ j hj) (wX13_membersOf_266 hZ j hj)
noncomputable def vX13_membersOf_237 (j : Nat → rx_K) : rx_K := o_ld rx_isR 0 (o_getf 13 42 (o_ld rx_isI 4 (o_ald 0 (o_const 24 (o_c2 rx_eq (vX13_membersOf_281 j) (vX13_membersOf_248 j))))))
set_option maxRecDepth 20000 in
theorem wX13_membersOf_237 (hZ : zO b e D A X) (j : Nat → rx_K) (hj : ∀ k pc, [2, 34, 124, 174][k]? = some pc → rx_OK (zV b e D A X) mX13_membersOf 5 pc (j k)) : rx_OK (zV b e D A X) mX13_membersOf 5 237 (vX13_membersOf_237 j) := by
  unfold vX13_membersOf_237
  refine s_aload_n hZ.1 dX13_membersOf_237 rfl ?_
  refine yg13_42 dX13_membersOf_238 zw4163 ?_
  refine s_iload hZ.1 dX13_membersOf_241 ?_
  refine s_iald (tt := 0) rfl dX13_membersOf_243 ?_
  refine s_iconst dX13_membersOf_244 (by decide +kernel) ?_
  exact s_icmp_eq dX13_membersOf_245 (by decide) (wX13_membersOf_281 hZ j hj) (wX13_membersOf_248 hZ j hj)
noncomputable def vX13_membersOf_234 (j : Nat → rx_K) : rx_K := (vX13_membersOf_277 j)
set_option maxRecDepth 20000 in
theorem wX13_membersOf_234 (hZ : zO b e D A X) (j : Nat → rx_K) (hj : ∀ k pc, [2, 34, 124, 174][k]? = some pc → rx_OK (zV b e D A X) mX13_membersOf 5 pc (j k)) : rx_OK (zV b e D A X) mX13_membersOf 5 234 (vX13_membersOf_234 j) := by
  unfold vX13_membersOf_234
  exact s_goto dX13_membersOf_234 (by decide) (wX13_membersOf_277 hZ j hj)
noncomputable def vX13_membersOf_216 (j : Nat → rx_K) : rx_K := o_ld rx_isR 0 (o_getf 13 51 (o_ld rx_isI 6 (o_ald 1 (o_ld rx_isR 0 (o_getf 13 51 (o_ld rx_isI 4 (o_ald 1 (o_bc (fun x y => lg_cmp x y) (o_c1 rx_eq (vX13_membersOf_234 j) (vX13_membersOf_281 j))))))))))
set_option maxRecDepth 20000 in
theorem wX13_membersOf_216 (hZ : zO b e D A X) (j : Nat → rx_K) (hj : ∀ k pc, [2, 34, 124, 174][k]? = some pc → rx_OK (zV b e D A X) mX13_membersOf 5 pc (j k)) : rx_OK (zV b e D A X) mX13_membersOf 5 216 (vX13_membersOf_216 j) := by
  unfold vX13_membersOf_216
  refine s_aload_n hZ.1 dX13_membersOf_216 rfl ?_
  refine yg13_51 dX13_membersOf_217 zw4172 ?_
  refine s_iload hZ.1 dX13_membersOf_220 ?_
  refine s_lald (tt := 1) rfl dX13_membersOf_222 ?_
  refine s_aload_n hZ.1 dX13_membersOf_223 rfl ?_
  refine yg13_51 dX13_membersOf_224 zw4172 ?_
  refine s_iload hZ.1 dX13_membersOf_227 ?_
  refine s_lald (tt := 1) rfl dX13_membersOf_229 ?_
  refine s_lcmp dX13_membersOf_230 ?_
  exact s_if_ne dX13_membersOf_231 (by decide) (wX13_membersOf_281 hZ j hj) (wX13_membersOf_234 hZ j hj)
noncomputable def vX13_membersOf_206 (j : Nat → rx_K) : rx_K := o_ld rx_isR 0 (o_getf 13 42 (o_ld rx_isI 4 (o_ald 0 (o_c1 rx_eq (vX13_membersOf_216 j) (vX13_membersOf_237 j)))))
set_option maxRecDepth 20000 in
theorem wX13_membersOf_206 (hZ : zO b e D A X) (j : Nat → rx_K) (hj : ∀ k pc, [2, 34, 124, 174][k]? = some pc → rx_OK (zV b e D A X) mX13_membersOf 5 pc (j k)) : rx_OK (zV b e D A X) mX13_membersOf 5 206 (vX13_membersOf_206 j) := by
  unfold vX13_membersOf_206
  refine s_aload_n hZ.1 dX13_membersOf_206 rfl ?_
  refine yg13_42 dX13_membersOf_207 zw4163 ?_
  refine s_iload hZ.1 dX13_membersOf_210 ?_
  refine s_iald (tt := 0) rfl dX13_membersOf_212 ?_
  exact s_if_ne dX13_membersOf_213 (by decide) (wX13_membersOf_237 hZ j hj) (wX13_membersOf_216 hZ j hj)
noncomputable def vX13_membersOf_180 (j : Nat → rx_K) : rx_K := o_ld rx_isI 2 (o_const 272 (o_bi (fun x y => x * y) (o_ld rx_isI 5 (o_bi (fun x y => x + y) (o_st rx_isI 6 (o_ld rx_isR 0 (o_getf 13 42 (o_ld rx_isI 6 (o_ald 0 (o_ld rx_isR 0 (o_getf 13 42 (o_ld rx_isI 4 (o_ald 0 (o_c2 rx_eq (vX13_membersOf_206 j) (vX13_membersOf_281 j)))))))))))))))
set_option maxRecDepth 20000 in
theorem wX13_membersOf_180 (hZ : zO b e D A X) (j : Nat → rx_K) (hj : ∀ k pc, [2, 34, 124, 174][k]? = some pc → rx_OK (zV b e D A X) mX13_membersOf 5 pc (j k)) : rx_OK (zV b e D A X) mX13_membersOf 5 180 (vX13_membersOf_180 j) := by
  unfold vX13_membersOf_180
  refine s_iload_n hZ.1 dX13_membersOf_180 rfl ?_
  refine s_bipush dX13_membersOf_181 (by decide +kernel) ?_
  refine s_imul dX13_membersOf_183 ?_
  refine s_iload hZ.1 dX13_membersOf_184 ?_
  refine s_iadd dX13_membersOf_186 ?_
  refine s_istore hZ.1 dX13_membersOf_187 (Nat.le_of_ble_eq_true rfl) ?_
  refine s_aload_n hZ.1 dX13_membersOf_189 rfl ?_
  refine yg13_42 dX13_membersOf_190 zw4163 ?_
  refine s_iload hZ.1 dX13_membersOf_193 ?_
  refine s_iald (tt := 0) rfl dX13_membersOf_195 ?_
  refine s_aload_n hZ.1 dX13_membersOf_196 rfl ?_
  refine yg13_42 dX13_membersOf_197 zw4163 ?_
  refine s_iload hZ.1 dX13_membersOf_200 ?_
  refine s_iald (tt := 0) rfl dX13_membersOf_202 ?_
  exact s_icmp_ne dX13_membersOf_203 (by decide) (wX13_membersOf_281 hZ j hj) (wX13_membersOf_206 hZ j hj)
noncomputable def vX13_membersOf_174 (j : Nat → rx_K) : rx_K := o_ld rx_isI 5 (o_ld rx_isI 3 (o_c2 rx_lt (vX13_membersOf_180 j) (vX13_membersOf_308 j)))
set_option maxRecDepth 20000 in
theorem wX13_membersOf_174 (hZ : zO b e D A X) (j : Nat → rx_K) (hj : ∀ k pc, [2, 34, 124, 174][k]? = some pc → rx_OK (zV b e D A X) mX13_membersOf 5 pc (j k)) : rx_OK (zV b e D A X) mX13_membersOf 5 174 (vX13_membersOf_174 j) := by
  unfold vX13_membersOf_174
  refine s_iload hZ.1 dX13_membersOf_174 ?_
  refine s_iload_n hZ.1 dX13_membersOf_176 rfl ?_
  exact s_icmp_ge dX13_membersOf_177 (by decide) (wX13_membersOf_308 hZ j hj) (wX13_membersOf_180 hZ j hj)
noncomputable def vX13_membersOf_171 (j : Nat → rx_K) : rx_K := o_const 0 (o_st rx_isI 5 ((vX13_membersOf_174 j)))
set_option maxRecDepth 20000 in
theorem wX13_membersOf_171 (hZ : zO b e D A X) (j : Nat → rx_K) (hj : ∀ k pc, [2, 34, 124, 174][k]? = some pc → rx_OK (zV b e D A X) mX13_membersOf 5 pc (j k)) : rx_OK (zV b e D A X) mX13_membersOf 5 171 (vX13_membersOf_171 j) := by
  unfold vX13_membersOf_171
  refine s_iconst dX13_membersOf_171 (by decide +kernel) ?_
  refine s_istore hZ.1 dX13_membersOf_172 (Nat.le_of_ble_eq_true rfl) ?_
  exact (wX13_membersOf_174 hZ j hj)
noncomputable def vX13_membersOf_136 (j : Nat → rx_K) : rx_K := o_ld rx_isR 0 (o_ld rx_isR 0 (o_getf 13 56 (o_const 32 (o_ld rx_isI 4 (o_bi (fun x y => x * y) (o_ld rx_isI 5 (o_bi (fun x y => x + y) (o_ald 1 (o_ld rx_isR 0 (o_getf 13 57 (o_const 32 (o_ld rx_isI 4 (o_bi (fun x y => x * y) (o_ld rx_isI 5 (o_bi (fun x y => x + y) (o_ald 0 (o_ld rx_isI 2 (o_callV 3 13 FX13_type (o_inc 5 (1) ((j 2)))))))))))))))))))))
set_option maxRecDepth 20000 in
theorem wX13_membersOf_136 (hZ : zO b e D A X) (j : Nat → rx_K) (hj : ∀ k pc, [2, 34, 124, 174][k]? = some pc → rx_OK (zV b e D A X) mX13_membersOf 5 pc (j k)) : rx_OK (zV b e D A X) mX13_membersOf 5 136 (vX13_membersOf_136 j) := by
  unfold vX13_membersOf_136
  refine s_aload_n hZ.1 dX13_membersOf_136 rfl ?_
  refine s_aload_n hZ.1 dX13_membersOf_137 rfl ?_
  refine yg13_56 dX13_membersOf_138 zw4177 ?_
  refine s_iconst dX13_membersOf_141 (by decide +kernel) ?_
  refine s_iload hZ.1 dX13_membersOf_142 ?_
  refine s_imul dX13_membersOf_144 ?_
  refine s_iload hZ.1 dX13_membersOf_145 ?_
  refine s_iadd dX13_membersOf_147 ?_
  refine s_lald (tt := 1) rfl dX13_membersOf_148 ?_
  refine s_aload_n hZ.1 dX13_membersOf_149 rfl ?_
  refine yg13_57 dX13_membersOf_150 zw4178 ?_
  refine s_iconst dX13_membersOf_153 (by decide +kernel) ?_
  refine s_iload hZ.1 dX13_membersOf_154 ?_
  refine s_imul dX13_membersOf_156 ?_
  refine s_iload hZ.1 dX13_membersOf_157 ?_
  refine s_iadd dX13_membersOf_159 ?_
  refine s_iald (tt := 0) rfl dX13_membersOf_160 ?_
  refine s_iload_n hZ.1 dX13_membersOf_161 rfl ?_
  refine s_callV hZ.1 (Met_X13_type hZ) (Nat.le_of_ble_eq_true rfl) vy_X13_type zcl13 zw3236 zw237 (Or.inl zw3234) dX13_membersOf_162 ?_
  refine s_iinc hZ.1 dX13_membersOf_165 (Nat.le_of_ble_eq_true rfl) ?_
  exact s_goto dX13_membersOf_168 (by decide) (hj 2 124 rfl)
noncomputable def vX13_membersOf_124 (j : Nat → rx_K) : rx_K := o_ld rx_isI 5 (o_ld rx_isR 0 (o_getf 13 55 (o_ld rx_isI 4 (o_ald 0 (o_c2 rx_lt (vX13_membersOf_136 j) (vX13_membersOf_171 j))))))
set_option maxRecDepth 20000 in
theorem wX13_membersOf_124 (hZ : zO b e D A X) (j : Nat → rx_K) (hj : ∀ k pc, [2, 34, 124, 174][k]? = some pc → rx_OK (zV b e D A X) mX13_membersOf 5 pc (j k)) : rx_OK (zV b e D A X) mX13_membersOf 5 124 (vX13_membersOf_124 j) := by
  unfold vX13_membersOf_124
  refine s_iload hZ.1 dX13_membersOf_124 ?_
  refine s_aload_n hZ.1 dX13_membersOf_126 rfl ?_
  refine yg13_55 dX13_membersOf_127 zw4176 ?_
  refine s_iload hZ.1 dX13_membersOf_130 ?_
  refine s_iald (tt := 0) rfl dX13_membersOf_132 ?_
  exact s_icmp_ge dX13_membersOf_133 (by decide) (wX13_membersOf_171 hZ j hj) (wX13_membersOf_136 hZ j hj)
noncomputable def vX13_membersOf_102 (j : Nat → rx_K) : rx_K := o_ld rx_isR 0 (o_ld rx_isR 0 (o_getf 13 53 (o_ld rx_isI 4 (o_ald 1 (o_ld rx_isR 0 (o_getf 13 54 (o_ld rx_isI 4 (o_ald 0 (o_ld rx_isI 2 (o_callV 3 13 FX13_type (o_const 0 (o_st rx_isI 5 ((vX13_membersOf_124 j))))))))))))))
set_option maxRecDepth 20000 in
theorem wX13_membersOf_102 (hZ : zO b e D A X) (j : Nat → rx_K) (hj : ∀ k pc, [2, 34, 124, 174][k]? = some pc → rx_OK (zV b e D A X) mX13_membersOf 5 pc (j k)) : rx_OK (zV b e D A X) mX13_membersOf 5 102 (vX13_membersOf_102 j) := by
  unfold vX13_membersOf_102
  refine s_aload_n hZ.1 dX13_membersOf_102 rfl ?_
  refine s_aload_n hZ.1 dX13_membersOf_103 rfl ?_
  refine yg13_53 dX13_membersOf_104 zw4174 ?_
  refine s_iload hZ.1 dX13_membersOf_107 ?_
  refine s_lald (tt := 1) rfl dX13_membersOf_109 ?_
  refine s_aload_n hZ.1 dX13_membersOf_110 rfl ?_
  refine yg13_54 dX13_membersOf_111 zw4175 ?_
  refine s_iload hZ.1 dX13_membersOf_114 ?_
  refine s_iald (tt := 0) rfl dX13_membersOf_116 ?_
  refine s_iload_n hZ.1 dX13_membersOf_117 rfl ?_
  refine s_callV hZ.1 (Met_X13_type hZ) (Nat.le_of_ble_eq_true rfl) vy_X13_type zcl13 zw3236 zw237 (Or.inl zw3234) dX13_membersOf_118 ?_
  refine s_iconst dX13_membersOf_121 (by decide +kernel) ?_
  refine s_istore hZ.1 dX13_membersOf_122 (Nat.le_of_ble_eq_true rfl) ?_
  exact (wX13_membersOf_124 hZ j hj)
noncomputable def vX13_membersOf_89 (j : Nat → rx_K) : rx_K := o_ld rx_isR 0 (o_const 64 (o_ld rx_isR 0 (o_getf 13 52 (o_ld rx_isI 4 (o_ald 0 (o_callV 2 13 FX13_fault ((vX13_membersOf_102 j))))))))
set_option maxRecDepth 20000 in
theorem wX13_membersOf_89 (hZ : zO b e D A X) (j : Nat → rx_K) (hj : ∀ k pc, [2, 34, 124, 174][k]? = some pc → rx_OK (zV b e D A X) mX13_membersOf 5 pc (j k)) : rx_OK (zV b e D A X) mX13_membersOf 5 89 (vX13_membersOf_89 j) := by
  unfold vX13_membersOf_89
  refine s_aload_n hZ.1 dX13_membersOf_89 rfl ?_
  refine s_bipush dX13_membersOf_90 (by decide +kernel) ?_
  refine s_aload_n hZ.1 dX13_membersOf_92 rfl ?_
  refine yg13_52 dX13_membersOf_93 zw4173 ?_
  refine s_iload hZ.1 dX13_membersOf_96 ?_
  refine s_iald (tt := 0) rfl dX13_membersOf_98 ?_
  refine s_callV hZ.1 (Met_X13_fault hZ) (Nat.le_of_ble_eq_true rfl) vy_X13_fault zcl13 zw3004 zw190 (Or.inl zw3002) dX13_membersOf_99 ?_
  exact (wX13_membersOf_102 hZ j hj)
noncomputable def vX13_membersOf_79 (j : Nat → rx_K) : rx_K := o_ld rx_isR 0 (o_ld rx_isI 2 (o_ld rx_isI 4 (o_callV 2 13 FX13_isWrongInClass (o_c1 rx_eq (vX13_membersOf_102 j) (vX13_membersOf_89 j)))))
set_option maxRecDepth 20000 in
theorem wX13_membersOf_79 (hZ : zO b e D A X) (j : Nat → rx_K) (hj : ∀ k pc, [2, 34, 124, 174][k]? = some pc → rx_OK (zV b e D A X) mX13_membersOf 5 pc (j k)) : rx_OK (zV b e D A X) mX13_membersOf 5 79 (vX13_membersOf_79 j) := by
  unfold vX13_membersOf_79
  refine s_aload_n hZ.1 dX13_membersOf_79 rfl ?_
  refine s_iload_n hZ.1 dX13_membersOf_80 rfl ?_
  refine s_iload hZ.1 dX13_membersOf_81 ?_
  refine s_callV hZ.1 (Met_X13_isWrongInClass hZ) (Nat.le_of_ble_eq_true rfl) vy_X13_isWrongInClass zcl13 zw3232 zw236 (Or.inl zw3230) dX13_membersOf_83 ?_
  exact s_if_eq dX13_membersOf_86 (by decide) (wX13_membersOf_102 hZ j hj) (wX13_membersOf_89 hZ j hj)
noncomputable def vX13_membersOf_76 (j : Nat → rx_K) : rx_K := (vX13_membersOf_89 j)
set_option maxRecDepth 20000 in
theorem wX13_membersOf_76 (hZ : zO b e D A X) (j : Nat → rx_K) (hj : ∀ k pc, [2, 34, 124, 174][k]? = some pc → rx_OK (zV b e D A X) mX13_membersOf 5 pc (j k)) : rx_OK (zV b e D A X) mX13_membersOf 5 76 (vX13_membersOf_76 j) := by
  unfold vX13_membersOf_76
  exact s_goto dX13_membersOf_76 (by decide) (wX13_membersOf_89 hZ j hj)
noncomputable def vX13_membersOf_67 (j : Nat → rx_K) : rx_K := o_ld rx_isR 0 (o_ld rx_isI 4 (o_callV 1 13 FX13_isWrongInFace (o_c1 rx_eq (vX13_membersOf_102 j) (vX13_membersOf_76 j))))
set_option maxRecDepth 20000 in
theorem wX13_membersOf_67 (hZ : zO b e D A X) (j : Nat → rx_K) (hj : ∀ k pc, [2, 34, 124, 174][k]? = some pc → rx_OK (zV b e D A X) mX13_membersOf 5 pc (j k)) : rx_OK (zV b e D A X) mX13_membersOf 5 67 (vX13_membersOf_67 j) := by
  unfold vX13_membersOf_67
  refine s_aload_n hZ.1 dX13_membersOf_67 rfl ?_
  refine s_iload hZ.1 dX13_membersOf_68 ?_
  refine s_callV hZ.1 (Met_X13_isWrongInFace hZ) (Nat.le_of_ble_eq_true rfl) vy_X13_isWrongInFace zcl13 zw3228 zw235 (Or.inl zw3226) dX13_membersOf_70 ?_
  exact s_if_eq dX13_membersOf_73 (by decide) (wX13_membersOf_102 hZ j hj) (wX13_membersOf_76 hZ j hj)
noncomputable def vX13_membersOf_51 (j : Nat → rx_K) : rx_K := o_ld rx_isI 2 (o_const 272 (o_bi (fun x y => x * y) (o_ld rx_isI 3 (o_bi (fun x y => x + y) (o_st rx_isI 4 (o_ld rx_isR 0 (o_ld rx_isI 2 (o_callV 1 13 FX13_isFace (o_c1 rx_eq (vX13_membersOf_79 j) (vX13_membersOf_67 j))))))))))
set_option maxRecDepth 20000 in
theorem wX13_membersOf_51 (hZ : zO b e D A X) (j : Nat → rx_K) (hj : ∀ k pc, [2, 34, 124, 174][k]? = some pc → rx_OK (zV b e D A X) mX13_membersOf 5 pc (j k)) : rx_OK (zV b e D A X) mX13_membersOf 5 51 (vX13_membersOf_51 j) := by
  unfold vX13_membersOf_51
  refine s_iload_n hZ.1 dX13_membersOf_51 rfl ?_
  refine s_bipush dX13_membersOf_52 (by decide +kernel) ?_
  refine s_imul dX13_membersOf_54 ?_
  refine s_iload_n hZ.1 dX13_membersOf_55 rfl ?_
  refine s_iadd dX13_membersOf_56 ?_
  refine s_istore hZ.1 dX13_membersOf_57 (Nat.le_of_ble_eq_true rfl) ?_
  refine s_aload_n hZ.1 dX13_membersOf_59 rfl ?_
  refine s_iload_n hZ.1 dX13_membersOf_60 rfl ?_
  refine s_callV hZ.1 (Met_X13_isFace hZ) (Nat.le_of_ble_eq_true rfl) vy_X13_isFace zcl13 zw3192 zw227 (Or.inl zw3190) dX13_membersOf_61 ?_
  exact s_if_eq dX13_membersOf_64 (by decide) (wX13_membersOf_79 hZ j hj) (wX13_membersOf_67 hZ j hj)
noncomputable def vX13_membersOf_44 (j : Nat → rx_K) : rx_K := o_ld rx_isR 0 (o_getf 13 20 (o_c1 rx_eq (vX13_membersOf_51 j) (vX13_membersOf_314 j)))
set_option maxRecDepth 20000 in
theorem wX13_membersOf_44 (hZ : zO b e D A X) (j : Nat → rx_K) (hj : ∀ k pc, [2, 34, 124, 174][k]? = some pc → rx_OK (zV b e D A X) mX13_membersOf 5 pc (j k)) : rx_OK (zV b e D A X) mX13_membersOf 5 44 (vX13_membersOf_44 j) := by
  unfold vX13_membersOf_44
  refine s_aload_n hZ.1 dX13_membersOf_44 rfl ?_
  refine yg13_20 dX13_membersOf_45 zw4141 ?_
  exact s_if_ne dX13_membersOf_48 (by decide) (wX13_membersOf_314 hZ j hj) (wX13_membersOf_51 hZ j hj)
noncomputable def vX13_membersOf_34 (j : Nat → rx_K) : rx_K := o_ld rx_isI 3 (o_ld rx_isR 0 (o_getf 13 41 (o_ld rx_isI 2 (o_ald 0 (o_c2 rx_lt (vX13_membersOf_44 j) (vX13_membersOf_314 j))))))
set_option maxRecDepth 20000 in
theorem wX13_membersOf_34 (hZ : zO b e D A X) (j : Nat → rx_K) (hj : ∀ k pc, [2, 34, 124, 174][k]? = some pc → rx_OK (zV b e D A X) mX13_membersOf 5 pc (j k)) : rx_OK (zV b e D A X) mX13_membersOf 5 34 (vX13_membersOf_34 j) := by
  unfold vX13_membersOf_34
  refine s_iload_n hZ.1 dX13_membersOf_34 rfl ?_
  refine s_aload_n hZ.1 dX13_membersOf_35 rfl ?_
  refine yg13_41 dX13_membersOf_36 zw4162 ?_
  refine s_iload_n hZ.1 dX13_membersOf_39 rfl ?_
  refine s_iald (tt := 0) rfl dX13_membersOf_40 ?_
  exact s_icmp_ge dX13_membersOf_41 (by decide) (wX13_membersOf_314 hZ j hj) (wX13_membersOf_44 hZ j hj)
noncomputable def vX13_membersOf_22 (j : Nat → rx_K) : rx_K := o_ld rx_isR 0 (o_getf 13 19 (o_const 96 (o_bi (fun x y => x * y) (o_ld rx_isI 1 (o_bi (fun x y => x + y) (o_st rx_isI 2 (o_const 0 (o_st rx_isI 3 ((vX13_membersOf_34 j))))))))))
set_option maxRecDepth 20000 in
theorem wX13_membersOf_22 (hZ : zO b e D A X) (j : Nat → rx_K) (hj : ∀ k pc, [2, 34, 124, 174][k]? = some pc → rx_OK (zV b e D A X) mX13_membersOf 5 pc (j k)) : rx_OK (zV b e D A X) mX13_membersOf 5 22 (vX13_membersOf_22 j) := by
  unfold vX13_membersOf_22
  refine s_aload_n hZ.1 dX13_membersOf_22 rfl ?_
  refine yg13_19 dX13_membersOf_23 zw4140 ?_
  refine s_bipush dX13_membersOf_26 (by decide +kernel) ?_
  refine s_imul dX13_membersOf_28 ?_
  refine s_iload_n hZ.1 dX13_membersOf_29 rfl ?_
  refine s_iadd dX13_membersOf_30 ?_
  refine s_istore_n hZ.1 dX13_membersOf_31 rfl (Nat.le_of_ble_eq_true rfl) ?_
  refine s_iconst dX13_membersOf_32 (by decide +kernel) ?_
  refine s_istore_n hZ.1 dX13_membersOf_33 rfl (Nat.le_of_ble_eq_true rfl) ?_
  exact (wX13_membersOf_34 hZ j hj)
noncomputable def vX13_membersOf_15 (j : Nat → rx_K) : rx_K := o_ld rx_isR 0 (o_getf 13 20 (o_c1 rx_eq (vX13_membersOf_22 j) (vX13_membersOf_320 j)))
set_option maxRecDepth 20000 in
theorem wX13_membersOf_15 (hZ : zO b e D A X) (j : Nat → rx_K) (hj : ∀ k pc, [2, 34, 124, 174][k]? = some pc → rx_OK (zV b e D A X) mX13_membersOf 5 pc (j k)) : rx_OK (zV b e D A X) mX13_membersOf 5 15 (vX13_membersOf_15 j) := by
  unfold vX13_membersOf_15
  refine s_aload_n hZ.1 dX13_membersOf_15 rfl ?_
  refine yg13_20 dX13_membersOf_16 zw4141 ?_
  exact s_if_ne dX13_membersOf_19 (by decide) (wX13_membersOf_320 hZ j hj) (wX13_membersOf_22 hZ j hj)
noncomputable def vX13_membersOf_2 (j : Nat → rx_K) : rx_K := o_ld rx_isI 1 (o_ld rx_isR 0 (o_getf 13 23 (o_ld rx_isR 0 (o_getf 13 19 (o_ald 0 (o_c2 rx_lt (vX13_membersOf_15 j) (vX13_membersOf_320 j)))))))
set_option maxRecDepth 20000 in
theorem wX13_membersOf_2 (hZ : zO b e D A X) (j : Nat → rx_K) (hj : ∀ k pc, [2, 34, 124, 174][k]? = some pc → rx_OK (zV b e D A X) mX13_membersOf 5 pc (j k)) : rx_OK (zV b e D A X) mX13_membersOf 5 2 (vX13_membersOf_2 j) := by
  unfold vX13_membersOf_2
  refine s_iload_n hZ.1 dX13_membersOf_2 rfl ?_
  refine s_aload_n hZ.1 dX13_membersOf_3 rfl ?_
  refine yg13_23 dX13_membersOf_4 zw4144 ?_
  refine s_aload_n hZ.1 dX13_membersOf_7 rfl ?_
  refine yg13_19 dX13_membersOf_8 zw4140 ?_
  refine s_iald (tt := 0) rfl dX13_membersOf_11 ?_
  exact s_icmp_ge dX13_membersOf_12 (by decide) (wX13_membersOf_320 hZ j hj) (wX13_membersOf_15 hZ j hj)
noncomputable def vX13_membersOf_0 (j : Nat → rx_K) : rx_K := o_const 0 (o_st rx_isI 1 ((vX13_membersOf_2 j)))
set_option maxRecDepth 20000 in
theorem wX13_membersOf_0 (hZ : zO b e D A X) (j : Nat → rx_K) (hj : ∀ k pc, [2, 34, 124, 174][k]? = some pc → rx_OK (zV b e D A X) mX13_membersOf 5 pc (j k)) : rx_OK (zV b e D A X) mX13_membersOf 5 0 (vX13_membersOf_0 j) := by
  unfold vX13_membersOf_0
  refine s_iconst dX13_membersOf_0 (by decide +kernel) ?_
  refine s_istore_n hZ.1 dX13_membersOf_1 rfl (Nat.le_of_ble_eq_true rfl) ?_
  exact (wX13_membersOf_2 hZ j hj)
noncomputable def vhX13_membersOf (j : Nat → rx_K) : List rx_K := [vX13_membersOf_2 j, vX13_membersOf_34 j, vX13_membersOf_124 j, vX13_membersOf_174 j]
theorem vlX13_membersOf (hZ : zO b e D A X) : ∀ n k pc, [2, 34, 124, 174][k]? = some pc → rx_OK (zV b e D A X) mX13_membersOf 5 pc (rx_J (vhX13_membersOf) n k) := rx_loop fun j hj k pc h => by
  match k, h with
  | 0, h =>
    have e9 := Option.some.inj (show some 2 = some pc from h)
    subst e9
    exact wX13_membersOf_2 hZ j hj
  | 1, h =>
    have e9 := Option.some.inj (show some 34 = some pc from h)
    subst e9
    exact wX13_membersOf_34 hZ j hj
  | 2, h =>
    have e9 := Option.some.inj (show some 124 = some pc from h)
    subst e9
    exact wX13_membersOf_124 hZ j hj
  | 3, h =>
    have e9 := Option.some.inj (show some 174 = some pc from h)
    subst e9
    exact wX13_membersOf_174 hZ j hj
  | _ + 4, h => exact absurd h (by simp)
noncomputable def FX13_membersOf : List Nat → rx_H → Option (Nat × rx_H) := rx_ent 8 (vX13_membersOf_0 (rx_J (vhX13_membersOf) 4000000000))
theorem Met_X13_membersOf (hZ : zO b e D A X) : rx_Met (zV b e D A X) 5 yX13_membersOf mX13_membersOf (FX13_membersOf) := rx_entry hZ.1 (wX13_membersOf_0 hZ _ (vlX13_membersOf hZ 4000000000)) (by decide +kernel) rfl (fun h => by cases h)
abbrev mX13_aboveIn : rx_M := (RX13, cX13_aboveIn, 7, none, false)
theorem vy_X13_aboveIn : rx_Y (zV b e D A X) yX13_aboveIn mX13_aboveIn 3 := ⟨zw3267, zw431, by decide, by decide +kernel, by decide +kernel, by decide +kernel⟩
noncomputable def vX13_aboveIn_159 (j : Nat → rx_K) : rx_K := o_ret0
set_option maxRecDepth 20000 in
theorem wX13_aboveIn_159 (hZ : zO b e D A X) (j : Nat → rx_K) (hj : ∀ k pc, [3][k]? = some pc → rx_OK (zV b e D A X) mX13_aboveIn 3 pc (j k)) : rx_OK (zV b e D A X) mX13_aboveIn 3 159 (vX13_aboveIn_159 j) := by
  unfold vX13_aboveIn_159
  exact s_vret rfl dX13_aboveIn_159
noncomputable def vX13_aboveIn_153 (j : Nat → rx_K) : rx_K := o_inc 4 (1) ((j 0))
set_option maxRecDepth 20000 in
theorem wX13_aboveIn_153 (hZ : zO b e D A X) (j : Nat → rx_K) (hj : ∀ k pc, [3][k]? = some pc → rx_OK (zV b e D A X) mX13_aboveIn 3 pc (j k)) : rx_OK (zV b e D A X) mX13_aboveIn 3 153 (vX13_aboveIn_153 j) := by
  unfold vX13_aboveIn_153
  refine s_iinc hZ.1 dX13_aboveIn_153 (Nat.le_of_ble_eq_true rfl) ?_
  exact s_goto dX13_aboveIn_156 (by decide) (hj 0 3 rfl)
noncomputable def vX13_aboveIn_132 (j : Nat → rx_K) : rx_K := o_ld rx_isR 0 (o_getf 13 103 (o_ld rx_isR 0 (o_getf 13 104 (o_ld rx_isI 5 (o_ast 0 (fun v => v) rx_isI (o_ld rx_isR 0 (o_dup (o_getf 13 104 (o_const 8 (o_bi (fun x y => x + y) (o_putf rx_isI 13 104 ((vX13_aboveIn_153 j)))))))))))))
set_option maxRecDepth 20000 in
theorem wX13_aboveIn_132 (hZ : zO b e D A X) (j : Nat → rx_K) (hj : ∀ k pc, [3][k]? = some pc → rx_OK (zV b e D A X) mX13_aboveIn 3 pc (j k)) : rx_OK (zV b e D A X) mX13_aboveIn 3 132 (vX13_aboveIn_132 j) := by
  unfold vX13_aboveIn_132
  refine s_aload_n hZ.1 dX13_aboveIn_132 rfl ?_
  refine yg13_103 dX13_aboveIn_133 zw4223 ?_
  refine s_aload_n hZ.1 dX13_aboveIn_136 rfl ?_
  refine yg13_104 dX13_aboveIn_137 zw4224 ?_
  refine s_iload hZ.1 dX13_aboveIn_140 ?_
  refine s_iast hZ.1 (tt := 0) rfl dX13_aboveIn_142 ?_
  refine s_aload_n hZ.1 dX13_aboveIn_143 rfl ?_
  refine s_dup hZ.1 dX13_aboveIn_144 ?_
  refine yg13_104 dX13_aboveIn_145 zw4224 ?_
  refine s_iconst dX13_aboveIn_148 (by decide +kernel) ?_
  refine s_iadd dX13_aboveIn_149 ?_
  refine yp13_104 hZ.1 dX13_aboveIn_150 zw4224 ?_
  exact (wX13_aboveIn_153 hZ j hj)
noncomputable def vX13_aboveIn_124 (j : Nat → rx_K) : rx_K := o_ld rx_isR 0 (o_ld rx_isI 1 (o_callV 1 13 FX13_isFace (o_c1 rx_eq (vX13_aboveIn_132 j) (vX13_aboveIn_153 j))))
set_option maxRecDepth 20000 in
theorem wX13_aboveIn_124 (hZ : zO b e D A X) (j : Nat → rx_K) (hj : ∀ k pc, [3][k]? = some pc → rx_OK (zV b e D A X) mX13_aboveIn 3 pc (j k)) : rx_OK (zV b e D A X) mX13_aboveIn 3 124 (vX13_aboveIn_124 j) := by
  unfold vX13_aboveIn_124
  refine s_aload_n hZ.1 dX13_aboveIn_124 rfl ?_
  refine s_iload_n hZ.1 dX13_aboveIn_125 rfl ?_
  refine s_callV hZ.1 (Met_X13_isFace hZ) (Nat.le_of_ble_eq_true rfl) vy_X13_isFace zcl13 zw3192 zw227 (Or.inl zw3190) dX13_aboveIn_126 ?_
  exact s_if_ne dX13_aboveIn_129 (by decide) (wX13_aboveIn_153 hZ j hj) (wX13_aboveIn_132 hZ j hj)
noncomputable def vX13_aboveIn_114 (j : Nat → rx_K) : rx_K := o_ld rx_isR 0 (o_getf 13 45 (o_ld rx_isI 5 (o_ald 3 (o_c1 rx_eq (vX13_aboveIn_132 j) (vX13_aboveIn_124 j)))))
set_option maxRecDepth 20000 in
theorem wX13_aboveIn_114 (hZ : zO b e D A X) (j : Nat → rx_K) (hj : ∀ k pc, [3][k]? = some pc → rx_OK (zV b e D A X) mX13_aboveIn 3 pc (j k)) : rx_OK (zV b e D A X) mX13_aboveIn 3 114 (vX13_aboveIn_114 j) := by
  unfold vX13_aboveIn_114
  refine s_aload_n hZ.1 dX13_aboveIn_114 rfl ?_
  refine yg13_45 dX13_aboveIn_115 zw4166 ?_
  refine s_iload hZ.1 dX13_aboveIn_118 ?_
  refine s_zald (tt := 3) rfl dX13_aboveIn_120 ?_
  exact s_if_eq dX13_aboveIn_121 (by decide) (wX13_aboveIn_132 hZ j hj) (wX13_aboveIn_124 hZ j hj)
noncomputable def vX13_aboveIn_104 (j : Nat → rx_K) : rx_K := o_ld rx_isR 0 (o_ld rx_isI 5 (o_ld rx_isI 2 (o_callV 2 13 FX13_sameParams (o_c1 rx_eq (vX13_aboveIn_153 j) (vX13_aboveIn_114 j)))))
set_option maxRecDepth 20000 in
theorem wX13_aboveIn_104 (hZ : zO b e D A X) (j : Nat → rx_K) (hj : ∀ k pc, [3][k]? = some pc → rx_OK (zV b e D A X) mX13_aboveIn 3 pc (j k)) : rx_OK (zV b e D A X) mX13_aboveIn 3 104 (vX13_aboveIn_104 j) := by
  unfold vX13_aboveIn_104
  refine s_aload_n hZ.1 dX13_aboveIn_104 rfl ?_
  refine s_iload hZ.1 dX13_aboveIn_105 ?_
  refine s_iload_n hZ.1 dX13_aboveIn_107 rfl ?_
  refine s_callV hZ.1 (Met_X13_sameParams hZ) (Nat.le_of_ble_eq_true rfl) vy_X13_sameParams zcl13 zw3243 zw238 (Or.inl zw3241) dX13_aboveIn_108 ?_
  exact s_if_eq dX13_aboveIn_111 (by decide) (wX13_aboveIn_153 hZ j hj) (wX13_aboveIn_114 hZ j hj)
noncomputable def vX13_aboveIn_87 (j : Nat → rx_K) : rx_K := o_ld rx_isR 0 (o_getf 13 51 (o_ld rx_isI 5 (o_ald 1 (o_ld rx_isR 0 (o_getf 13 51 (o_ld rx_isI 2 (o_ald 1 (o_bc (fun x y => lg_cmp x y) (o_c1 rx_eq (vX13_aboveIn_104 j) (vX13_aboveIn_153 j))))))))))
set_option maxRecDepth 20000 in
theorem wX13_aboveIn_87 (hZ : zO b e D A X) (j : Nat → rx_K) (hj : ∀ k pc, [3][k]? = some pc → rx_OK (zV b e D A X) mX13_aboveIn 3 pc (j k)) : rx_OK (zV b e D A X) mX13_aboveIn 3 87 (vX13_aboveIn_87 j) := by
  unfold vX13_aboveIn_87
  refine s_aload_n hZ.1 dX13_aboveIn_87 rfl ?_
  refine yg13_51 dX13_aboveIn_88 zw4172 ?_
  refine s_iload hZ.1 dX13_aboveIn_91 ?_
  refine s_lald (tt := 1) rfl dX13_aboveIn_93 ?_
  refine s_aload_n hZ.1 dX13_aboveIn_94 rfl ?_
  refine yg13_51 dX13_aboveIn_95 zw4172 ?_
  refine s_iload_n hZ.1 dX13_aboveIn_98 rfl ?_
  refine s_lald (tt := 1) rfl dX13_aboveIn_99 ?_
  refine s_lcmp dX13_aboveIn_100 ?_
  exact s_if_ne dX13_aboveIn_101 (by decide) (wX13_aboveIn_153 hZ j hj) (wX13_aboveIn_104 hZ j hj)
noncomputable def vX13_aboveIn_82 (j : Nat → rx_K) : rx_K := o_ld rx_isI 6 (o_c1 rx_eq (vX13_aboveIn_153 j) (vX13_aboveIn_87 j))
set_option maxRecDepth 20000 in
theorem wX13_aboveIn_82 (hZ : zO b e D A X) (j : Nat → rx_K) (hj : ∀ k pc, [3][k]? = some pc → rx_OK (zV b e D A X) mX13_aboveIn 3 pc (j k)) : rx_OK (zV b e D A X) mX13_aboveIn 3 82 (vX13_aboveIn_82 j) := by
  unfold vX13_aboveIn_82
  refine s_iload hZ.1 dX13_aboveIn_82 ?_
  exact s_if_eq dX13_aboveIn_84 (by decide) (wX13_aboveIn_153 hZ j hj) (wX13_aboveIn_87 hZ j hj)
noncomputable def vX13_aboveIn_72 (j : Nat → rx_K) : rx_K := o_ld rx_isR 0 (o_getf 13 49 (o_ld rx_isI 5 (o_ald 3 (o_c1 rx_eq (vX13_aboveIn_82 j) (vX13_aboveIn_153 j)))))
set_option maxRecDepth 20000 in
theorem wX13_aboveIn_72 (hZ : zO b e D A X) (j : Nat → rx_K) (hj : ∀ k pc, [3][k]? = some pc → rx_OK (zV b e D A X) mX13_aboveIn 3 pc (j k)) : rx_OK (zV b e D A X) mX13_aboveIn 3 72 (vX13_aboveIn_72 j) := by
  unfold vX13_aboveIn_72
  refine s_aload_n hZ.1 dX13_aboveIn_72 rfl ?_
  refine yg13_49 dX13_aboveIn_73 zw4170 ?_
  refine s_iload hZ.1 dX13_aboveIn_76 ?_
  refine s_zald (tt := 3) rfl dX13_aboveIn_78 ?_
  exact s_if_ne dX13_aboveIn_79 (by decide) (wX13_aboveIn_153 hZ j hj) (wX13_aboveIn_82 hZ j hj)
noncomputable def vX13_aboveIn_59 (j : Nat → rx_K) : rx_K := o_st rx_isI 6 (o_ld rx_isR 0 (o_getf 13 42 (o_ld rx_isI 5 (o_ald 0 (o_const 8 (o_c2 rx_eq (vX13_aboveIn_72 j) (vX13_aboveIn_153 j)))))))
set_option maxRecDepth 20000 in
theorem wX13_aboveIn_59 (hZ : zO b e D A X) (j : Nat → rx_K) (hj : ∀ k pc, [3][k]? = some pc → rx_OK (zV b e D A X) mX13_aboveIn 3 pc (j k)) : rx_OK (zV b e D A X) mX13_aboveIn 3 59 (vX13_aboveIn_59 j) := by
  unfold vX13_aboveIn_59
  refine s_istore hZ.1 dX13_aboveIn_59 (Nat.le_of_ble_eq_true rfl) ?_
  refine s_aload_n hZ.1 dX13_aboveIn_61 rfl ?_
  refine yg13_42 dX13_aboveIn_62 zw4163 ?_
  refine s_iload hZ.1 dX13_aboveIn_65 ?_
  refine s_iald (tt := 0) rfl dX13_aboveIn_67 ?_
  refine s_iconst dX13_aboveIn_68 (by decide +kernel) ?_
  exact s_icmp_ne dX13_aboveIn_69 (by decide) (wX13_aboveIn_153 hZ j hj) (wX13_aboveIn_72 hZ j hj)
noncomputable def vX13_aboveIn_58 (j : Nat → rx_K) : rx_K := o_const 0 ((vX13_aboveIn_59 j))
set_option maxRecDepth 20000 in
theorem wX13_aboveIn_58 (hZ : zO b e D A X) (j : Nat → rx_K) (hj : ∀ k pc, [3][k]? = some pc → rx_OK (zV b e D A X) mX13_aboveIn 3 pc (j k)) : rx_OK (zV b e D A X) mX13_aboveIn 3 58 (vX13_aboveIn_58 j) := by
  unfold vX13_aboveIn_58
  refine s_iconst dX13_aboveIn_58 (by decide +kernel) ?_
  exact (wX13_aboveIn_59 hZ j hj)
noncomputable def vX13_aboveIn_54 (j : Nat → rx_K) : rx_K := o_const 8 ((vX13_aboveIn_59 j))
set_option maxRecDepth 20000 in
theorem wX13_aboveIn_54 (hZ : zO b e D A X) (j : Nat → rx_K) (hj : ∀ k pc, [3][k]? = some pc → rx_OK (zV b e D A X) mX13_aboveIn 3 pc (j k)) : rx_OK (zV b e D A X) mX13_aboveIn 3 54 (vX13_aboveIn_54 j) := by
  unfold vX13_aboveIn_54
  refine s_iconst dX13_aboveIn_54 (by decide +kernel) ?_
  exact s_goto dX13_aboveIn_55 (by decide) (wX13_aboveIn_59 hZ j hj)
noncomputable def vX13_aboveIn_45 (j : Nat → rx_K) : rx_K := o_ld rx_isR 0 (o_ld rx_isI 1 (o_ld rx_isI 3 (o_callV 2 13 FX13_onePackage (o_c1 rx_eq (vX13_aboveIn_58 j) (vX13_aboveIn_54 j)))))
set_option maxRecDepth 20000 in
theorem wX13_aboveIn_45 (hZ : zO b e D A X) (j : Nat → rx_K) (hj : ∀ k pc, [3][k]? = some pc → rx_OK (zV b e D A X) mX13_aboveIn 3 pc (j k)) : rx_OK (zV b e D A X) mX13_aboveIn 3 45 (vX13_aboveIn_45 j) := by
  unfold vX13_aboveIn_45
  refine s_aload_n hZ.1 dX13_aboveIn_45 rfl ?_
  refine s_iload_n hZ.1 dX13_aboveIn_46 rfl ?_
  refine s_iload_n hZ.1 dX13_aboveIn_47 rfl ?_
  refine s_callV hZ.1 (Met_X13_onePackage hZ) (Nat.le_of_ble_eq_true rfl) vy_X13_onePackage zcl13 zw3204 zw230 (Or.inl zw3202) dX13_aboveIn_48 ?_
  exact s_if_eq dX13_aboveIn_51 (by decide) (wX13_aboveIn_58 hZ j hj) (wX13_aboveIn_54 hZ j hj)
noncomputable def vX13_aboveIn_34 (j : Nat → rx_K) : rx_K := o_ld rx_isR 0 (o_getf 13 44 (o_ld rx_isI 5 (o_ald 0 (o_const 8 (o_c2 rx_eq (vX13_aboveIn_45 j) (vX13_aboveIn_58 j))))))
set_option maxRecDepth 20000 in
theorem wX13_aboveIn_34 (hZ : zO b e D A X) (j : Nat → rx_K) (hj : ∀ k pc, [3][k]? = some pc → rx_OK (zV b e D A X) mX13_aboveIn 3 pc (j k)) : rx_OK (zV b e D A X) mX13_aboveIn 3 34 (vX13_aboveIn_34 j) := by
  unfold vX13_aboveIn_34
  refine s_aload_n hZ.1 dX13_aboveIn_34 rfl ?_
  refine yg13_44 dX13_aboveIn_35 zw4165 ?_
  refine s_iload hZ.1 dX13_aboveIn_38 ?_
  refine s_iald (tt := 0) rfl dX13_aboveIn_40 ?_
  refine s_iconst dX13_aboveIn_41 (by decide +kernel) ?_
  exact s_icmp_ne dX13_aboveIn_42 (by decide) (wX13_aboveIn_58 hZ j hj) (wX13_aboveIn_45 hZ j hj)
noncomputable def vX13_aboveIn_14 (j : Nat → rx_K) : rx_K := o_ld rx_isI 1 (o_const 272 (o_bi (fun x y => x * y) (o_ld rx_isI 4 (o_bi (fun x y => x + y) (o_st rx_isI 5 (o_ld rx_isR 0 (o_getf 13 44 (o_ld rx_isI 5 (o_ald 0 (o_const 16 (o_c2 rx_lt (vX13_aboveIn_34 j) (vX13_aboveIn_54 j))))))))))))
set_option maxRecDepth 20000 in
theorem wX13_aboveIn_14 (hZ : zO b e D A X) (j : Nat → rx_K) (hj : ∀ k pc, [3][k]? = some pc → rx_OK (zV b e D A X) mX13_aboveIn 3 pc (j k)) : rx_OK (zV b e D A X) mX13_aboveIn 3 14 (vX13_aboveIn_14 j) := by
  unfold vX13_aboveIn_14
  refine s_iload_n hZ.1 dX13_aboveIn_14 rfl ?_
  refine s_bipush dX13_aboveIn_15 (by decide +kernel) ?_
  refine s_imul dX13_aboveIn_17 ?_
  refine s_iload hZ.1 dX13_aboveIn_18 ?_
  refine s_iadd dX13_aboveIn_20 ?_
  refine s_istore hZ.1 dX13_aboveIn_21 (Nat.le_of_ble_eq_true rfl) ?_
  refine s_aload_n hZ.1 dX13_aboveIn_23 rfl ?_
  refine yg13_44 dX13_aboveIn_24 zw4165 ?_
  refine s_iload hZ.1 dX13_aboveIn_27 ?_
  refine s_iald (tt := 0) rfl dX13_aboveIn_29 ?_
  refine s_iconst dX13_aboveIn_30 (by decide +kernel) ?_
  exact s_icmp_ge dX13_aboveIn_31 (by decide) (wX13_aboveIn_54 hZ j hj) (wX13_aboveIn_34 hZ j hj)
noncomputable def vX13_aboveIn_3 (j : Nat → rx_K) : rx_K := o_ld rx_isI 4 (o_ld rx_isR 0 (o_getf 13 41 (o_ld rx_isI 1 (o_ald 0 (o_c2 rx_lt (vX13_aboveIn_14 j) (vX13_aboveIn_159 j))))))
set_option maxRecDepth 20000 in
theorem wX13_aboveIn_3 (hZ : zO b e D A X) (j : Nat → rx_K) (hj : ∀ k pc, [3][k]? = some pc → rx_OK (zV b e D A X) mX13_aboveIn 3 pc (j k)) : rx_OK (zV b e D A X) mX13_aboveIn 3 3 (vX13_aboveIn_3 j) := by
  unfold vX13_aboveIn_3
  refine s_iload hZ.1 dX13_aboveIn_3 ?_
  refine s_aload_n hZ.1 dX13_aboveIn_5 rfl ?_
  refine yg13_41 dX13_aboveIn_6 zw4162 ?_
  refine s_iload_n hZ.1 dX13_aboveIn_9 rfl ?_
  refine s_iald (tt := 0) rfl dX13_aboveIn_10 ?_
  exact s_icmp_ge dX13_aboveIn_11 (by decide) (wX13_aboveIn_159 hZ j hj) (wX13_aboveIn_14 hZ j hj)
noncomputable def vX13_aboveIn_0 (j : Nat → rx_K) : rx_K := o_const 0 (o_st rx_isI 4 ((vX13_aboveIn_3 j)))
set_option maxRecDepth 20000 in
theorem wX13_aboveIn_0 (hZ : zO b e D A X) (j : Nat → rx_K) (hj : ∀ k pc, [3][k]? = some pc → rx_OK (zV b e D A X) mX13_aboveIn 3 pc (j k)) : rx_OK (zV b e D A X) mX13_aboveIn 3 0 (vX13_aboveIn_0 j) := by
  unfold vX13_aboveIn_0
  refine s_iconst dX13_aboveIn_0 (by decide +kernel) ?_
  refine s_istore hZ.1 dX13_aboveIn_1 (Nat.le_of_ble_eq_true rfl) ?_
  exact (wX13_aboveIn_3 hZ j hj)
noncomputable def vhX13_aboveIn (j : Nat → rx_K) : List rx_K := [vX13_aboveIn_3 j]
theorem vlX13_aboveIn (hZ : zO b e D A X) : ∀ n k pc, [3][k]? = some pc → rx_OK (zV b e D A X) mX13_aboveIn 3 pc (rx_J (vhX13_aboveIn) n k) := rx_loop fun j hj k pc h => by
  match k, h with
  | 0, h =>
    have e9 := Option.some.inj (show some 3 = some pc from h)
    subst e9
    exact wX13_aboveIn_3 hZ j hj
  | _ + 1, h => exact absurd h (by simp)
noncomputable def FX13_aboveIn : List Nat → rx_H → Option (Nat × rx_H) := rx_ent 7 (vX13_aboveIn_0 (rx_J (vhX13_aboveIn) 4000000000))
theorem Met_X13_aboveIn (hZ : zO b e D A X) : rx_Met (zV b e D A X) 3 yX13_aboveIn mX13_aboveIn (FX13_aboveIn) := rx_entry hZ.1 (wX13_aboveIn_0 hZ _ (vlX13_aboveIn hZ 4000000000)) (by decide +kernel) rfl (fun h => by cases h)
abbrev mX13_findAbove : rx_M := (RX13, cX13_findAbove, 6, none, false)
theorem vy_X13_findAbove : rx_Y (zV b e D A X) yX13_findAbove mX13_findAbove 1 := ⟨zw3252, zw431, by decide, by decide +kernel, by decide +kernel, by decide +kernel⟩
noncomputable def vX13_findAbove_89 (j : Nat → rx_K) : rx_K := o_ret0
set_option maxRecDepth 20000 in
theorem wX13_findAbove_89 (hZ : zO b e D A X) (j : Nat → rx_K) (hj : ∀ k pc, [24, 63][k]? = some pc → rx_OK (zV b e D A X) mX13_findAbove 4 pc (j k)) : rx_OK (zV b e D A X) mX13_findAbove 4 89 (vX13_findAbove_89 j) := by
  unfold vX13_findAbove_89
  exact s_vret rfl dX13_findAbove_89
noncomputable def vX13_findAbove_70 (j : Nat → rx_K) : rx_K := o_ld rx_isR 0 (o_ld rx_isR 0 (o_getf 13 105 (o_ld rx_isI 5 (o_ald 0 (o_ld rx_isI 1 (o_ld rx_isI 2 (o_callV 3 13 FX13_aboveIn (o_inc 5 (1) ((j 1))))))))))
set_option maxRecDepth 20000 in
theorem wX13_findAbove_70 (hZ : zO b e D A X) (j : Nat → rx_K) (hj : ∀ k pc, [24, 63][k]? = some pc → rx_OK (zV b e D A X) mX13_findAbove 4 pc (j k)) : rx_OK (zV b e D A X) mX13_findAbove 4 70 (vX13_findAbove_70 j) := by
  unfold vX13_findAbove_70
  refine s_aload_n hZ.1 dX13_findAbove_70 rfl ?_
  refine s_aload_n hZ.1 dX13_findAbove_71 rfl ?_
  refine yg13_105 dX13_findAbove_72 zw4225 ?_
  refine s_iload hZ.1 dX13_findAbove_75 ?_
  refine s_iald (tt := 0) rfl dX13_findAbove_77 ?_
  refine s_iload_n hZ.1 dX13_findAbove_78 rfl ?_
  refine s_iload_n hZ.1 dX13_findAbove_79 rfl ?_
  refine s_callV hZ.1 (Met_X13_aboveIn hZ) (Nat.le_of_ble_eq_true rfl) vy_X13_aboveIn zcl13 zw3266 zw243 (Or.inl zw3264) dX13_findAbove_80 ?_
  refine s_iinc hZ.1 dX13_findAbove_83 (Nat.le_of_ble_eq_true rfl) ?_
  exact s_goto dX13_findAbove_86 (by decide) (hj 1 63 rfl)
noncomputable def vX13_findAbove_63 (j : Nat → rx_K) : rx_K := o_ld rx_isI 5 (o_ld rx_isI 4 (o_c2 rx_lt (vX13_findAbove_70 j) (vX13_findAbove_89 j)))
set_option maxRecDepth 20000 in
theorem wX13_findAbove_63 (hZ : zO b e D A X) (j : Nat → rx_K) (hj : ∀ k pc, [24, 63][k]? = some pc → rx_OK (zV b e D A X) mX13_findAbove 4 pc (j k)) : rx_OK (zV b e D A X) mX13_findAbove 4 63 (vX13_findAbove_63 j) := by
  unfold vX13_findAbove_63
  refine s_iload hZ.1 dX13_findAbove_63 ?_
  refine s_iload hZ.1 dX13_findAbove_65 ?_
  exact s_icmp_ge dX13_findAbove_67 (by decide) (wX13_findAbove_89 hZ j hj) (wX13_findAbove_70 hZ j hj)
noncomputable def vX13_findAbove_49 (j : Nat → rx_K) : rx_K := o_ld rx_isR 0 (o_ld rx_isI 2 (o_ld rx_isR 0 (o_getf 13 105 (o_callV 2 13 FX13_allFaces (o_st rx_isI 4 (o_const 0 (o_st rx_isI 5 ((vX13_findAbove_63 j)))))))))
set_option maxRecDepth 20000 in
theorem wX13_findAbove_49 (hZ : zO b e D A X) (j : Nat → rx_K) (hj : ∀ k pc, [24, 63][k]? = some pc → rx_OK (zV b e D A X) mX13_findAbove 4 pc (j k)) : rx_OK (zV b e D A X) mX13_findAbove 4 49 (vX13_findAbove_49 j) := by
  unfold vX13_findAbove_49
  refine s_aload_n hZ.1 dX13_findAbove_49 rfl ?_
  refine s_iload_n hZ.1 dX13_findAbove_50 rfl ?_
  refine s_aload_n hZ.1 dX13_findAbove_51 rfl ?_
  refine yg13_105 dX13_findAbove_52 zw4225 ?_
  refine s_callV hZ.1 (Met_X13_allFaces hZ) (Nat.le_of_ble_eq_true rfl) vy_X13_allFaces zcl13 zw3270 zw244 (Or.inl zw3268) dX13_findAbove_55 ?_
  refine s_istore hZ.1 dX13_findAbove_58 (Nat.le_of_ble_eq_true rfl) ?_
  refine s_iconst dX13_findAbove_60 (by decide +kernel) ?_
  refine s_istore hZ.1 dX13_findAbove_61 (Nat.le_of_ble_eq_true rfl) ?_
  exact (wX13_findAbove_63 hZ j hj)
noncomputable def vX13_findAbove_30 (j : Nat → rx_K) : rx_K := o_ld rx_isR 0 (o_ld rx_isR 0 (o_getf 13 105 (o_ld rx_isI 4 (o_ald 0 (o_ld rx_isI 1 (o_ld rx_isI 2 (o_callV 3 13 FX13_aboveIn (o_inc 4 (1) ((j 0))))))))))
set_option maxRecDepth 20000 in
theorem wX13_findAbove_30 (hZ : zO b e D A X) (j : Nat → rx_K) (hj : ∀ k pc, [24, 63][k]? = some pc → rx_OK (zV b e D A X) mX13_findAbove 4 pc (j k)) : rx_OK (zV b e D A X) mX13_findAbove 4 30 (vX13_findAbove_30 j) := by
  unfold vX13_findAbove_30
  refine s_aload_n hZ.1 dX13_findAbove_30 rfl ?_
  refine s_aload_n hZ.1 dX13_findAbove_31 rfl ?_
  refine yg13_105 dX13_findAbove_32 zw4225 ?_
  refine s_iload hZ.1 dX13_findAbove_35 ?_
  refine s_iald (tt := 0) rfl dX13_findAbove_37 ?_
  refine s_iload_n hZ.1 dX13_findAbove_38 rfl ?_
  refine s_iload_n hZ.1 dX13_findAbove_39 rfl ?_
  refine s_callV hZ.1 (Met_X13_aboveIn hZ) (Nat.le_of_ble_eq_true rfl) vy_X13_aboveIn zcl13 zw3266 zw243 (Or.inl zw3264) dX13_findAbove_40 ?_
  refine s_iinc hZ.1 dX13_findAbove_43 (Nat.le_of_ble_eq_true rfl) ?_
  exact s_goto dX13_findAbove_46 (by decide) (hj 0 24 rfl)
noncomputable def vX13_findAbove_24 (j : Nat → rx_K) : rx_K := o_ld rx_isI 4 (o_ld rx_isI 3 (o_c2 rx_lt (vX13_findAbove_30 j) (vX13_findAbove_49 j)))
set_option maxRecDepth 20000 in
theorem wX13_findAbove_24 (hZ : zO b e D A X) (j : Nat → rx_K) (hj : ∀ k pc, [24, 63][k]? = some pc → rx_OK (zV b e D A X) mX13_findAbove 4 pc (j k)) : rx_OK (zV b e D A X) mX13_findAbove 4 24 (vX13_findAbove_24 j) := by
  unfold vX13_findAbove_24
  refine s_iload hZ.1 dX13_findAbove_24 ?_
  refine s_iload_n hZ.1 dX13_findAbove_26 rfl ?_
  exact s_icmp_ge dX13_findAbove_27 (by decide) (wX13_findAbove_49 hZ j hj) (wX13_findAbove_30 hZ j hj)
noncomputable def vX13_findAbove_0 (j : Nat → rx_K) : rx_K := o_ld rx_isR 0 (o_ld rx_isI 1 (o_callV 1 13 FX13_classOfMember (o_st rx_isI 2 (o_ld rx_isR 0 (o_const 0 (o_putf rx_isI 13 104 (o_ld rx_isR 0 (o_ld rx_isI 2 (o_ld rx_isR 0 (o_getf 13 105 (o_callV 2 13 FX13_parents (o_st rx_isI 3 (o_const 8 (o_st rx_isI 4 ((vX13_findAbove_24 j))))))))))))))))
set_option maxRecDepth 20000 in
theorem wX13_findAbove_0 (hZ : zO b e D A X) (j : Nat → rx_K) (hj : ∀ k pc, [24, 63][k]? = some pc → rx_OK (zV b e D A X) mX13_findAbove 4 pc (j k)) : rx_OK (zV b e D A X) mX13_findAbove 4 0 (vX13_findAbove_0 j) := by
  unfold vX13_findAbove_0
  refine s_aload_n hZ.1 dX13_findAbove_0 rfl ?_
  refine s_iload_n hZ.1 dX13_findAbove_1 rfl ?_
  refine s_callV hZ.1 (Met_X13_classOfMember hZ) (Nat.le_of_ble_eq_true rfl) vy_X13_classOfMember zcl13 zw3255 zw241 (Or.inl zw3253) dX13_findAbove_2 ?_
  refine s_istore_n hZ.1 dX13_findAbove_5 rfl (Nat.le_of_ble_eq_true rfl) ?_
  refine s_aload_n hZ.1 dX13_findAbove_6 rfl ?_
  refine s_iconst dX13_findAbove_7 (by decide +kernel) ?_
  refine yp13_104 hZ.1 dX13_findAbove_8 zw4224 ?_
  refine s_aload_n hZ.1 dX13_findAbove_11 rfl ?_
  refine s_iload_n hZ.1 dX13_findAbove_12 rfl ?_
  refine s_aload_n hZ.1 dX13_findAbove_13 rfl ?_
  refine yg13_105 dX13_findAbove_14 zw4225 ?_
  refine s_callV hZ.1 (Met_X13_parents hZ) (Nat.le_of_ble_eq_true rfl) vy_X13_parents zcl13 zw3259 zw242 (Or.inl zw3257) dX13_findAbove_17 ?_
  refine s_istore_n hZ.1 dX13_findAbove_20 rfl (Nat.le_of_ble_eq_true rfl) ?_
  refine s_iconst dX13_findAbove_21 (by decide +kernel) ?_
  refine s_istore hZ.1 dX13_findAbove_22 (Nat.le_of_ble_eq_true rfl) ?_
  exact (wX13_findAbove_24 hZ j hj)
noncomputable def vhX13_findAbove (j : Nat → rx_K) : List rx_K := [vX13_findAbove_24 j, vX13_findAbove_63 j]
theorem vlX13_findAbove (hZ : zO b e D A X) : ∀ n k pc, [24, 63][k]? = some pc → rx_OK (zV b e D A X) mX13_findAbove 4 pc (rx_J (vhX13_findAbove) n k) := rx_loop fun j hj k pc h => by
  match k, h with
  | 0, h =>
    have e9 := Option.some.inj (show some 24 = some pc from h)
    subst e9
    exact wX13_findAbove_24 hZ j hj
  | 1, h =>
    have e9 := Option.some.inj (show some 63 = some pc from h)
    subst e9
    exact wX13_findAbove_63 hZ j hj
  | _ + 2, h => exact absurd h (by simp)
noncomputable def FX13_findAbove : List Nat → rx_H → Option (Nat × rx_H) := rx_ent 6 (vX13_findAbove_0 (rx_J (vhX13_findAbove) 4000000000))
theorem Met_X13_findAbove (hZ : zO b e D A X) : rx_Met (zV b e D A X) 4 yX13_findAbove mX13_findAbove (FX13_findAbove) := rx_entry hZ.1 (wX13_findAbove_0 hZ _ (vlX13_findAbove hZ 4000000000)) (by decide +kernel) rfl (fun h => by cases h)
abbrev mX13_isAgainst : rx_M := (RX13, cX13_isAgainst, 3, (some .boolean), false)
theorem vy_X13_isAgainst : rx_Y (zV b e D A X) yX13_isAgainst mX13_isAgainst 2 := ⟨zw3275, zw431, by decide, by decide +kernel, by decide +kernel, by decide +kernel⟩
noncomputable def vX13_isAgainst_90 : rx_K := o_ret1 rx_isZ
set_option maxRecDepth 20000 in
theorem wX13_isAgainst_90 (hZ : zO b e D A X) : rx_OK (zV b e D A X) mX13_isAgainst 5 90 vX13_isAgainst_90 := by
  unfold vX13_isAgainst_90
  exact s_zret rx_z_ok rfl dX13_isAgainst_90
noncomputable def vX13_isAgainst_89 : rx_K := o_const 0 (vX13_isAgainst_90)
set_option maxRecDepth 20000 in
theorem wX13_isAgainst_89 (hZ : zO b e D A X) : rx_OK (zV b e D A X) mX13_isAgainst 5 89 vX13_isAgainst_89 := by
  unfold vX13_isAgainst_89
  refine s_iconst dX13_isAgainst_89 (by decide +kernel) ?_
  exact (wX13_isAgainst_90 hZ)
noncomputable def vX13_isAgainst_85 : rx_K := o_const 8 (vX13_isAgainst_90)
set_option maxRecDepth 20000 in
theorem wX13_isAgainst_85 (hZ : zO b e D A X) : rx_OK (zV b e D A X) mX13_isAgainst 5 85 vX13_isAgainst_85 := by
  unfold vX13_isAgainst_85
  refine s_iconst dX13_isAgainst_85 (by decide +kernel) ?_
  exact s_goto dX13_isAgainst_86 (by decide) (wX13_isAgainst_90 hZ)
noncomputable def vX13_isAgainst_66 : rx_K := o_ld rx_isR 0 (o_ld rx_isR 0 (o_getf 13 53 (o_ld rx_isI 1 (o_ald 1 (o_ld rx_isR 0 (o_getf 13 53 (o_ld rx_isI 2 (o_ald 1 (o_callV 2 13 FX13_fits (o_c1 rx_eq vX13_isAgainst_85 vX13_isAgainst_89))))))))))
set_option maxRecDepth 20000 in
theorem wX13_isAgainst_66 (hZ : zO b e D A X) : rx_OK (zV b e D A X) mX13_isAgainst 5 66 vX13_isAgainst_66 := by
  unfold vX13_isAgainst_66
  refine s_aload_n hZ.1 dX13_isAgainst_66 rfl ?_
  refine s_aload_n hZ.1 dX13_isAgainst_67 rfl ?_
  refine yg13_53 dX13_isAgainst_68 zw4174 ?_
  refine s_iload_n hZ.1 dX13_isAgainst_71 rfl ?_
  refine s_lald (tt := 1) rfl dX13_isAgainst_72 ?_
  refine s_aload_n hZ.1 dX13_isAgainst_73 rfl ?_
  refine yg13_53 dX13_isAgainst_74 zw4174 ?_
  refine s_iload_n hZ.1 dX13_isAgainst_77 rfl ?_
  refine s_lald (tt := 1) rfl dX13_isAgainst_78 ?_
  refine s_callV hZ.1 (Met_X13_fits hZ) (Nat.le_of_ble_eq_true rfl) vy_X13_fits zcl13 zw3278 zw246 (Or.inl zw3276) dX13_isAgainst_79 ?_
  exact s_if_ne dX13_isAgainst_82 (by decide) (wX13_isAgainst_89 hZ) (wX13_isAgainst_85 hZ)
noncomputable def vX13_isAgainst_50 : rx_K := o_ld rx_isR 0 (o_getf 13 53 (o_ld rx_isI 2 (o_ald 1 (o_ld rx_isR 0 (o_getf 13 53 (o_ld rx_isI 1 (o_ald 1 (o_bc (fun x y => lg_cmp x y) (o_c1 rx_eq vX13_isAgainst_89 vX13_isAgainst_66)))))))))
set_option maxRecDepth 20000 in
theorem wX13_isAgainst_50 (hZ : zO b e D A X) : rx_OK (zV b e D A X) mX13_isAgainst 5 50 vX13_isAgainst_50 := by
  unfold vX13_isAgainst_50
  refine s_aload_n hZ.1 dX13_isAgainst_50 rfl ?_
  refine yg13_53 dX13_isAgainst_51 zw4174 ?_
  refine s_iload_n hZ.1 dX13_isAgainst_54 rfl ?_
  refine s_lald (tt := 1) rfl dX13_isAgainst_55 ?_
  refine s_aload_n hZ.1 dX13_isAgainst_56 rfl ?_
  refine yg13_53 dX13_isAgainst_57 zw4174 ?_
  refine s_iload_n hZ.1 dX13_isAgainst_60 rfl ?_
  refine s_lald (tt := 1) rfl dX13_isAgainst_61 ?_
  refine s_lcmp dX13_isAgainst_62 ?_
  exact s_if_eq dX13_isAgainst_63 (by decide) (wX13_isAgainst_89 hZ) (wX13_isAgainst_66 hZ)
noncomputable def vX13_isAgainst_35 : rx_K := o_ld rx_isR 0 (o_getf 13 44 (o_ld rx_isI 2 (o_ald 0 (o_ld rx_isR 0 (o_getf 13 44 (o_ld rx_isI 1 (o_ald 0 (o_c2 (fun h x y => rx_lt h y x) vX13_isAgainst_85 vX13_isAgainst_50))))))))
set_option maxRecDepth 20000 in
theorem wX13_isAgainst_35 (hZ : zO b e D A X) : rx_OK (zV b e D A X) mX13_isAgainst 5 35 vX13_isAgainst_35 := by
  unfold vX13_isAgainst_35
  refine s_aload_n hZ.1 dX13_isAgainst_35 rfl ?_
  refine yg13_44 dX13_isAgainst_36 zw4165 ?_
  refine s_iload_n hZ.1 dX13_isAgainst_39 rfl ?_
  refine s_iald (tt := 0) rfl dX13_isAgainst_40 ?_
  refine s_aload_n hZ.1 dX13_isAgainst_41 rfl ?_
  refine yg13_44 dX13_isAgainst_42 zw4165 ?_
  refine s_iload_n hZ.1 dX13_isAgainst_45 rfl ?_
  refine s_iald (tt := 0) rfl dX13_isAgainst_46 ?_
  exact s_icmp_gt dX13_isAgainst_47 (by decide) (wX13_isAgainst_85 hZ) (wX13_isAgainst_50 hZ)
noncomputable def vX13_isAgainst_26 : rx_K := o_ld rx_isR 0 (o_getf 13 46 (o_ld rx_isI 2 (o_ald 3 (o_c1 rx_eq vX13_isAgainst_35 vX13_isAgainst_85))))
set_option maxRecDepth 20000 in
theorem wX13_isAgainst_26 (hZ : zO b e D A X) : rx_OK (zV b e D A X) mX13_isAgainst 5 26 vX13_isAgainst_26 := by
  unfold vX13_isAgainst_26
  refine s_aload_n hZ.1 dX13_isAgainst_26 rfl ?_
  refine yg13_46 dX13_isAgainst_27 zw4167 ?_
  refine s_iload_n hZ.1 dX13_isAgainst_30 rfl ?_
  refine s_zald (tt := 3) rfl dX13_isAgainst_31 ?_
  exact s_if_ne dX13_isAgainst_32 (by decide) (wX13_isAgainst_85 hZ) (wX13_isAgainst_35 hZ)
noncomputable def vX13_isAgainst_17 : rx_K := o_ld rx_isR 0 (o_getf 13 45 (o_ld rx_isI 1 (o_ald 3 (o_c1 rx_eq vX13_isAgainst_26 vX13_isAgainst_89))))
set_option maxRecDepth 20000 in
theorem wX13_isAgainst_17 (hZ : zO b e D A X) : rx_OK (zV b e D A X) mX13_isAgainst 5 17 vX13_isAgainst_17 := by
  unfold vX13_isAgainst_17
  refine s_aload_n hZ.1 dX13_isAgainst_17 rfl ?_
  refine yg13_45 dX13_isAgainst_18 zw4166 ?_
  refine s_iload_n hZ.1 dX13_isAgainst_21 rfl ?_
  refine s_zald (tt := 3) rfl dX13_isAgainst_22 ?_
  exact s_if_ne dX13_isAgainst_23 (by decide) (wX13_isAgainst_89 hZ) (wX13_isAgainst_26 hZ)
noncomputable def vX13_isAgainst_15 : rx_K := o_const 8 (o_ret1 rx_isZ)
set_option maxRecDepth 20000 in
theorem wX13_isAgainst_15 (hZ : zO b e D A X) : rx_OK (zV b e D A X) mX13_isAgainst 5 15 vX13_isAgainst_15 := by
  unfold vX13_isAgainst_15
  refine s_iconst dX13_isAgainst_15 (by decide +kernel) ?_
  exact s_zret rx_z_ok rfl dX13_isAgainst_16
noncomputable def vX13_isAgainst_0 : rx_K := o_ld rx_isR 0 (o_getf 13 45 (o_ld rx_isI 1 (o_ald 3 (o_ld rx_isR 0 (o_getf 13 45 (o_ld rx_isI 2 (o_ald 3 (o_c2 rx_eq vX13_isAgainst_17 vX13_isAgainst_15))))))))
set_option maxRecDepth 20000 in
theorem wX13_isAgainst_0 (hZ : zO b e D A X) : rx_OK (zV b e D A X) mX13_isAgainst 5 0 vX13_isAgainst_0 := by
  unfold vX13_isAgainst_0
  refine s_aload_n hZ.1 dX13_isAgainst_0 rfl ?_
  refine yg13_45 dX13_isAgainst_1 zw4166 ?_
  refine s_iload_n hZ.1 dX13_isAgainst_4 rfl ?_
  refine s_zald (tt := 3) rfl dX13_isAgainst_5 ?_
  refine s_aload_n hZ.1 dX13_isAgainst_6 rfl ?_
  refine yg13_45 dX13_isAgainst_7 zw4166 ?_
  refine s_iload_n hZ.1 dX13_isAgainst_10 rfl ?_
  refine s_zald (tt := 3) rfl dX13_isAgainst_11 ?_
  exact s_icmp_eq dX13_isAgainst_12 (by decide) (wX13_isAgainst_17 hZ) (wX13_isAgainst_15 hZ)
noncomputable def FX13_isAgainst : List Nat → rx_H → Option (Nat × rx_H) := rx_ent 3 vX13_isAgainst_0
theorem Met_X13_isAgainst (hZ : zO b e D A X) : rx_Met (zV b e D A X) 5 yX13_isAgainst mX13_isAgainst (FX13_isAgainst) := rx_entry hZ.1 (wX13_isAgainst_0 hZ) (by decide +kernel) rfl (fun h => by cases h)
abbrev mX13_againstAbove : rx_M := (RX13, cX13_againstAbove, 6, none, false)
theorem vy_X13_againstAbove : rx_Y (zV b e D A X) yX13_againstAbove mX13_againstAbove 0 := ⟨zw3248, zw431, by decide, by decide +kernel, by decide +kernel, by decide +kernel⟩
noncomputable def vX13_againstAbove_135 (j : Nat → rx_K) : rx_K := o_ret0
set_option maxRecDepth 20000 in
theorem wX13_againstAbove_135 (hZ : zO b e D A X) (j : Nat → rx_K) (hj : ∀ k pc, [2, 34, 79][k]? = some pc → rx_OK (zV b e D A X) mX13_againstAbove 6 pc (j k)) : rx_OK (zV b e D A X) mX13_againstAbove 6 135 (vX13_againstAbove_135 j) := by
  unfold vX13_againstAbove_135
  exact s_vret rfl dX13_againstAbove_135
noncomputable def vX13_againstAbove_129 (j : Nat → rx_K) : rx_K := o_inc 1 (1) ((j 0))
set_option maxRecDepth 20000 in
theorem wX13_againstAbove_129 (hZ : zO b e D A X) (j : Nat → rx_K) (hj : ∀ k pc, [2, 34, 79][k]? = some pc → rx_OK (zV b e D A X) mX13_againstAbove 6 pc (j k)) : rx_OK (zV b e D A X) mX13_againstAbove 6 129 (vX13_againstAbove_129 j) := by
  unfold vX13_againstAbove_129
  refine s_iinc hZ.1 dX13_againstAbove_129 (Nat.le_of_ble_eq_true rfl) ?_
  exact s_goto dX13_againstAbove_132 (by decide) (hj 0 2 rfl)
noncomputable def vX13_againstAbove_123 (j : Nat → rx_K) : rx_K := o_inc 3 (1) ((j 1))
set_option maxRecDepth 20000 in
theorem wX13_againstAbove_123 (hZ : zO b e D A X) (j : Nat → rx_K) (hj : ∀ k pc, [2, 34, 79][k]? = some pc → rx_OK (zV b e D A X) mX13_againstAbove 6 pc (j k)) : rx_OK (zV b e D A X) mX13_againstAbove 6 123 (vX13_againstAbove_123 j) := by
  unfold vX13_againstAbove_123
  refine s_iinc hZ.1 dX13_againstAbove_123 (Nat.le_of_ble_eq_true rfl) ?_
  exact s_goto dX13_againstAbove_126 (by decide) (hj 1 34 rfl)
noncomputable def vX13_againstAbove_117 (j : Nat → rx_K) : rx_K := o_inc 5 (1) ((j 2))
set_option maxRecDepth 20000 in
theorem wX13_againstAbove_117 (hZ : zO b e D A X) (j : Nat → rx_K) (hj : ∀ k pc, [2, 34, 79][k]? = some pc → rx_OK (zV b e D A X) mX13_againstAbove 6 pc (j k)) : rx_OK (zV b e D A X) mX13_againstAbove 6 117 (vX13_againstAbove_117 j) := by
  unfold vX13_againstAbove_117
  refine s_iinc hZ.1 dX13_againstAbove_117 (Nat.le_of_ble_eq_true rfl) ?_
  exact s_goto dX13_againstAbove_120 (by decide) (hj 2 79 rfl)
noncomputable def vX13_againstAbove_104 (j : Nat → rx_K) : rx_K := o_ld rx_isR 0 (o_const 72 (o_ld rx_isR 0 (o_getf 13 52 (o_ld rx_isI 4 (o_ald 0 (o_callV 2 13 FX13_fault ((vX13_againstAbove_117 j))))))))
set_option maxRecDepth 20000 in
theorem wX13_againstAbove_104 (hZ : zO b e D A X) (j : Nat → rx_K) (hj : ∀ k pc, [2, 34, 79][k]? = some pc → rx_OK (zV b e D A X) mX13_againstAbove 6 pc (j k)) : rx_OK (zV b e D A X) mX13_againstAbove 6 104 (vX13_againstAbove_104 j) := by
  unfold vX13_againstAbove_104
  refine s_aload_n hZ.1 dX13_againstAbove_104 rfl ?_
  refine s_bipush dX13_againstAbove_105 (by decide +kernel) ?_
  refine s_aload_n hZ.1 dX13_againstAbove_107 rfl ?_
  refine yg13_52 dX13_againstAbove_108 zw4173 ?_
  refine s_iload hZ.1 dX13_againstAbove_111 ?_
  refine s_iald (tt := 0) rfl dX13_againstAbove_113 ?_
  refine s_callV hZ.1 (Met_X13_fault hZ) (Nat.le_of_ble_eq_true rfl) vy_X13_fault zcl13 zw3004 zw190 (Or.inl zw3002) dX13_againstAbove_114 ?_
  exact (wX13_againstAbove_117 hZ j hj)
noncomputable def vX13_againstAbove_88 (j : Nat → rx_K) : rx_K := o_ld rx_isR 0 (o_ld rx_isI 4 (o_ld rx_isR 0 (o_getf 13 103 (o_ld rx_isI 5 (o_ald 0 (o_callV 2 13 FX13_isAgainst (o_c1 rx_eq (vX13_againstAbove_117 j) (vX13_againstAbove_104 j))))))))
set_option maxRecDepth 20000 in
theorem wX13_againstAbove_88 (hZ : zO b e D A X) (j : Nat → rx_K) (hj : ∀ k pc, [2, 34, 79][k]? = some pc → rx_OK (zV b e D A X) mX13_againstAbove 6 pc (j k)) : rx_OK (zV b e D A X) mX13_againstAbove 6 88 (vX13_againstAbove_88 j) := by
  unfold vX13_againstAbove_88
  refine s_aload_n hZ.1 dX13_againstAbove_88 rfl ?_
  refine s_iload hZ.1 dX13_againstAbove_89 ?_
  refine s_aload_n hZ.1 dX13_againstAbove_91 rfl ?_
  refine yg13_103 dX13_againstAbove_92 zw4223 ?_
  refine s_iload hZ.1 dX13_againstAbove_95 ?_
  refine s_iald (tt := 0) rfl dX13_againstAbove_97 ?_
  refine s_callV hZ.1 (Met_X13_isAgainst hZ) (Nat.le_of_ble_eq_true rfl) vy_X13_isAgainst zcl13 zw3274 zw245 (Or.inl zw3272) dX13_againstAbove_98 ?_
  exact s_if_eq dX13_againstAbove_101 (by decide) (wX13_againstAbove_117 hZ j hj) (wX13_againstAbove_104 hZ j hj)
noncomputable def vX13_againstAbove_79 (j : Nat → rx_K) : rx_K := o_ld rx_isI 5 (o_ld rx_isR 0 (o_getf 13 104 (o_c2 rx_lt (vX13_againstAbove_88 j) (vX13_againstAbove_123 j))))
set_option maxRecDepth 20000 in
theorem wX13_againstAbove_79 (hZ : zO b e D A X) (j : Nat → rx_K) (hj : ∀ k pc, [2, 34, 79][k]? = some pc → rx_OK (zV b e D A X) mX13_againstAbove 6 pc (j k)) : rx_OK (zV b e D A X) mX13_againstAbove 6 79 (vX13_againstAbove_79 j) := by
  unfold vX13_againstAbove_79
  refine s_iload hZ.1 dX13_againstAbove_79 ?_
  refine s_aload_n hZ.1 dX13_againstAbove_81 rfl ?_
  refine yg13_104 dX13_againstAbove_82 zw4224 ?_
  exact s_icmp_ge dX13_againstAbove_85 (by decide) (wX13_againstAbove_123 hZ j hj) (wX13_againstAbove_88 hZ j hj)
noncomputable def vX13_againstAbove_70 (j : Nat → rx_K) : rx_K := o_ld rx_isR 0 (o_ld rx_isI 4 (o_callV 1 13 FX13_findAbove (o_const 0 (o_st rx_isI 5 ((vX13_againstAbove_79 j))))))
set_option maxRecDepth 20000 in
theorem wX13_againstAbove_70 (hZ : zO b e D A X) (j : Nat → rx_K) (hj : ∀ k pc, [2, 34, 79][k]? = some pc → rx_OK (zV b e D A X) mX13_againstAbove 6 pc (j k)) : rx_OK (zV b e D A X) mX13_againstAbove 6 70 (vX13_againstAbove_70 j) := by
  unfold vX13_againstAbove_70
  refine s_aload_n hZ.1 dX13_againstAbove_70 rfl ?_
  refine s_iload hZ.1 dX13_againstAbove_71 ?_
  refine s_callV hZ.1 (Met_X13_findAbove hZ) (Nat.le_of_ble_eq_true rfl) vy_X13_findAbove zcl13 zw3251 zw240 (Or.inl zw3249) dX13_againstAbove_73 ?_
  refine s_iconst dX13_againstAbove_76 (by decide +kernel) ?_
  refine s_istore hZ.1 dX13_againstAbove_77 (Nat.le_of_ble_eq_true rfl) ?_
  exact (wX13_againstAbove_79 hZ j hj)
noncomputable def vX13_againstAbove_51 (j : Nat → rx_K) : rx_K := o_ld rx_isI 2 (o_const 272 (o_bi (fun x y => x * y) (o_ld rx_isI 3 (o_bi (fun x y => x + y) (o_st rx_isI 4 (o_ld rx_isR 0 (o_getf 13 42 (o_ld rx_isI 4 (o_ald 0 (o_const 8 (o_c2 rx_eq (vX13_againstAbove_70 j) (vX13_againstAbove_123 j))))))))))))
set_option maxRecDepth 20000 in
theorem wX13_againstAbove_51 (hZ : zO b e D A X) (j : Nat → rx_K) (hj : ∀ k pc, [2, 34, 79][k]? = some pc → rx_OK (zV b e D A X) mX13_againstAbove 6 pc (j k)) : rx_OK (zV b e D A X) mX13_againstAbove 6 51 (vX13_againstAbove_51 j) := by
  unfold vX13_againstAbove_51
  refine s_iload_n hZ.1 dX13_againstAbove_51 rfl ?_
  refine s_bipush dX13_againstAbove_52 (by decide +kernel) ?_
  refine s_imul dX13_againstAbove_54 ?_
  refine s_iload_n hZ.1 dX13_againstAbove_55 rfl ?_
  refine s_iadd dX13_againstAbove_56 ?_
  refine s_istore hZ.1 dX13_againstAbove_57 (Nat.le_of_ble_eq_true rfl) ?_
  refine s_aload_n hZ.1 dX13_againstAbove_59 rfl ?_
  refine yg13_42 dX13_againstAbove_60 zw4163 ?_
  refine s_iload hZ.1 dX13_againstAbove_63 ?_
  refine s_iald (tt := 0) rfl dX13_againstAbove_65 ?_
  refine s_iconst dX13_againstAbove_66 (by decide +kernel) ?_
  exact s_icmp_ne dX13_againstAbove_67 (by decide) (wX13_againstAbove_123 hZ j hj) (wX13_againstAbove_70 hZ j hj)
noncomputable def vX13_againstAbove_44 (j : Nat → rx_K) : rx_K := o_ld rx_isR 0 (o_getf 13 20 (o_c1 rx_eq (vX13_againstAbove_51 j) (vX13_againstAbove_129 j)))
set_option maxRecDepth 20000 in
theorem wX13_againstAbove_44 (hZ : zO b e D A X) (j : Nat → rx_K) (hj : ∀ k pc, [2, 34, 79][k]? = some pc → rx_OK (zV b e D A X) mX13_againstAbove 6 pc (j k)) : rx_OK (zV b e D A X) mX13_againstAbove 6 44 (vX13_againstAbove_44 j) := by
  unfold vX13_againstAbove_44
  refine s_aload_n hZ.1 dX13_againstAbove_44 rfl ?_
  refine yg13_20 dX13_againstAbove_45 zw4141 ?_
  exact s_if_ne dX13_againstAbove_48 (by decide) (wX13_againstAbove_129 hZ j hj) (wX13_againstAbove_51 hZ j hj)
noncomputable def vX13_againstAbove_34 (j : Nat → rx_K) : rx_K := o_ld rx_isI 3 (o_ld rx_isR 0 (o_getf 13 41 (o_ld rx_isI 2 (o_ald 0 (o_c2 rx_lt (vX13_againstAbove_44 j) (vX13_againstAbove_129 j))))))
set_option maxRecDepth 20000 in
theorem wX13_againstAbove_34 (hZ : zO b e D A X) (j : Nat → rx_K) (hj : ∀ k pc, [2, 34, 79][k]? = some pc → rx_OK (zV b e D A X) mX13_againstAbove 6 pc (j k)) : rx_OK (zV b e D A X) mX13_againstAbove 6 34 (vX13_againstAbove_34 j) := by
  unfold vX13_againstAbove_34
  refine s_iload_n hZ.1 dX13_againstAbove_34 rfl ?_
  refine s_aload_n hZ.1 dX13_againstAbove_35 rfl ?_
  refine yg13_41 dX13_againstAbove_36 zw4162 ?_
  refine s_iload_n hZ.1 dX13_againstAbove_39 rfl ?_
  refine s_iald (tt := 0) rfl dX13_againstAbove_40 ?_
  exact s_icmp_ge dX13_againstAbove_41 (by decide) (wX13_againstAbove_129 hZ j hj) (wX13_againstAbove_44 hZ j hj)
noncomputable def vX13_againstAbove_22 (j : Nat → rx_K) : rx_K := o_ld rx_isR 0 (o_getf 13 19 (o_const 96 (o_bi (fun x y => x * y) (o_ld rx_isI 1 (o_bi (fun x y => x + y) (o_st rx_isI 2 (o_const 0 (o_st rx_isI 3 ((vX13_againstAbove_34 j))))))))))
set_option maxRecDepth 20000 in
theorem wX13_againstAbove_22 (hZ : zO b e D A X) (j : Nat → rx_K) (hj : ∀ k pc, [2, 34, 79][k]? = some pc → rx_OK (zV b e D A X) mX13_againstAbove 6 pc (j k)) : rx_OK (zV b e D A X) mX13_againstAbove 6 22 (vX13_againstAbove_22 j) := by
  unfold vX13_againstAbove_22
  refine s_aload_n hZ.1 dX13_againstAbove_22 rfl ?_
  refine yg13_19 dX13_againstAbove_23 zw4140 ?_
  refine s_bipush dX13_againstAbove_26 (by decide +kernel) ?_
  refine s_imul dX13_againstAbove_28 ?_
  refine s_iload_n hZ.1 dX13_againstAbove_29 rfl ?_
  refine s_iadd dX13_againstAbove_30 ?_
  refine s_istore_n hZ.1 dX13_againstAbove_31 rfl (Nat.le_of_ble_eq_true rfl) ?_
  refine s_iconst dX13_againstAbove_32 (by decide +kernel) ?_
  refine s_istore_n hZ.1 dX13_againstAbove_33 rfl (Nat.le_of_ble_eq_true rfl) ?_
  exact (wX13_againstAbove_34 hZ j hj)
noncomputable def vX13_againstAbove_15 (j : Nat → rx_K) : rx_K := o_ld rx_isR 0 (o_getf 13 20 (o_c1 rx_eq (vX13_againstAbove_22 j) (vX13_againstAbove_135 j)))
set_option maxRecDepth 20000 in
theorem wX13_againstAbove_15 (hZ : zO b e D A X) (j : Nat → rx_K) (hj : ∀ k pc, [2, 34, 79][k]? = some pc → rx_OK (zV b e D A X) mX13_againstAbove 6 pc (j k)) : rx_OK (zV b e D A X) mX13_againstAbove 6 15 (vX13_againstAbove_15 j) := by
  unfold vX13_againstAbove_15
  refine s_aload_n hZ.1 dX13_againstAbove_15 rfl ?_
  refine yg13_20 dX13_againstAbove_16 zw4141 ?_
  exact s_if_ne dX13_againstAbove_19 (by decide) (wX13_againstAbove_135 hZ j hj) (wX13_againstAbove_22 hZ j hj)
noncomputable def vX13_againstAbove_2 (j : Nat → rx_K) : rx_K := o_ld rx_isI 1 (o_ld rx_isR 0 (o_getf 13 23 (o_ld rx_isR 0 (o_getf 13 19 (o_ald 0 (o_c2 rx_lt (vX13_againstAbove_15 j) (vX13_againstAbove_135 j)))))))
set_option maxRecDepth 20000 in
theorem wX13_againstAbove_2 (hZ : zO b e D A X) (j : Nat → rx_K) (hj : ∀ k pc, [2, 34, 79][k]? = some pc → rx_OK (zV b e D A X) mX13_againstAbove 6 pc (j k)) : rx_OK (zV b e D A X) mX13_againstAbove 6 2 (vX13_againstAbove_2 j) := by
  unfold vX13_againstAbove_2
  refine s_iload_n hZ.1 dX13_againstAbove_2 rfl ?_
  refine s_aload_n hZ.1 dX13_againstAbove_3 rfl ?_
  refine yg13_23 dX13_againstAbove_4 zw4144 ?_
  refine s_aload_n hZ.1 dX13_againstAbove_7 rfl ?_
  refine yg13_19 dX13_againstAbove_8 zw4140 ?_
  refine s_iald (tt := 0) rfl dX13_againstAbove_11 ?_
  exact s_icmp_ge dX13_againstAbove_12 (by decide) (wX13_againstAbove_135 hZ j hj) (wX13_againstAbove_15 hZ j hj)
noncomputable def vX13_againstAbove_0 (j : Nat → rx_K) : rx_K := o_const 0 (o_st rx_isI 1 ((vX13_againstAbove_2 j)))
set_option maxRecDepth 20000 in
theorem wX13_againstAbove_0 (hZ : zO b e D A X) (j : Nat → rx_K) (hj : ∀ k pc, [2, 34, 79][k]? = some pc → rx_OK (zV b e D A X) mX13_againstAbove 6 pc (j k)) : rx_OK (zV b e D A X) mX13_againstAbove 6 0 (vX13_againstAbove_0 j) := by
  unfold vX13_againstAbove_0
  refine s_iconst dX13_againstAbove_0 (by decide +kernel) ?_
  refine s_istore_n hZ.1 dX13_againstAbove_1 rfl (Nat.le_of_ble_eq_true rfl) ?_
  exact (wX13_againstAbove_2 hZ j hj)
noncomputable def vhX13_againstAbove (j : Nat → rx_K) : List rx_K := [vX13_againstAbove_2 j, vX13_againstAbove_34 j, vX13_againstAbove_79 j]
theorem vlX13_againstAbove (hZ : zO b e D A X) : ∀ n k pc, [2, 34, 79][k]? = some pc → rx_OK (zV b e D A X) mX13_againstAbove 6 pc (rx_J (vhX13_againstAbove) n k) := rx_loop fun j hj k pc h => by
  match k, h with
  | 0, h =>
    have e9 := Option.some.inj (show some 2 = some pc from h)
    subst e9
    exact wX13_againstAbove_2 hZ j hj
  | 1, h =>
    have e9 := Option.some.inj (show some 34 = some pc from h)
    subst e9
    exact wX13_againstAbove_34 hZ j hj
  | 2, h =>
    have e9 := Option.some.inj (show some 79 = some pc from h)
    subst e9
    exact wX13_againstAbove_79 hZ j hj
  | _ + 3, h => exact absurd h (by simp)
noncomputable def FX13_againstAbove : List Nat → rx_H → Option (Nat × rx_H) := rx_ent 6 (vX13_againstAbove_0 (rx_J (vhX13_againstAbove) 4000000000))
theorem Met_X13_againstAbove (hZ : zO b e D A X) : rx_Met (zV b e D A X) 6 yX13_againstAbove mX13_againstAbove (FX13_againstAbove) := rx_entry hZ.1 (wX13_againstAbove_0 hZ _ (vlX13_againstAbove hZ 4000000000)) (by decide +kernel) rfl (fun h => by cases h)
abbrev mX13_bridge : rx_M := (RX13, cX13_bridge, 7, (some .int), false)
theorem vy_X13_bridge : rx_Y (zV b e D A X) yX13_bridge mX13_bridge 3 := ⟨zw3304, zw431, by decide, by decide +kernel, by decide +kernel, by decide +kernel⟩
noncomputable def vX13_bridge_167 (j : Nat → rx_K) : rx_K := o_ld rx_isR 0 (o_getf 13 68 (o_ld rx_isI 5 (o_ld rx_isR 0 (o_getf 13 55 (o_ld rx_isI 2 (o_ald 0 (o_ast 0 (fun v => v) rx_isI (o_ld rx_isR 0 (o_getf 13 41 (o_ld rx_isI 1 (o_dup2 (o_ald 0 (o_const 8 (o_bi (fun x y => x + y) (o_ast 0 (fun v => v) rx_isI (o_ld rx_isI 5 (o_ret1 rx_isI)))))))))))))))))
set_option maxRecDepth 20000 in
theorem wX13_bridge_167 (hZ : zO b e D A X) (j : Nat → rx_K) (hj : ∀ k pc, [127][k]? = some pc → rx_OK (zV b e D A X) mX13_bridge 1 pc (j k)) : rx_OK (zV b e D A X) mX13_bridge 1 167 (vX13_bridge_167 j) := by
  unfold vX13_bridge_167
  refine s_aload_n hZ.1 dX13_bridge_167 rfl ?_
  refine yg13_68 dX13_bridge_168 zw4189 ?_
  refine s_iload hZ.1 dX13_bridge_171 ?_
  refine s_aload_n hZ.1 dX13_bridge_173 rfl ?_
  refine yg13_55 dX13_bridge_174 zw4176 ?_
  refine s_iload_n hZ.1 dX13_bridge_177 rfl ?_
  refine s_iald (tt := 0) rfl dX13_bridge_178 ?_
  refine s_iast hZ.1 (tt := 0) rfl dX13_bridge_179 ?_
  refine s_aload_n hZ.1 dX13_bridge_180 rfl ?_
  refine yg13_41 dX13_bridge_181 zw4162 ?_
  refine s_iload_n hZ.1 dX13_bridge_184 rfl ?_
  refine s_dup2 hZ.1 dX13_bridge_185 ?_
  refine s_iald (tt := 0) rfl dX13_bridge_186 ?_
  refine s_iconst dX13_bridge_187 (by decide +kernel) ?_
  refine s_iadd dX13_bridge_188 ?_
  refine s_iast hZ.1 (tt := 0) rfl dX13_bridge_189 ?_
  refine s_iload hZ.1 dX13_bridge_190 ?_
  exact s_iret hZ.1 rfl dX13_bridge_192
noncomputable def vX13_bridge_138 (j : Nat → rx_K) : rx_K := o_ld rx_isR 0 (o_getf 13 56 (o_const 32 (o_ld rx_isI 5 (o_bi (fun x y => x * y) (o_ld rx_isI 6 (o_bi (fun x y => x + y) (o_ld rx_isR 0 (o_getf 13 56 (o_const 32 (o_ld rx_isI 2 (o_bi (fun x y => x * y) (o_ld rx_isI 6 (o_bi (fun x y => x + y) (o_ald 1 (o_ast 1 (fun v => v) rx_isL (o_inc 6 (1) ((j 0))))))))))))))))))
set_option maxRecDepth 20000 in
theorem wX13_bridge_138 (hZ : zO b e D A X) (j : Nat → rx_K) (hj : ∀ k pc, [127][k]? = some pc → rx_OK (zV b e D A X) mX13_bridge 1 pc (j k)) : rx_OK (zV b e D A X) mX13_bridge 1 138 (vX13_bridge_138 j) := by
  unfold vX13_bridge_138
  refine s_aload_n hZ.1 dX13_bridge_138 rfl ?_
  refine yg13_56 dX13_bridge_139 zw4177 ?_
  refine s_iconst dX13_bridge_142 (by decide +kernel) ?_
  refine s_iload hZ.1 dX13_bridge_143 ?_
  refine s_imul dX13_bridge_145 ?_
  refine s_iload hZ.1 dX13_bridge_146 ?_
  refine s_iadd dX13_bridge_148 ?_
  refine s_aload_n hZ.1 dX13_bridge_149 rfl ?_
  refine yg13_56 dX13_bridge_150 zw4177 ?_
  refine s_iconst dX13_bridge_153 (by decide +kernel) ?_
  refine s_iload_n hZ.1 dX13_bridge_154 rfl ?_
  refine s_imul dX13_bridge_155 ?_
  refine s_iload hZ.1 dX13_bridge_156 ?_
  refine s_iadd dX13_bridge_158 ?_
  refine s_lald (tt := 1) rfl dX13_bridge_159 ?_
  refine s_last (tt := 1) rfl dX13_bridge_160 ?_
  refine s_iinc hZ.1 dX13_bridge_161 (Nat.le_of_ble_eq_true rfl) ?_
  exact s_goto dX13_bridge_164 (by decide) (hj 0 127 rfl)
noncomputable def vX13_bridge_127 (j : Nat → rx_K) : rx_K := o_ld rx_isI 6 (o_ld rx_isR 0 (o_getf 13 55 (o_ld rx_isI 2 (o_ald 0 (o_c2 rx_lt (vX13_bridge_138 j) (vX13_bridge_167 j))))))
set_option maxRecDepth 20000 in
theorem wX13_bridge_127 (hZ : zO b e D A X) (j : Nat → rx_K) (hj : ∀ k pc, [127][k]? = some pc → rx_OK (zV b e D A X) mX13_bridge 1 pc (j k)) : rx_OK (zV b e D A X) mX13_bridge 1 127 (vX13_bridge_127 j) := by
  unfold vX13_bridge_127
  refine s_iload hZ.1 dX13_bridge_127 ?_
  refine s_aload_n hZ.1 dX13_bridge_129 rfl ?_
  refine yg13_55 dX13_bridge_130 zw4176 ?_
  refine s_iload_n hZ.1 dX13_bridge_133 rfl ?_
  refine s_iald (tt := 0) rfl dX13_bridge_134 ?_
  exact s_icmp_ge dX13_bridge_135 (by decide) (wX13_bridge_167 hZ j hj) (wX13_bridge_138 hZ j hj)
noncomputable def vX13_bridge_117 (j : Nat → rx_K) : rx_K := o_ld rx_isR 0 (o_getf 13 55 (o_ld rx_isI 2 (o_ald 0 (o_ast 0 (fun v => v) rx_isI (o_const 0 (o_st rx_isI 6 ((vX13_bridge_127 j))))))))
set_option maxRecDepth 20000 in
theorem wX13_bridge_117 (hZ : zO b e D A X) (j : Nat → rx_K) (hj : ∀ k pc, [127][k]? = some pc → rx_OK (zV b e D A X) mX13_bridge 1 pc (j k)) : rx_OK (zV b e D A X) mX13_bridge 1 117 (vX13_bridge_117 j) := by
  unfold vX13_bridge_117
  refine s_aload_n hZ.1 dX13_bridge_117 rfl ?_
  refine yg13_55 dX13_bridge_118 zw4176 ?_
  refine s_iload_n hZ.1 dX13_bridge_121 rfl ?_
  refine s_iald (tt := 0) rfl dX13_bridge_122 ?_
  refine s_iast hZ.1 (tt := 0) rfl dX13_bridge_123 ?_
  refine s_iconst dX13_bridge_124 (by decide +kernel) ?_
  refine s_istore hZ.1 dX13_bridge_125 (Nat.le_of_ble_eq_true rfl) ?_
  exact (wX13_bridge_127 hZ j hj)
noncomputable def vX13_bridge_77 (j : Nat → rx_K) : rx_K := o_ld rx_isR 0 (o_getf 13 51 (o_ld rx_isI 5 (o_ld rx_isR 0 (o_getf 13 51 (o_ld rx_isI 2 (o_ald 1 (o_ast 1 (fun v => v) rx_isL (o_ld rx_isR 0 (o_getf 13 53 (o_ld rx_isI 5 (o_ld rx_isL 3 (o_ast 1 (fun v => v) rx_isL (o_ld rx_isR 0 (o_getf 13 66 (o_ld rx_isI 5 (o_ld rx_isR 0 (o_getf 13 53 (o_ld rx_isI 2 (o_ald 1 (o_ast 1 (fun v => v) rx_isL (o_ld rx_isR 0 (o_getf 13 55 (o_ld rx_isI 5 ((vX13_bridge_117 j)))))))))))))))))))))))))
set_option maxRecDepth 20000 in
theorem wX13_bridge_77 (hZ : zO b e D A X) (j : Nat → rx_K) (hj : ∀ k pc, [127][k]? = some pc → rx_OK (zV b e D A X) mX13_bridge 1 pc (j k)) : rx_OK (zV b e D A X) mX13_bridge 1 77 (vX13_bridge_77 j) := by
  unfold vX13_bridge_77
  refine s_aload_n hZ.1 dX13_bridge_77 rfl ?_
  refine yg13_51 dX13_bridge_78 zw4172 ?_
  refine s_iload hZ.1 dX13_bridge_81 ?_
  refine s_aload_n hZ.1 dX13_bridge_83 rfl ?_
  refine yg13_51 dX13_bridge_84 zw4172 ?_
  refine s_iload_n hZ.1 dX13_bridge_87 rfl ?_
  refine s_lald (tt := 1) rfl dX13_bridge_88 ?_
  refine s_last (tt := 1) rfl dX13_bridge_89 ?_
  refine s_aload_n hZ.1 dX13_bridge_90 rfl ?_
  refine yg13_53 dX13_bridge_91 zw4174 ?_
  refine s_iload hZ.1 dX13_bridge_94 ?_
  refine s_lload_n hZ.1 dX13_bridge_96 rfl ?_
  refine s_last (tt := 1) rfl dX13_bridge_97 ?_
  refine s_aload_n hZ.1 dX13_bridge_98 rfl ?_
  refine yg13_66 dX13_bridge_99 zw4187 ?_
  refine s_iload hZ.1 dX13_bridge_102 ?_
  refine s_aload_n hZ.1 dX13_bridge_104 rfl ?_
  refine yg13_53 dX13_bridge_105 zw4174 ?_
  refine s_iload_n hZ.1 dX13_bridge_108 rfl ?_
  refine s_lald (tt := 1) rfl dX13_bridge_109 ?_
  refine s_last (tt := 1) rfl dX13_bridge_110 ?_
  refine s_aload_n hZ.1 dX13_bridge_111 rfl ?_
  refine yg13_55 dX13_bridge_112 zw4176 ?_
  refine s_iload hZ.1 dX13_bridge_115 ?_
  exact (wX13_bridge_117 hZ j hj)
noncomputable def vX13_bridge_39 (j : Nat → rx_K) : rx_K := o_ld rx_isI 5 (o_const 0 (o_ast 0 (fun v => v) rx_isI (o_ld rx_isR 0 (o_getf 13 44 (o_ld rx_isI 5 (o_ld rx_isR 0 (o_getf 13 44 (o_ld rx_isI 2 (o_ald 0 (o_ast 0 (fun v => v) rx_isI (o_ld rx_isR 0 (o_getf 13 45 (o_ld rx_isI 5 (o_ld rx_isR 0 (o_getf 13 45 (o_ld rx_isI 2 (o_ald 3 (o_ast 3 (fun v => v) rx_isZ (o_ld rx_isR 0 (o_getf 13 47 (o_ld rx_isI 5 (o_const 0 (o_ast 3 (fun v => v) rx_isZ ((vX13_bridge_77 j)))))))))))))))))))))))))
set_option maxRecDepth 20000 in
theorem wX13_bridge_39 (hZ : zO b e D A X) (j : Nat → rx_K) (hj : ∀ k pc, [127][k]? = some pc → rx_OK (zV b e D A X) mX13_bridge 1 pc (j k)) : rx_OK (zV b e D A X) mX13_bridge 1 39 (vX13_bridge_39 j) := by
  unfold vX13_bridge_39
  refine s_iload hZ.1 dX13_bridge_39 ?_
  refine s_iconst dX13_bridge_41 (by decide +kernel) ?_
  refine s_iast hZ.1 (tt := 0) rfl dX13_bridge_42 ?_
  refine s_aload_n hZ.1 dX13_bridge_43 rfl ?_
  refine yg13_44 dX13_bridge_44 zw4165 ?_
  refine s_iload hZ.1 dX13_bridge_47 ?_
  refine s_aload_n hZ.1 dX13_bridge_49 rfl ?_
  refine yg13_44 dX13_bridge_50 zw4165 ?_
  refine s_iload_n hZ.1 dX13_bridge_53 rfl ?_
  refine s_iald (tt := 0) rfl dX13_bridge_54 ?_
  refine s_iast hZ.1 (tt := 0) rfl dX13_bridge_55 ?_
  refine s_aload_n hZ.1 dX13_bridge_56 rfl ?_
  refine yg13_45 dX13_bridge_57 zw4166 ?_
  refine s_iload hZ.1 dX13_bridge_60 ?_
  refine s_aload_n hZ.1 dX13_bridge_62 rfl ?_
  refine yg13_45 dX13_bridge_63 zw4166 ?_
  refine s_iload_n hZ.1 dX13_bridge_66 rfl ?_
  refine s_zald (tt := 3) rfl dX13_bridge_67 ?_
  refine s_zast (tt := 3) rfl dX13_bridge_68 ?_
  refine s_aload_n hZ.1 dX13_bridge_69 rfl ?_
  refine yg13_47 dX13_bridge_70 zw4168 ?_
  refine s_iload hZ.1 dX13_bridge_73 ?_
  refine s_iconst dX13_bridge_75 (by decide +kernel) ?_
  refine s_zast (tt := 3) rfl dX13_bridge_76 ?_
  exact (wX13_bridge_77 hZ j hj)
noncomputable def vX13_bridge_0 (j : Nat → rx_K) : rx_K := o_ld rx_isI 1 (o_const 272 (o_bi (fun x y => x * y) (o_ld rx_isR 0 (o_getf 13 41 (o_ld rx_isI 1 (o_ald 0 (o_bi (fun x y => x + y) (o_st rx_isI 5 (o_ld rx_isR 0 (o_ld rx_isI 5 (o_callV 1 13 FX13_newMember (o_ld rx_isR 0 (o_getf 13 42 (o_ld rx_isI 5 (o_const 8 (o_ast 0 (fun v => v) rx_isI (o_ld rx_isR 0 (o_getf 13 49 (o_ld rx_isI 5 (o_const 8 (o_ast 3 (fun v => v) rx_isZ (o_ld rx_isR 0 (o_getf 13 43 ((vX13_bridge_39 j)))))))))))))))))))))))))
set_option maxRecDepth 20000 in
theorem wX13_bridge_0 (hZ : zO b e D A X) (j : Nat → rx_K) (hj : ∀ k pc, [127][k]? = some pc → rx_OK (zV b e D A X) mX13_bridge 1 pc (j k)) : rx_OK (zV b e D A X) mX13_bridge 1 0 (vX13_bridge_0 j) := by
  unfold vX13_bridge_0
  refine s_iload_n hZ.1 dX13_bridge_0 rfl ?_
  refine s_bipush dX13_bridge_1 (by decide +kernel) ?_
  refine s_imul dX13_bridge_3 ?_
  refine s_aload_n hZ.1 dX13_bridge_4 rfl ?_
  refine yg13_41 dX13_bridge_5 zw4162 ?_
  refine s_iload_n hZ.1 dX13_bridge_8 rfl ?_
  refine s_iald (tt := 0) rfl dX13_bridge_9 ?_
  refine s_iadd dX13_bridge_10 ?_
  refine s_istore hZ.1 dX13_bridge_11 (Nat.le_of_ble_eq_true rfl) ?_
  refine s_aload_n hZ.1 dX13_bridge_13 rfl ?_
  refine s_iload hZ.1 dX13_bridge_14 ?_
  refine s_callV hZ.1 (Met_X13_newMember hZ) (Nat.le_of_ble_eq_true rfl) vy_X13_newMember zcl13 zw3056 zw199 (Or.inl zw3054) dX13_bridge_16 ?_
  refine s_aload_n hZ.1 dX13_bridge_19 rfl ?_
  refine yg13_42 dX13_bridge_20 zw4163 ?_
  refine s_iload hZ.1 dX13_bridge_23 ?_
  refine s_iconst dX13_bridge_25 (by decide +kernel) ?_
  refine s_iast hZ.1 (tt := 0) rfl dX13_bridge_26 ?_
  refine s_aload_n hZ.1 dX13_bridge_27 rfl ?_
  refine yg13_49 dX13_bridge_28 zw4170 ?_
  refine s_iload hZ.1 dX13_bridge_31 ?_
  refine s_iconst dX13_bridge_33 (by decide +kernel) ?_
  refine s_zast (tt := 3) rfl dX13_bridge_34 ?_
  refine s_aload_n hZ.1 dX13_bridge_35 rfl ?_
  refine yg13_43 dX13_bridge_36 zw4164 ?_
  exact (wX13_bridge_39 hZ j hj)
noncomputable def vhX13_bridge (j : Nat → rx_K) : List rx_K := [vX13_bridge_127 j]
theorem vlX13_bridge (hZ : zO b e D A X) : ∀ n k pc, [127][k]? = some pc → rx_OK (zV b e D A X) mX13_bridge 1 pc (rx_J (vhX13_bridge) n k) := rx_loop fun j hj k pc h => by
  match k, h with
  | 0, h =>
    have e9 := Option.some.inj (show some 127 = some pc from h)
    subst e9
    exact wX13_bridge_127 hZ j hj
  | _ + 1, h => exact absurd h (by simp)
noncomputable def FX13_bridge : List Nat → rx_H → Option (Nat × rx_H) := rx_ent 7 (vX13_bridge_0 (rx_J (vhX13_bridge) 4000000000))
theorem Met_X13_bridge (hZ : zO b e D A X) : rx_Met (zV b e D A X) 1 yX13_bridge mX13_bridge (FX13_bridge) := rx_entry hZ.1 (wX13_bridge_0 hZ _ (vlX13_bridge hZ 4000000000)) (by decide +kernel) rfl (fun h => by cases h)
abbrev mX13_hasBridge : rx_M := (RX13, cX13_hasBridge, 6, (some .boolean), false)
theorem vy_X13_hasBridge : rx_Y (zV b e D A X) yX13_hasBridge mX13_hasBridge 3 := ⟨zw3296, zw431, by decide, by decide +kernel, by decide +kernel, by decide +kernel⟩
noncomputable def vX13_hasBridge_50 (j : Nat → rx_K) : rx_K := o_ld rx_isI 4 (o_ret1 rx_isZ)
set_option maxRecDepth 20000 in
theorem wX13_hasBridge_50 (hZ : zO b e D A X) (j : Nat → rx_K) (hj : ∀ k pc, [6][k]? = some pc → rx_OK (zV b e D A X) mX13_hasBridge 2 pc (j k)) : rx_OK (zV b e D A X) mX13_hasBridge 2 50 (vX13_hasBridge_50 j) := by
  unfold vX13_hasBridge_50
  refine s_iload hZ.1 dX13_hasBridge_50 ?_
  exact s_zret rx_z_ok rfl dX13_hasBridge_52
noncomputable def vX13_hasBridge_42 (j : Nat → rx_K) : rx_K := o_st rx_isI 4 (o_inc 5 (1) ((j 0)))
set_option maxRecDepth 20000 in
theorem wX13_hasBridge_42 (hZ : zO b e D A X) (j : Nat → rx_K) (hj : ∀ k pc, [6][k]? = some pc → rx_OK (zV b e D A X) mX13_hasBridge 2 pc (j k)) : rx_OK (zV b e D A X) mX13_hasBridge 2 42 (vX13_hasBridge_42 j) := by
  unfold vX13_hasBridge_42
  refine s_istore hZ.1 dX13_hasBridge_42 (Nat.le_of_ble_eq_true rfl) ?_
  refine s_iinc hZ.1 dX13_hasBridge_44 (Nat.le_of_ble_eq_true rfl) ?_
  exact s_goto dX13_hasBridge_47 (by decide) (hj 0 6 rfl)
noncomputable def vX13_hasBridge_41 (j : Nat → rx_K) : rx_K := o_const 0 ((vX13_hasBridge_42 j))
set_option maxRecDepth 20000 in
theorem wX13_hasBridge_41 (hZ : zO b e D A X) (j : Nat → rx_K) (hj : ∀ k pc, [6][k]? = some pc → rx_OK (zV b e D A X) mX13_hasBridge 2 pc (j k)) : rx_OK (zV b e D A X) mX13_hasBridge 2 41 (vX13_hasBridge_41 j) := by
  unfold vX13_hasBridge_41
  refine s_iconst dX13_hasBridge_41 (by decide +kernel) ?_
  exact (wX13_hasBridge_42 hZ j hj)
noncomputable def vX13_hasBridge_37 (j : Nat → rx_K) : rx_K := o_const 8 ((vX13_hasBridge_42 j))
set_option maxRecDepth 20000 in
theorem wX13_hasBridge_37 (hZ : zO b e D A X) (j : Nat → rx_K) (hj : ∀ k pc, [6][k]? = some pc → rx_OK (zV b e D A X) mX13_hasBridge 2 pc (j k)) : rx_OK (zV b e D A X) mX13_hasBridge 2 37 (vX13_hasBridge_37 j) := by
  unfold vX13_hasBridge_37
  refine s_iconst dX13_hasBridge_37 (by decide +kernel) ?_
  exact s_goto dX13_hasBridge_38 (by decide) (wX13_hasBridge_42 hZ j hj)
noncomputable def vX13_hasBridge_22 (j : Nat → rx_K) : rx_K := o_ld rx_isR 0 (o_ld rx_isI 1 (o_const 272 (o_bi (fun x y => x * y) (o_ld rx_isI 5 (o_bi (fun x y => x + y) (o_ld rx_isI 3 (o_callV 2 13 FX13_sameSign (o_c1 rx_eq (vX13_hasBridge_41 j) (vX13_hasBridge_37 j)))))))))
set_option maxRecDepth 20000 in
theorem wX13_hasBridge_22 (hZ : zO b e D A X) (j : Nat → rx_K) (hj : ∀ k pc, [6][k]? = some pc → rx_OK (zV b e D A X) mX13_hasBridge 2 pc (j k)) : rx_OK (zV b e D A X) mX13_hasBridge 2 22 (vX13_hasBridge_22 j) := by
  unfold vX13_hasBridge_22
  refine s_aload_n hZ.1 dX13_hasBridge_22 rfl ?_
  refine s_iload_n hZ.1 dX13_hasBridge_23 rfl ?_
  refine s_bipush dX13_hasBridge_24 (by decide +kernel) ?_
  refine s_imul dX13_hasBridge_26 ?_
  refine s_iload hZ.1 dX13_hasBridge_27 ?_
  refine s_iadd dX13_hasBridge_29 ?_
  refine s_iload_n hZ.1 dX13_hasBridge_30 rfl ?_
  refine s_callV hZ.1 (Met_X13_sameSign hZ) (Nat.le_of_ble_eq_true rfl) vy_X13_sameSign zcl13 zw3299 zw251 (Or.inl zw3297) dX13_hasBridge_31 ?_
  exact s_if_eq dX13_hasBridge_34 (by decide) (wX13_hasBridge_41 hZ j hj) (wX13_hasBridge_37 hZ j hj)
noncomputable def vX13_hasBridge_17 (j : Nat → rx_K) : rx_K := o_ld rx_isI 4 (o_c1 rx_eq (vX13_hasBridge_22 j) (vX13_hasBridge_37 j))
set_option maxRecDepth 20000 in
theorem wX13_hasBridge_17 (hZ : zO b e D A X) (j : Nat → rx_K) (hj : ∀ k pc, [6][k]? = some pc → rx_OK (zV b e D A X) mX13_hasBridge 2 pc (j k)) : rx_OK (zV b e D A X) mX13_hasBridge 2 17 (vX13_hasBridge_17 j) := by
  unfold vX13_hasBridge_17
  refine s_iload hZ.1 dX13_hasBridge_17 ?_
  exact s_if_ne dX13_hasBridge_19 (by decide) (wX13_hasBridge_37 hZ j hj) (wX13_hasBridge_22 hZ j hj)
noncomputable def vX13_hasBridge_6 (j : Nat → rx_K) : rx_K := o_ld rx_isI 5 (o_ld rx_isR 0 (o_getf 13 41 (o_ld rx_isI 1 (o_ald 0 (o_c2 rx_lt (vX13_hasBridge_17 j) (vX13_hasBridge_50 j))))))
set_option maxRecDepth 20000 in
theorem wX13_hasBridge_6 (hZ : zO b e D A X) (j : Nat → rx_K) (hj : ∀ k pc, [6][k]? = some pc → rx_OK (zV b e D A X) mX13_hasBridge 2 pc (j k)) : rx_OK (zV b e D A X) mX13_hasBridge 2 6 (vX13_hasBridge_6 j) := by
  unfold vX13_hasBridge_6
  refine s_iload hZ.1 dX13_hasBridge_6 ?_
  refine s_aload_n hZ.1 dX13_hasBridge_8 rfl ?_
  refine yg13_41 dX13_hasBridge_9 zw4162 ?_
  refine s_iload_n hZ.1 dX13_hasBridge_12 rfl ?_
  refine s_iald (tt := 0) rfl dX13_hasBridge_13 ?_
  exact s_icmp_ge dX13_hasBridge_14 (by decide) (wX13_hasBridge_50 hZ j hj) (wX13_hasBridge_17 hZ j hj)
noncomputable def vX13_hasBridge_0 (j : Nat → rx_K) : rx_K := o_const 0 (o_st rx_isI 4 (o_ld rx_isI 2 (o_st rx_isI 5 ((vX13_hasBridge_6 j)))))
set_option maxRecDepth 20000 in
theorem wX13_hasBridge_0 (hZ : zO b e D A X) (j : Nat → rx_K) (hj : ∀ k pc, [6][k]? = some pc → rx_OK (zV b e D A X) mX13_hasBridge 2 pc (j k)) : rx_OK (zV b e D A X) mX13_hasBridge 2 0 (vX13_hasBridge_0 j) := by
  unfold vX13_hasBridge_0
  refine s_iconst dX13_hasBridge_0 (by decide +kernel) ?_
  refine s_istore hZ.1 dX13_hasBridge_1 (Nat.le_of_ble_eq_true rfl) ?_
  refine s_iload_n hZ.1 dX13_hasBridge_3 rfl ?_
  refine s_istore hZ.1 dX13_hasBridge_4 (Nat.le_of_ble_eq_true rfl) ?_
  exact (wX13_hasBridge_6 hZ j hj)
noncomputable def vhX13_hasBridge (j : Nat → rx_K) : List rx_K := [vX13_hasBridge_6 j]
theorem vlX13_hasBridge (hZ : zO b e D A X) : ∀ n k pc, [6][k]? = some pc → rx_OK (zV b e D A X) mX13_hasBridge 2 pc (rx_J (vhX13_hasBridge) n k) := rx_loop fun j hj k pc h => by
  match k, h with
  | 0, h =>
    have e9 := Option.some.inj (show some 6 = some pc from h)
    subst e9
    exact wX13_hasBridge_6 hZ j hj
  | _ + 1, h => exact absurd h (by simp)
noncomputable def FX13_hasBridge : List Nat → rx_H → Option (Nat × rx_H) := rx_ent 6 (vX13_hasBridge_0 (rx_J (vhX13_hasBridge) 4000000000))
theorem Met_X13_hasBridge (hZ : zO b e D A X) : rx_Met (zV b e D A X) 2 yX13_hasBridge mX13_hasBridge (FX13_hasBridge) := rx_entry hZ.1 (wX13_hasBridge_0 hZ _ (vlX13_hasBridge hZ 4000000000)) (by decide +kernel) rfl (fun h => by cases h)
end ZM49

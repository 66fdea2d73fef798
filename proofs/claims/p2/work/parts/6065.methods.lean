section ZM65
variable {b : Nat} {e : Nat → Value} {D : va_G} {A : Nat → ClassId} {X : State → Prop}
noncomputable def vX13_exec_313 (g : Nat → List Nat → rx_H → Option (Nat × rx_H)) (j : Nat → rx_K) : rx_K := o_ret0
set_option maxRecDepth 20000 in
theorem wX13_exec_313 {dn : Nat} {g : Nat → List Nat → rx_H → Option (Nat × rx_H)} (hZ : zO b e D A X) (hg : ∀ i y M, vl19[i]? = some (y, M) → rx_Met (zV b e D A X) dn y M (g i)) (hd : 333 ≤ dn) (j : Nat → rx_K) (hj : ∀ k pc, [76, 215][k]? = some pc → rx_OK (zV b e D A X) mX13_exec (dn + 1) pc (j k)) : rx_OK (zV b e D A X) mX13_exec (dn + 1) 313 (vX13_exec_313 g j) := by
  unfold vX13_exec_313
  exact s_vret rfl dX13_exec_313
noncomputable def vX13_exec_304 (g : Nat → List Nat → rx_H → Option (Nat × rx_H)) (j : Nat → rx_K) : rx_K := o_ld rx_isR 0 (o_ld rx_isI 1 (o_ld rx_isI 2 (o_ld rx_isI 3 (o_ld rx_isI 4 (o_callV 4 13 (g 9) ((vX13_exec_313 g j)))))))
set_option maxRecDepth 20000 in
theorem wX13_exec_304 {dn : Nat} {g : Nat → List Nat → rx_H → Option (Nat × rx_H)} (hZ : zO b e D A X) (hg : ∀ i y M, vl19[i]? = some (y, M) → rx_Met (zV b e D A X) dn y M (g i)) (hd : 333 ≤ dn) (j : Nat → rx_K) (hj : ∀ k pc, [76, 215][k]? = some pc → rx_OK (zV b e D A X) mX13_exec (dn + 1) pc (j k)) : rx_OK (zV b e D A X) mX13_exec (dn + 1) 304 (vX13_exec_304 g j) := by
  unfold vX13_exec_304
  refine s_aload_n hZ.1 dX13_exec_304 rfl ?_
  refine s_iload_n hZ.1 dX13_exec_305 rfl ?_
  refine s_iload_n hZ.1 dX13_exec_306 rfl ?_
  refine s_iload_n hZ.1 dX13_exec_307 rfl ?_
  refine s_iload hZ.1 dX13_exec_308 ?_
  refine s_callV hZ.1 (hg 9 _ _ rfl) (Nat.le_refl _) vy_X13_execOther zcl13 zw3932 zw380 (Or.inl zw3930) dX13_exec_310 ?_
  exact (wX13_exec_313 hZ hg hd j hj)
noncomputable def vX13_exec_292 (g : Nat → List Nat → rx_H → Option (Nat × rx_H)) (j : Nat → rx_K) : rx_K := o_ld rx_isR 0 (o_ld rx_isI 1 (o_ld rx_isI 2 (o_ld rx_isI 3 (o_ld rx_isI 4 (o_callV 4 13 (g 2) ((vX13_exec_313 g j)))))))
set_option maxRecDepth 20000 in
theorem wX13_exec_292 {dn : Nat} {g : Nat → List Nat → rx_H → Option (Nat × rx_H)} (hZ : zO b e D A X) (hg : ∀ i y M, vl19[i]? = some (y, M) → rx_Met (zV b e D A X) dn y M (g i)) (hd : 333 ≤ dn) (j : Nat → rx_K) (hj : ∀ k pc, [76, 215][k]? = some pc → rx_OK (zV b e D A X) mX13_exec (dn + 1) pc (j k)) : rx_OK (zV b e D A X) mX13_exec (dn + 1) 292 (vX13_exec_292 g j) := by
  unfold vX13_exec_292
  refine s_aload_n hZ.1 dX13_exec_292 rfl ?_
  refine s_iload_n hZ.1 dX13_exec_293 rfl ?_
  refine s_iload_n hZ.1 dX13_exec_294 rfl ?_
  refine s_iload_n hZ.1 dX13_exec_295 rfl ?_
  refine s_iload hZ.1 dX13_exec_296 ?_
  refine s_callV hZ.1 (hg 2 _ _ rfl) (Nat.le_refl _) vy_X13_caught zcl13 zw3928 zw379 (Or.inl zw3926) dX13_exec_298 ?_
  exact s_goto dX13_exec_301 (by decide) (wX13_exec_313 hZ hg hd j hj)
noncomputable def vX13_exec_270 (g : Nat → List Nat → rx_H → Option (Nat × rx_H)) (j : Nat → rx_K) : rx_K := o_ld rx_isR 0 (o_ld rx_isR 0 (o_getf 13 77 (o_ld rx_isI 1 (o_ald 0 (o_ld rx_isI 2 (o_ld rx_isI 3 (o_ld rx_isI 4 (o_callV 4 13 (g 8) (o_ld rx_isR 0 (o_getf 13 164 (o_const 16 (o_c2 rx_eq (vX13_exec_292 g j) (vX13_exec_313 g j)))))))))))))
set_option maxRecDepth 20000 in
theorem wX13_exec_270 {dn : Nat} {g : Nat → List Nat → rx_H → Option (Nat × rx_H)} (hZ : zO b e D A X) (hg : ∀ i y M, vl19[i]? = some (y, M) → rx_Met (zV b e D A X) dn y M (g i)) (hd : 333 ≤ dn) (j : Nat → rx_K) (hj : ∀ k pc, [76, 215][k]? = some pc → rx_OK (zV b e D A X) mX13_exec (dn + 1) pc (j k)) : rx_OK (zV b e D A X) mX13_exec (dn + 1) 270 (vX13_exec_270 g j) := by
  unfold vX13_exec_270
  refine s_aload_n hZ.1 dX13_exec_270 rfl ?_
  refine s_aload_n hZ.1 dX13_exec_271 rfl ?_
  refine yg13_77 dX13_exec_272 zw4198 ?_
  refine s_iload_n hZ.1 dX13_exec_275 rfl ?_
  refine s_iald (tt := 0) rfl dX13_exec_276 ?_
  refine s_iload_n hZ.1 dX13_exec_277 rfl ?_
  refine s_iload_n hZ.1 dX13_exec_278 rfl ?_
  refine s_iload hZ.1 dX13_exec_279 ?_
  refine s_callV hZ.1 (hg 8 _ _ rfl) (Nat.le_refl _) vy_X13_exec zcl13 zw3924 zw378 (Or.inl zw3922) dX13_exec_281 ?_
  refine s_aload_n hZ.1 dX13_exec_284 rfl ?_
  refine yg13_164 dX13_exec_285 zw4284 ?_
  refine s_iconst dX13_exec_288 (by decide +kernel) ?_
  exact s_icmp_ne dX13_exec_289 (by decide) (wX13_exec_313 hZ hg hd j hj) (wX13_exec_292 hZ hg hd j hj)
noncomputable def vX13_exec_253 (g : Nat → List Nat → rx_H → Option (Nat × rx_H)) (j : Nat → rx_K) : rx_K := o_ld rx_isR 0 (o_ld rx_isR 0 (o_getf 13 78 (o_ld rx_isI 1 (o_ald 0 (o_ld rx_isI 2 (o_ld rx_isI 3 (o_ld rx_isI 4 (o_callV 4 13 (g 8) ((j 1))))))))))
set_option maxRecDepth 20000 in
theorem wX13_exec_253 {dn : Nat} {g : Nat → List Nat → rx_H → Option (Nat × rx_H)} (hZ : zO b e D A X) (hg : ∀ i y M, vl19[i]? = some (y, M) → rx_Met (zV b e D A X) dn y M (g i)) (hd : 333 ≤ dn) (j : Nat → rx_K) (hj : ∀ k pc, [76, 215][k]? = some pc → rx_OK (zV b e D A X) mX13_exec (dn + 1) pc (j k)) : rx_OK (zV b e D A X) mX13_exec (dn + 1) 253 (vX13_exec_253 g j) := by
  unfold vX13_exec_253
  refine s_aload_n hZ.1 dX13_exec_253 rfl ?_
  refine s_aload_n hZ.1 dX13_exec_254 rfl ?_
  refine yg13_78 dX13_exec_255 zw4199 ?_
  refine s_iload_n hZ.1 dX13_exec_258 rfl ?_
  refine s_iald (tt := 0) rfl dX13_exec_259 ?_
  refine s_iload_n hZ.1 dX13_exec_260 rfl ?_
  refine s_iload_n hZ.1 dX13_exec_261 rfl ?_
  refine s_iload hZ.1 dX13_exec_262 ?_
  refine s_callV hZ.1 (hg 8 _ _ rfl) (Nat.le_refl _) vy_X13_exec zcl13 zw3924 zw378 (Or.inl zw3922) dX13_exec_264 ?_
  exact s_goto dX13_exec_267 (by decide) (hj 1 215 rfl)
noncomputable def vX13_exec_246 (g : Nat → List Nat → rx_H → Option (Nat × rx_H)) (j : Nat → rx_K) : rx_K := o_ld rx_isR 0 (o_getf 13 164 (o_c1 rx_eq (vX13_exec_253 g j) (vX13_exec_313 g j)))
set_option maxRecDepth 20000 in
theorem wX13_exec_246 {dn : Nat} {g : Nat → List Nat → rx_H → Option (Nat × rx_H)} (hZ : zO b e D A X) (hg : ∀ i y M, vl19[i]? = some (y, M) → rx_Met (zV b e D A X) dn y M (g i)) (hd : 333 ≤ dn) (j : Nat → rx_K) (hj : ∀ k pc, [76, 215][k]? = some pc → rx_OK (zV b e D A X) mX13_exec (dn + 1) pc (j k)) : rx_OK (zV b e D A X) mX13_exec (dn + 1) 246 (vX13_exec_246 g j) := by
  unfold vX13_exec_246
  refine s_aload_n hZ.1 dX13_exec_246 rfl ?_
  refine yg13_164 dX13_exec_247 zw4284 ?_
  exact s_if_ne dX13_exec_250 (by decide) (wX13_exec_313 hZ hg hd j hj) (wX13_exec_253 hZ hg hd j hj)
noncomputable def vX13_exec_229 (g : Nat → List Nat → rx_H → Option (Nat × rx_H)) (j : Nat → rx_K) : rx_K := o_ld rx_isR 0 (o_ld rx_isR 0 (o_getf 13 77 (o_ld rx_isI 1 (o_ald 0 (o_ld rx_isI 2 (o_ld rx_isI 3 (o_ld rx_isI 4 (o_callV 4 13 (g 3) (o_c1 rx_eq (vX13_exec_313 g j) (vX13_exec_246 g j))))))))))
set_option maxRecDepth 20000 in
theorem wX13_exec_229 {dn : Nat} {g : Nat → List Nat → rx_H → Option (Nat × rx_H)} (hZ : zO b e D A X) (hg : ∀ i y M, vl19[i]? = some (y, M) → rx_Met (zV b e D A X) dn y M (g i)) (hd : 333 ≤ dn) (j : Nat → rx_K) (hj : ∀ k pc, [76, 215][k]? = some pc → rx_OK (zV b e D A X) mX13_exec (dn + 1) pc (j k)) : rx_OK (zV b e D A X) mX13_exec (dn + 1) 229 (vX13_exec_229 g j) := by
  unfold vX13_exec_229
  refine s_aload_n hZ.1 dX13_exec_229 rfl ?_
  refine s_aload_n hZ.1 dX13_exec_230 rfl ?_
  refine yg13_77 dX13_exec_231 zw4198 ?_
  refine s_iload_n hZ.1 dX13_exec_234 rfl ?_
  refine s_iald (tt := 0) rfl dX13_exec_235 ?_
  refine s_iload_n hZ.1 dX13_exec_236 rfl ?_
  refine s_iload_n hZ.1 dX13_exec_237 rfl ?_
  refine s_iload hZ.1 dX13_exec_238 ?_
  refine s_callV hZ.1 (hg 3 _ _ rfl) (Nat.le_refl _) vy_X13_eval zcl13 zw3852 zw360 (Or.inl zw3850) dX13_exec_240 ?_
  exact s_if_eq dX13_exec_243 (by decide) (wX13_exec_313 hZ hg hd j hj) (wX13_exec_246 hZ hg hd j hj)
noncomputable def vX13_exec_222 (g : Nat → List Nat → rx_H → Option (Nat × rx_H)) (j : Nat → rx_K) : rx_K := o_ld rx_isR 0 (o_callV 0 13 FX13_steps (o_c1 rx_eq (vX13_exec_313 g j) (vX13_exec_229 g j)))
set_option maxRecDepth 20000 in
theorem wX13_exec_222 {dn : Nat} {g : Nat → List Nat → rx_H → Option (Nat × rx_H)} (hZ : zO b e D A X) (hg : ∀ i y M, vl19[i]? = some (y, M) → rx_Met (zV b e D A X) dn y M (g i)) (hd : 333 ≤ dn) (j : Nat → rx_K) (hj : ∀ k pc, [76, 215][k]? = some pc → rx_OK (zV b e D A X) mX13_exec (dn + 1) pc (j k)) : rx_OK (zV b e D A X) mX13_exec (dn + 1) 222 (vX13_exec_222 g j) := by
  unfold vX13_exec_222
  refine s_aload_n hZ.1 dX13_exec_222 rfl ?_
  refine s_callV hZ.1 (Met_X13_steps hZ) (Nat.succ_le_succ (Nat.le_trans (Nat.le_of_ble_eq_true rfl) hd)) vy_X13_steps zcl13 zw3908 zw374 (Or.inl zw3906) dX13_exec_223 ?_
  exact s_if_eq dX13_exec_226 (by decide) (wX13_exec_313 hZ hg hd j hj) (wX13_exec_229 hZ hg hd j hj)
noncomputable def vX13_exec_215 (g : Nat → List Nat → rx_H → Option (Nat × rx_H)) (j : Nat → rx_K) : rx_K := o_ld rx_isR 0 (o_getf 13 164 (o_c1 rx_eq (vX13_exec_222 g j) (vX13_exec_313 g j)))
set_option maxRecDepth 20000 in
theorem wX13_exec_215 {dn : Nat} {g : Nat → List Nat → rx_H → Option (Nat × rx_H)} (hZ : zO b e D A X) (hg : ∀ i y M, vl19[i]? = some (y, M) → rx_Met (zV b e D A X) dn y M (g i)) (hd : 333 ≤ dn) (j : Nat → rx_K) (hj : ∀ k pc, [76, 215][k]? = some pc → rx_OK (zV b e D A X) mX13_exec (dn + 1) pc (j k)) : rx_OK (zV b e D A X) mX13_exec (dn + 1) 215 (vX13_exec_215 g j) := by
  unfold vX13_exec_215
  refine s_aload_n hZ.1 dX13_exec_215 rfl ?_
  refine yg13_164 dX13_exec_216 zw4284 ?_
  exact s_if_ne dX13_exec_219 (by decide) (wX13_exec_313 hZ hg hd j hj) (wX13_exec_222 hZ hg hd j hj)
noncomputable def vX13_exec_202 (g : Nat → List Nat → rx_H → Option (Nat × rx_H)) (j : Nat → rx_K) : rx_K := o_ld rx_isR 0 (o_ld rx_isI 6 (o_ld rx_isI 2 (o_ld rx_isI 3 (o_ld rx_isI 4 (o_callV 4 13 (g 8) ((vX13_exec_313 g j)))))))
set_option maxRecDepth 20000 in
theorem wX13_exec_202 {dn : Nat} {g : Nat → List Nat → rx_H → Option (Nat × rx_H)} (hZ : zO b e D A X) (hg : ∀ i y M, vl19[i]? = some (y, M) → rx_Met (zV b e D A X) dn y M (g i)) (hd : 333 ≤ dn) (j : Nat → rx_K) (hj : ∀ k pc, [76, 215][k]? = some pc → rx_OK (zV b e D A X) mX13_exec (dn + 1) pc (j k)) : rx_OK (zV b e D A X) mX13_exec (dn + 1) 202 (vX13_exec_202 g j) := by
  unfold vX13_exec_202
  refine s_aload_n hZ.1 dX13_exec_202 rfl ?_
  refine s_iload hZ.1 dX13_exec_203 ?_
  refine s_iload_n hZ.1 dX13_exec_205 rfl ?_
  refine s_iload_n hZ.1 dX13_exec_206 rfl ?_
  refine s_iload hZ.1 dX13_exec_207 ?_
  refine s_callV hZ.1 (hg 8 _ _ rfl) (Nat.le_refl _) vy_X13_exec zcl13 zw3924 zw378 (Or.inl zw3922) dX13_exec_209 ?_
  exact s_goto dX13_exec_212 (by decide) (wX13_exec_313 hZ hg hd j hj)
noncomputable def vX13_exec_195 (g : Nat → List Nat → rx_H → Option (Nat × rx_H)) (j : Nat → rx_K) : rx_K := o_ld rx_isI 6 (o_const 34359738352 (o_c2 rx_eq (vX13_exec_313 g j) (vX13_exec_202 g j)))
set_option maxRecDepth 20000 in
theorem wX13_exec_195 {dn : Nat} {g : Nat → List Nat → rx_H → Option (Nat × rx_H)} (hZ : zO b e D A X) (hg : ∀ i y M, vl19[i]? = some (y, M) → rx_Met (zV b e D A X) dn y M (g i)) (hd : 333 ≤ dn) (j : Nat → rx_K) (hj : ∀ k pc, [76, 215][k]? = some pc → rx_OK (zV b e D A X) mX13_exec (dn + 1) pc (j k)) : rx_OK (zV b e D A X) mX13_exec (dn + 1) 195 (vX13_exec_195 g j) := by
  unfold vX13_exec_195
  refine s_iload hZ.1 dX13_exec_195 ?_
  refine s_bipush dX13_exec_197 (by decide +kernel) ?_
  exact s_icmp_eq dX13_exec_199 (by decide) (wX13_exec_313 hZ hg hd j hj) (wX13_exec_202 hZ hg hd j hj)
noncomputable def vX13_exec_186 (g : Nat → List Nat → rx_H → Option (Nat × rx_H)) (j : Nat → rx_K) : rx_K := o_st rx_isI 6 (o_ld rx_isR 0 (o_getf 13 164 (o_c1 rx_eq (vX13_exec_195 g j) (vX13_exec_313 g j))))
set_option maxRecDepth 20000 in
theorem wX13_exec_186 {dn : Nat} {g : Nat → List Nat → rx_H → Option (Nat × rx_H)} (hZ : zO b e D A X) (hg : ∀ i y M, vl19[i]? = some (y, M) → rx_Met (zV b e D A X) dn y M (g i)) (hd : 333 ≤ dn) (j : Nat → rx_K) (hj : ∀ k pc, [76, 215][k]? = some pc → rx_OK (zV b e D A X) mX13_exec (dn + 1) pc (j k)) : rx_OK (zV b e D A X) mX13_exec (dn + 1) 186 (vX13_exec_186 g j) := by
  unfold vX13_exec_186
  refine s_istore hZ.1 dX13_exec_186 (Nat.le_of_ble_eq_true rfl) ?_
  refine s_aload_n hZ.1 dX13_exec_188 rfl ?_
  refine yg13_164 dX13_exec_189 zw4284 ?_
  exact s_if_ne dX13_exec_192 (by decide) (wX13_exec_313 hZ hg hd j hj) (wX13_exec_195 hZ hg hd j hj)
noncomputable def vX13_exec_180 (g : Nat → List Nat → rx_H → Option (Nat × rx_H)) (j : Nat → rx_K) : rx_K := o_ld rx_isR 0 (o_getf 13 79 (o_ld rx_isI 1 (o_ald 0 ((vX13_exec_186 g j)))))
set_option maxRecDepth 20000 in
theorem wX13_exec_180 {dn : Nat} {g : Nat → List Nat → rx_H → Option (Nat × rx_H)} (hZ : zO b e D A X) (hg : ∀ i y M, vl19[i]? = some (y, M) → rx_Met (zV b e D A X) dn y M (g i)) (hd : 333 ≤ dn) (j : Nat → rx_K) (hj : ∀ k pc, [76, 215][k]? = some pc → rx_OK (zV b e D A X) mX13_exec (dn + 1) pc (j k)) : rx_OK (zV b e D A X) mX13_exec (dn + 1) 180 (vX13_exec_180 g j) := by
  unfold vX13_exec_180
  refine s_aload_n hZ.1 dX13_exec_180 rfl ?_
  refine yg13_79 dX13_exec_181 zw4200 ?_
  refine s_iload_n hZ.1 dX13_exec_184 rfl ?_
  refine s_iald (tt := 0) rfl dX13_exec_185 ?_
  exact (wX13_exec_186 hZ hg hd j hj)
noncomputable def vX13_exec_171 (g : Nat → List Nat → rx_H → Option (Nat × rx_H)) (j : Nat → rx_K) : rx_K := o_ld rx_isR 0 (o_getf 13 78 (o_ld rx_isI 1 (o_ald 0 ((vX13_exec_186 g j)))))
set_option maxRecDepth 20000 in
theorem wX13_exec_171 {dn : Nat} {g : Nat → List Nat → rx_H → Option (Nat × rx_H)} (hZ : zO b e D A X) (hg : ∀ i y M, vl19[i]? = some (y, M) → rx_Met (zV b e D A X) dn y M (g i)) (hd : 333 ≤ dn) (j : Nat → rx_K) (hj : ∀ k pc, [76, 215][k]? = some pc → rx_OK (zV b e D A X) mX13_exec (dn + 1) pc (j k)) : rx_OK (zV b e D A X) mX13_exec (dn + 1) 171 (vX13_exec_171 g j) := by
  unfold vX13_exec_171
  refine s_aload_n hZ.1 dX13_exec_171 rfl ?_
  refine yg13_78 dX13_exec_172 zw4199 ?_
  refine s_iload_n hZ.1 dX13_exec_175 rfl ?_
  refine s_iald (tt := 0) rfl dX13_exec_176 ?_
  exact s_goto dX13_exec_177 (by decide) (wX13_exec_186 hZ hg hd j hj)
noncomputable def vX13_exec_150 (g : Nat → List Nat → rx_H → Option (Nat × rx_H)) (j : Nat → rx_K) : rx_K := o_ld rx_isR 0 (o_ld rx_isR 0 (o_getf 13 77 (o_ld rx_isI 1 (o_ald 0 (o_ld rx_isI 2 (o_ld rx_isI 3 (o_ld rx_isI 4 (o_callV 4 13 (g 3) (o_st rx_isI 5 (o_ld rx_isI 5 (o_c1 rx_eq (vX13_exec_180 g j) (vX13_exec_171 g j))))))))))))
set_option maxRecDepth 20000 in
theorem wX13_exec_150 {dn : Nat} {g : Nat → List Nat → rx_H → Option (Nat × rx_H)} (hZ : zO b e D A X) (hg : ∀ i y M, vl19[i]? = some (y, M) → rx_Met (zV b e D A X) dn y M (g i)) (hd : 333 ≤ dn) (j : Nat → rx_K) (hj : ∀ k pc, [76, 215][k]? = some pc → rx_OK (zV b e D A X) mX13_exec (dn + 1) pc (j k)) : rx_OK (zV b e D A X) mX13_exec (dn + 1) 150 (vX13_exec_150 g j) := by
  unfold vX13_exec_150
  refine s_aload_n hZ.1 dX13_exec_150 rfl ?_
  refine s_aload_n hZ.1 dX13_exec_151 rfl ?_
  refine yg13_77 dX13_exec_152 zw4198 ?_
  refine s_iload_n hZ.1 dX13_exec_155 rfl ?_
  refine s_iald (tt := 0) rfl dX13_exec_156 ?_
  refine s_iload_n hZ.1 dX13_exec_157 rfl ?_
  refine s_iload_n hZ.1 dX13_exec_158 rfl ?_
  refine s_iload hZ.1 dX13_exec_159 ?_
  refine s_callV hZ.1 (hg 3 _ _ rfl) (Nat.le_refl _) vy_X13_eval zcl13 zw3852 zw360 (Or.inl zw3850) dX13_exec_161 ?_
  refine s_istore hZ.1 dX13_exec_164 (Nat.le_of_ble_eq_true rfl) ?_
  refine s_iload hZ.1 dX13_exec_166 ?_
  exact s_if_eq dX13_exec_168 (by decide) (wX13_exec_180 hZ hg hd j hj) (wX13_exec_171 hZ hg hd j hj)
noncomputable def vX13_exec_115 (g : Nat → List Nat → rx_H → Option (Nat × rx_H)) (j : Nat → rx_K) : rx_K := o_ld rx_isR 0 (o_ld rx_isR 0 (o_getf 13 77 (o_ld rx_isI 1 (o_ald 0 (o_ld rx_isI 2 (o_ld rx_isI 3 (o_ld rx_isI 4 (o_callV 4 13 (g 3) (o_st rx_isI 5 (o_ld rx_isR 0 (o_getf 13 154 (o_ld rx_isI 4 (o_ld rx_isR 0 (o_getf 13 82 (o_ld rx_isI 1 (o_ald 0 (o_bi (fun x y => x + y) (o_ld rx_isI 5 (o_ast 0 (fun v => v) rx_isI ((vX13_exec_313 g j)))))))))))))))))))))
set_option maxRecDepth 20000 in
theorem wX13_exec_115 {dn : Nat} {g : Nat → List Nat → rx_H → Option (Nat × rx_H)} (hZ : zO b e D A X) (hg : ∀ i y M, vl19[i]? = some (y, M) → rx_Met (zV b e D A X) dn y M (g i)) (hd : 333 ≤ dn) (j : Nat → rx_K) (hj : ∀ k pc, [76, 215][k]? = some pc → rx_OK (zV b e D A X) mX13_exec (dn + 1) pc (j k)) : rx_OK (zV b e D A X) mX13_exec (dn + 1) 115 (vX13_exec_115 g j) := by
  unfold vX13_exec_115
  refine s_aload_n hZ.1 dX13_exec_115 rfl ?_
  refine s_aload_n hZ.1 dX13_exec_116 rfl ?_
  refine yg13_77 dX13_exec_117 zw4198 ?_
  refine s_iload_n hZ.1 dX13_exec_120 rfl ?_
  refine s_iald (tt := 0) rfl dX13_exec_121 ?_
  refine s_iload_n hZ.1 dX13_exec_122 rfl ?_
  refine s_iload_n hZ.1 dX13_exec_123 rfl ?_
  refine s_iload hZ.1 dX13_exec_124 ?_
  refine s_callV hZ.1 (hg 3 _ _ rfl) (Nat.le_refl _) vy_X13_eval zcl13 zw3852 zw360 (Or.inl zw3850) dX13_exec_126 ?_
  refine s_istore hZ.1 dX13_exec_129 (Nat.le_of_ble_eq_true rfl) ?_
  refine s_aload_n hZ.1 dX13_exec_131 rfl ?_
  refine yg13_154 dX13_exec_132 zw4274 ?_
  refine s_iload hZ.1 dX13_exec_135 ?_
  refine s_aload_n hZ.1 dX13_exec_137 rfl ?_
  refine yg13_82 dX13_exec_138 zw4203 ?_
  refine s_iload_n hZ.1 dX13_exec_141 rfl ?_
  refine s_iald (tt := 0) rfl dX13_exec_142 ?_
  refine s_iadd dX13_exec_143 ?_
  refine s_iload hZ.1 dX13_exec_144 ?_
  refine s_iast hZ.1 (tt := 0) rfl dX13_exec_146 ?_
  exact s_goto dX13_exec_147 (by decide) (wX13_exec_313 hZ hg hd j hj)
noncomputable def vX13_exec_112 (g : Nat → List Nat → rx_H → Option (Nat × rx_H)) (j : Nat → rx_K) : rx_K := (vX13_exec_313 g j)
set_option maxRecDepth 20000 in
theorem wX13_exec_112 {dn : Nat} {g : Nat → List Nat → rx_H → Option (Nat × rx_H)} (hZ : zO b e D A X) (hg : ∀ i y M, vl19[i]? = some (y, M) → rx_Met (zV b e D A X) dn y M (g i)) (hd : 333 ≤ dn) (j : Nat → rx_K) (hj : ∀ k pc, [76, 215][k]? = some pc → rx_OK (zV b e D A X) mX13_exec (dn + 1) pc (j k)) : rx_OK (zV b e D A X) mX13_exec (dn + 1) 112 (vX13_exec_112 g j) := by
  unfold vX13_exec_112
  exact s_goto dX13_exec_112 (by decide) (wX13_exec_313 hZ hg hd j hj)
noncomputable def vX13_exec_90 (g : Nat → List Nat → rx_H → Option (Nat × rx_H)) (j : Nat → rx_K) : rx_K := o_ld rx_isR 0 (o_ld rx_isI 5 (o_ld rx_isI 2 (o_ld rx_isI 3 (o_ld rx_isI 4 (o_callV 4 13 (g 8) (o_ld rx_isR 0 (o_getf 13 80 (o_ld rx_isI 5 (o_ald 0 (o_st rx_isI 5 ((j 0))))))))))))
set_option maxRecDepth 20000 in
theorem wX13_exec_90 {dn : Nat} {g : Nat → List Nat → rx_H → Option (Nat × rx_H)} (hZ : zO b e D A X) (hg : ∀ i y M, vl19[i]? = some (y, M) → rx_Met (zV b e D A X) dn y M (g i)) (hd : 333 ≤ dn) (j : Nat → rx_K) (hj : ∀ k pc, [76, 215][k]? = some pc → rx_OK (zV b e D A X) mX13_exec (dn + 1) pc (j k)) : rx_OK (zV b e D A X) mX13_exec (dn + 1) 90 (vX13_exec_90 g j) := by
  unfold vX13_exec_90
  refine s_aload_n hZ.1 dX13_exec_90 rfl ?_
  refine s_iload hZ.1 dX13_exec_91 ?_
  refine s_iload_n hZ.1 dX13_exec_93 rfl ?_
  refine s_iload_n hZ.1 dX13_exec_94 rfl ?_
  refine s_iload hZ.1 dX13_exec_95 ?_
  refine s_callV hZ.1 (hg 8 _ _ rfl) (Nat.le_refl _) vy_X13_exec zcl13 zw3924 zw378 (Or.inl zw3922) dX13_exec_97 ?_
  refine s_aload_n hZ.1 dX13_exec_100 rfl ?_
  refine yg13_80 dX13_exec_101 zw4201 ?_
  refine s_iload hZ.1 dX13_exec_104 ?_
  refine s_iald (tt := 0) rfl dX13_exec_106 ?_
  refine s_istore hZ.1 dX13_exec_107 (Nat.le_of_ble_eq_true rfl) ?_
  exact s_goto dX13_exec_109 (by decide) (hj 0 76 rfl)
noncomputable def vX13_exec_83 (g : Nat → List Nat → rx_H → Option (Nat × rx_H)) (j : Nat → rx_K) : rx_K := o_ld rx_isR 0 (o_getf 13 164 (o_c1 rx_eq (vX13_exec_90 g j) (vX13_exec_112 g j)))
set_option maxRecDepth 20000 in
theorem wX13_exec_83 {dn : Nat} {g : Nat → List Nat → rx_H → Option (Nat × rx_H)} (hZ : zO b e D A X) (hg : ∀ i y M, vl19[i]? = some (y, M) → rx_Met (zV b e D A X) dn y M (g i)) (hd : 333 ≤ dn) (j : Nat → rx_K) (hj : ∀ k pc, [76, 215][k]? = some pc → rx_OK (zV b e D A X) mX13_exec (dn + 1) pc (j k)) : rx_OK (zV b e D A X) mX13_exec (dn + 1) 83 (vX13_exec_83 g j) := by
  unfold vX13_exec_83
  refine s_aload_n hZ.1 dX13_exec_83 rfl ?_
  refine yg13_164 dX13_exec_84 zw4284 ?_
  exact s_if_ne dX13_exec_87 (by decide) (wX13_exec_112 hZ hg hd j hj) (wX13_exec_90 hZ hg hd j hj)
noncomputable def vX13_exec_76 (g : Nat → List Nat → rx_H → Option (Nat × rx_H)) (j : Nat → rx_K) : rx_K := o_ld rx_isI 5 (o_const 34359738352 (o_c2 rx_eq (vX13_exec_112 g j) (vX13_exec_83 g j)))
set_option maxRecDepth 20000 in
theorem wX13_exec_76 {dn : Nat} {g : Nat → List Nat → rx_H → Option (Nat × rx_H)} (hZ : zO b e D A X) (hg : ∀ i y M, vl19[i]? = some (y, M) → rx_Met (zV b e D A X) dn y M (g i)) (hd : 333 ≤ dn) (j : Nat → rx_K) (hj : ∀ k pc, [76, 215][k]? = some pc → rx_OK (zV b e D A X) mX13_exec (dn + 1) pc (j k)) : rx_OK (zV b e D A X) mX13_exec (dn + 1) 76 (vX13_exec_76 g j) := by
  unfold vX13_exec_76
  refine s_iload hZ.1 dX13_exec_76 ?_
  refine s_bipush dX13_exec_78 (by decide +kernel) ?_
  exact s_icmp_eq dX13_exec_80 (by decide) (wX13_exec_112 hZ hg hd j hj) (wX13_exec_83 hZ hg hd j hj)
noncomputable def vX13_exec_68 (g : Nat → List Nat → rx_H → Option (Nat × rx_H)) (j : Nat → rx_K) : rx_K := o_ld rx_isR 0 (o_getf 13 77 (o_ld rx_isI 1 (o_ald 0 (o_st rx_isI 5 ((vX13_exec_76 g j))))))
set_option maxRecDepth 20000 in
theorem wX13_exec_68 {dn : Nat} {g : Nat → List Nat → rx_H → Option (Nat × rx_H)} (hZ : zO b e D A X) (hg : ∀ i y M, vl19[i]? = some (y, M) → rx_Met (zV b e D A X) dn y M (g i)) (hd : 333 ≤ dn) (j : Nat → rx_K) (hj : ∀ k pc, [76, 215][k]? = some pc → rx_OK (zV b e D A X) mX13_exec (dn + 1) pc (j k)) : rx_OK (zV b e D A X) mX13_exec (dn + 1) 68 (vX13_exec_68 g j) := by
  unfold vX13_exec_68
  refine s_aload_n hZ.1 dX13_exec_68 rfl ?_
  refine yg13_77 dX13_exec_69 zw4198 ?_
  refine s_iload_n hZ.1 dX13_exec_72 rfl ?_
  refine s_iald (tt := 0) rfl dX13_exec_73 ?_
  refine s_istore hZ.1 dX13_exec_74 (Nat.le_of_ble_eq_true rfl) ?_
  exact (wX13_exec_76 hZ hg hd j hj)
noncomputable def vX13_exec_19 (g : Nat → List Nat → rx_H → Option (Nat × rx_H)) (j : Nat → rx_K) : rx_K := o_ld rx_isR 0 (o_getf 13 70 (o_ld rx_isI 1 (o_ald 0 (o_sw 20 [68, 115, 150, 215, 304, 304, 270] 304 (rx_pk [(68, (vX13_exec_68 g j)), (115, (vX13_exec_115 g j)), (150, (vX13_exec_150 g j)), (215, (vX13_exec_215 g j)), (270, (vX13_exec_270 g j)), (304, (vX13_exec_304 g j))])))))
set_option maxRecDepth 20000 in
theorem wX13_exec_19 {dn : Nat} {g : Nat → List Nat → rx_H → Option (Nat × rx_H)} (hZ : zO b e D A X) (hg : ∀ i y M, vl19[i]? = some (y, M) → rx_Met (zV b e D A X) dn y M (g i)) (hd : 333 ≤ dn) (j : Nat → rx_K) (hj : ∀ k pc, [76, 215][k]? = some pc → rx_OK (zV b e D A X) mX13_exec (dn + 1) pc (j k)) : rx_OK (zV b e D A X) mX13_exec (dn + 1) 19 (vX13_exec_19 g j) := by
  unfold vX13_exec_19
  refine s_aload_n hZ.1 dX13_exec_19 rfl ?_
  refine yg13_70 dX13_exec_20 zw4191 ?_
  refine s_iload_n hZ.1 dX13_exec_23 rfl ?_
  refine s_iald (tt := 0) rfl dX13_exec_24 ?_
  exact s_sw dX13_exec_25 (by decide) (by decide) (by decide) (by decide) (by decide) (fun b _ => (rx_pk_ok (List.forall_mem_cons.mpr ⟨(wX13_exec_68 hZ hg hd j hj), List.forall_mem_cons.mpr ⟨(wX13_exec_115 hZ hg hd j hj), List.forall_mem_cons.mpr ⟨(wX13_exec_150 hZ hg hd j hj), List.forall_mem_cons.mpr ⟨(wX13_exec_215 hZ hg hd j hj), List.forall_mem_cons.mpr ⟨(wX13_exec_270 hZ hg hd j hj), List.forall_mem_cons.mpr ⟨(wX13_exec_304 hZ hg hd j hj), fun _ h => absurd h List.not_mem_nil⟩⟩⟩⟩⟩⟩)) b)
noncomputable def vX13_exec_18 (g : Nat → List Nat → rx_H → Option (Nat × rx_H)) (j : Nat → rx_K) : rx_K := o_ret0
set_option maxRecDepth 20000 in
theorem wX13_exec_18 {dn : Nat} {g : Nat → List Nat → rx_H → Option (Nat × rx_H)} (hZ : zO b e D A X) (hg : ∀ i y M, vl19[i]? = some (y, M) → rx_Met (zV b e D A X) dn y M (g i)) (hd : 333 ≤ dn) (j : Nat → rx_K) (hj : ∀ k pc, [76, 215][k]? = some pc → rx_OK (zV b e D A X) mX13_exec (dn + 1) pc (j k)) : rx_OK (zV b e D A X) mX13_exec (dn + 1) 18 (vX13_exec_18 g j) := by
  unfold vX13_exec_18
  exact s_vret rfl dX13_exec_18
noncomputable def vX13_exec_11 (g : Nat → List Nat → rx_H → Option (Nat × rx_H)) (j : Nat → rx_K) : rx_K := o_ld rx_isR 0 (o_callV 0 13 FX13_steps (o_c1 rx_eq (vX13_exec_18 g j) (vX13_exec_19 g j)))
set_option maxRecDepth 20000 in
theorem wX13_exec_11 {dn : Nat} {g : Nat → List Nat → rx_H → Option (Nat × rx_H)} (hZ : zO b e D A X) (hg : ∀ i y M, vl19[i]? = some (y, M) → rx_Met (zV b e D A X) dn y M (g i)) (hd : 333 ≤ dn) (j : Nat → rx_K) (hj : ∀ k pc, [76, 215][k]? = some pc → rx_OK (zV b e D A X) mX13_exec (dn + 1) pc (j k)) : rx_OK (zV b e D A X) mX13_exec (dn + 1) 11 (vX13_exec_11 g j) := by
  unfold vX13_exec_11
  refine s_aload_n hZ.1 dX13_exec_11 rfl ?_
  refine s_callV hZ.1 (Met_X13_steps hZ) (Nat.succ_le_succ (Nat.le_trans (Nat.le_of_ble_eq_true rfl) hd)) vy_X13_steps zcl13 zw3908 zw374 (Or.inl zw3906) dX13_exec_12 ?_
  exact s_if_ne dX13_exec_15 (by decide) (wX13_exec_19 hZ hg hd j hj) (wX13_exec_18 hZ hg hd j hj)
noncomputable def vX13_exec_0 (g : Nat → List Nat → rx_H → Option (Nat × rx_H)) (j : Nat → rx_K) : rx_K := o_ld rx_isR 0 (o_getf 13 70 (o_ld rx_isI 1 (o_ald 0 (o_const 160 (o_c2 rx_eq (vX13_exec_19 g j) (vX13_exec_11 g j))))))
set_option maxRecDepth 20000 in
theorem wX13_exec_0 {dn : Nat} {g : Nat → List Nat → rx_H → Option (Nat × rx_H)} (hZ : zO b e D A X) (hg : ∀ i y M, vl19[i]? = some (y, M) → rx_Met (zV b e D A X) dn y M (g i)) (hd : 333 ≤ dn) (j : Nat → rx_K) (hj : ∀ k pc, [76, 215][k]? = some pc → rx_OK (zV b e D A X) mX13_exec (dn + 1) pc (j k)) : rx_OK (zV b e D A X) mX13_exec (dn + 1) 0 (vX13_exec_0 g j) := by
  unfold vX13_exec_0
  refine s_aload_n hZ.1 dX13_exec_0 rfl ?_
  refine yg13_70 dX13_exec_1 zw4191 ?_
  refine s_iload_n hZ.1 dX13_exec_4 rfl ?_
  refine s_iald (tt := 0) rfl dX13_exec_5 ?_
  refine s_bipush dX13_exec_6 (by decide +kernel) ?_
  exact s_icmp_eq dX13_exec_8 (by decide) (wX13_exec_19 hZ hg hd j hj) (wX13_exec_11 hZ hg hd j hj)
noncomputable def vhX13_exec (g : Nat → List Nat → rx_H → Option (Nat × rx_H)) (j : Nat → rx_K) : List rx_K := [vX13_exec_76 g j, vX13_exec_215 g j]
theorem vlX13_exec {dn : Nat} {g : Nat → List Nat → rx_H → Option (Nat × rx_H)} (hZ : zO b e D A X) (hg : ∀ i y M, vl19[i]? = some (y, M) → rx_Met (zV b e D A X) dn y M (g i)) (hd : 333 ≤ dn) : ∀ n k pc, [76, 215][k]? = some pc → rx_OK (zV b e D A X) mX13_exec (dn + 1) pc (rx_J (vhX13_exec g) n k) := rx_loop fun j hj k pc h => by
  match k, h with
  | 0, h =>
    have e9 := Option.some.inj (show some 76 = some pc from h)
    subst e9
    exact wX13_exec_76 hZ hg hd j hj
  | 1, h =>
    have e9 := Option.some.inj (show some 215 = some pc from h)
    subst e9
    exact wX13_exec_215 hZ hg hd j hj
  | _ + 2, h => exact absurd h (by simp)
noncomputable def FX13_exec (g : Nat → List Nat → rx_H → Option (Nat × rx_H)) : List Nat → rx_H → Option (Nat × rx_H) := rx_ent 7 (vX13_exec_0 g (rx_J (vhX13_exec g) 4000000000))
theorem Met_X13_exec {dn : Nat} {g : Nat → List Nat → rx_H → Option (Nat × rx_H)} (hZ : zO b e D A X) (hg : ∀ i y M, vl19[i]? = some (y, M) → rx_Met (zV b e D A X) dn y M (g i)) (hd : 333 ≤ dn) : rx_Met (zV b e D A X) (dn + 1) yX13_exec mX13_exec (FX13_exec g) := rx_entry hZ.1 (wX13_exec_0 hZ hg hd _ (vlX13_exec hZ hg hd 4000000000)) (by decide +kernel) rfl (fun h => by cases h)
noncomputable def vX13_execOther_310 (g : Nat → List Nat → rx_H → Option (Nat × rx_H)) : rx_K := o_ret0
set_option maxRecDepth 20000 in
theorem wX13_execOther_310 {dn : Nat} {g : Nat → List Nat → rx_H → Option (Nat × rx_H)} (hZ : zO b e D A X) (hg : ∀ i y M, vl19[i]? = some (y, M) → rx_Met (zV b e D A X) dn y M (g i)) (hd : 333 ≤ dn) : rx_OK (zV b e D A X) mX13_execOther (dn + 1) 310 (vX13_execOther_310 g) := by
  unfold vX13_execOther_310
  exact s_vret rfl dX13_execOther_310
noncomputable def vX13_execOther_295 (g : Nat → List Nat → rx_H → Option (Nat × rx_H)) : rx_K := o_ld rx_isR 0 (o_ld rx_isR 0 (o_getf 13 77 (o_ld rx_isI 1 (o_ald 0 (o_ld rx_isI 2 (o_ld rx_isI 3 (o_ld rx_isI 4 (o_callV 4 13 (g 3) (o_pop ((vX13_execOther_310 g)))))))))))
set_option maxRecDepth 20000 in
theorem wX13_execOther_295 {dn : Nat} {g : Nat → List Nat → rx_H → Option (Nat × rx_H)} (hZ : zO b e D A X) (hg : ∀ i y M, vl19[i]? = some (y, M) → rx_Met (zV b e D A X) dn y M (g i)) (hd : 333 ≤ dn) : rx_OK (zV b e D A X) mX13_execOther (dn + 1) 295 (vX13_execOther_295 g) := by
  unfold vX13_execOther_295
  refine s_aload_n hZ.1 dX13_execOther_295 rfl ?_
  refine s_aload_n hZ.1 dX13_execOther_296 rfl ?_
  refine yg13_77 dX13_execOther_297 zw4198 ?_
  refine s_iload_n hZ.1 dX13_execOther_300 rfl ?_
  refine s_iald (tt := 0) rfl dX13_execOther_301 ?_
  refine s_iload_n hZ.1 dX13_execOther_302 rfl ?_
  refine s_iload_n hZ.1 dX13_execOther_303 rfl ?_
  refine s_iload hZ.1 dX13_execOther_304 ?_
  refine s_callV hZ.1 (hg 3 _ _ rfl) (Nat.le_refl _) vy_X13_eval zcl13 zw3852 zw360 (Or.inl zw3850) dX13_execOther_306 ?_
  refine s_pop hZ.1 dX13_execOther_309 ?_
  exact (wX13_execOther_310 hZ hg hd)
noncomputable def vX13_execOther_283 (g : Nat → List Nat → rx_H → Option (Nat × rx_H)) : rx_K := o_ld rx_isR 0 (o_ld rx_isI 1 (o_ld rx_isI 2 (o_ld rx_isI 3 (o_ld rx_isI 4 (o_callV 4 13 (g 10) ((vX13_execOther_310 g)))))))
set_option maxRecDepth 20000 in
theorem wX13_execOther_283 {dn : Nat} {g : Nat → List Nat → rx_H → Option (Nat × rx_H)} (hZ : zO b e D A X) (hg : ∀ i y M, vl19[i]? = some (y, M) → rx_Met (zV b e D A X) dn y M (g i)) (hd : 333 ≤ dn) : rx_OK (zV b e D A X) mX13_execOther (dn + 1) 283 (vX13_execOther_283 g) := by
  unfold vX13_execOther_283
  refine s_aload_n hZ.1 dX13_execOther_283 rfl ?_
  refine s_iload_n hZ.1 dX13_execOther_284 rfl ?_
  refine s_iload_n hZ.1 dX13_execOther_285 rfl ?_
  refine s_iload_n hZ.1 dX13_execOther_286 rfl ?_
  refine s_iload hZ.1 dX13_execOther_287 ?_
  refine s_callV hZ.1 (hg 10 _ _ rfl) (Nat.le_refl _) vy_X13_execPut zcl13 zw3940 zw382 (Or.inl zw3938) dX13_execOther_289 ?_
  exact s_goto dX13_execOther_292 (by decide) (wX13_execOther_310 hZ hg hd)
noncomputable def vX13_execOther_274 (g : Nat → List Nat → rx_H → Option (Nat × rx_H)) : rx_K := o_ld rx_isR 0 (o_ld rx_isI 5 (o_putf rx_isI 13 155 ((vX13_execOther_310 g))))
set_option maxRecDepth 20000 in
theorem wX13_execOther_274 {dn : Nat} {g : Nat → List Nat → rx_H → Option (Nat × rx_H)} (hZ : zO b e D A X) (hg : ∀ i y M, vl19[i]? = some (y, M) → rx_Met (zV b e D A X) dn y M (g i)) (hd : 333 ≤ dn) : rx_OK (zV b e D A X) mX13_execOther (dn + 1) 274 (vX13_execOther_274 g) := by
  unfold vX13_execOther_274
  refine s_aload_n hZ.1 dX13_execOther_274 rfl ?_
  refine s_iload hZ.1 dX13_execOther_275 ?_
  refine yp13_155 hZ.1 dX13_execOther_277 zw4275 ?_
  exact s_goto dX13_execOther_280 (by decide) (wX13_execOther_310 hZ hg hd)
noncomputable def vX13_execOther_262 (g : Nat → List Nat → rx_H → Option (Nat × rx_H)) : rx_K := o_ld rx_isR 0 (o_ld rx_isR 0 (o_getf 13 140 (o_ld rx_isI 3 (o_ld rx_isI 5 (o_callV 3 13 (g 12) (o_pop ((vX13_execOther_274 g))))))))
set_option maxRecDepth 20000 in
theorem wX13_execOther_262 {dn : Nat} {g : Nat → List Nat → rx_H → Option (Nat × rx_H)} (hZ : zO b e D A X) (hg : ∀ i y M, vl19[i]? = some (y, M) → rx_Met (zV b e D A X) dn y M (g i)) (hd : 333 ≤ dn) : rx_OK (zV b e D A X) mX13_execOther (dn + 1) 262 (vX13_execOther_262 g) := by
  unfold vX13_execOther_262
  refine s_aload_n hZ.1 dX13_execOther_262 rfl ?_
  refine s_aload_n hZ.1 dX13_execOther_263 rfl ?_
  refine yg13_140 dX13_execOther_264 zw4260 ?_
  refine s_iload_n hZ.1 dX13_execOther_267 rfl ?_
  refine s_iload hZ.1 dX13_execOther_268 ?_
  refine s_callV hZ.1 (hg 12 _ _ rfl) (Nat.le_refl _) vy_X13_invoke zcl13 zw3904 zw373 (Or.inl zw3902) dX13_execOther_270 ?_
  refine s_pop hZ.1 dX13_execOther_273 ?_
  exact (wX13_execOther_274 hZ hg hd)
noncomputable def vX13_execOther_249 (g : Nat → List Nat → rx_H → Option (Nat × rx_H)) : rx_K := o_ld rx_isR 0 (o_ld rx_isR 0 (o_getf 13 87 (o_ld rx_isI 1 (o_ald 0 (o_callV 1 13 FX13_asks (o_c1 rx_eq (vX13_execOther_274 g) (vX13_execOther_262 g)))))))
set_option maxRecDepth 20000 in
theorem wX13_execOther_249 {dn : Nat} {g : Nat → List Nat → rx_H → Option (Nat × rx_H)} (hZ : zO b e D A X) (hg : ∀ i y M, vl19[i]? = some (y, M) → rx_Met (zV b e D A X) dn y M (g i)) (hd : 333 ≤ dn) : rx_OK (zV b e D A X) mX13_execOther (dn + 1) 249 (vX13_execOther_249 g) := by
  unfold vX13_execOther_249
  refine s_aload_n hZ.1 dX13_execOther_249 rfl ?_
  refine s_aload_n hZ.1 dX13_execOther_250 rfl ?_
  refine yg13_87 dX13_execOther_251 zw4208 ?_
  refine s_iload_n hZ.1 dX13_execOther_254 rfl ?_
  refine s_iald (tt := 0) rfl dX13_execOther_255 ?_
  refine s_callV hZ.1 (Met_X13_asks hZ) (Nat.succ_le_succ (Nat.le_trans (Nat.le_of_ble_eq_true rfl) hd)) vy_X13_asks zcl13 zw3868 zw364 (Or.inl zw3866) dX13_execOther_256 ?_
  exact s_if_eq dX13_execOther_259 (by decide) (wX13_execOther_274 hZ hg hd) (wX13_execOther_262 hZ hg hd)
noncomputable def vX13_execOther_238 (g : Nat → List Nat → rx_H → Option (Nat × rx_H)) : rx_K := o_ld rx_isR 0 (o_getf 13 87 (o_ld rx_isI 1 (o_ald 0 (o_const 34359738352 (o_c2 rx_eq (vX13_execOther_274 g) (vX13_execOther_249 g))))))
set_option maxRecDepth 20000 in
theorem wX13_execOther_238 {dn : Nat} {g : Nat → List Nat → rx_H → Option (Nat × rx_H)} (hZ : zO b e D A X) (hg : ∀ i y M, vl19[i]? = some (y, M) → rx_Met (zV b e D A X) dn y M (g i)) (hd : 333 ≤ dn) : rx_OK (zV b e D A X) mX13_execOther (dn + 1) 238 (vX13_execOther_238 g) := by
  unfold vX13_execOther_238
  refine s_aload_n hZ.1 dX13_execOther_238 rfl ?_
  refine yg13_87 dX13_execOther_239 zw4208 ?_
  refine s_iload_n hZ.1 dX13_execOther_242 rfl ?_
  refine s_iald (tt := 0) rfl dX13_execOther_243 ?_
  refine s_bipush dX13_execOther_244 (by decide +kernel) ?_
  exact s_icmp_eq dX13_execOther_246 (by decide) (wX13_execOther_274 hZ hg hd) (wX13_execOther_249 hZ hg hd)
noncomputable def vX13_execOther_215 (g : Nat → List Nat → rx_H → Option (Nat × rx_H)) : rx_K := o_ld rx_isR 0 (o_ld rx_isR 0 (o_getf 13 77 (o_ld rx_isI 1 (o_ald 0 (o_ld rx_isI 2 (o_ld rx_isI 3 (o_ld rx_isI 4 (o_callV 4 13 (g 4) (o_st rx_isI 5 (o_ld rx_isR 0 (o_getf 13 164 (o_c1 rx_eq (vX13_execOther_238 g) (vX13_execOther_274 g)))))))))))))
set_option maxRecDepth 20000 in
theorem wX13_execOther_215 {dn : Nat} {g : Nat → List Nat → rx_H → Option (Nat × rx_H)} (hZ : zO b e D A X) (hg : ∀ i y M, vl19[i]? = some (y, M) → rx_Met (zV b e D A X) dn y M (g i)) (hd : 333 ≤ dn) : rx_OK (zV b e D A X) mX13_execOther (dn + 1) 215 (vX13_execOther_215 g) := by
  unfold vX13_execOther_215
  refine s_aload_n hZ.1 dX13_execOther_215 rfl ?_
  refine s_aload_n hZ.1 dX13_execOther_216 rfl ?_
  refine yg13_77 dX13_execOther_217 zw4198 ?_
  refine s_iload_n hZ.1 dX13_execOther_220 rfl ?_
  refine s_iald (tt := 0) rfl dX13_execOther_221 ?_
  refine s_iload_n hZ.1 dX13_execOther_222 rfl ?_
  refine s_iload_n hZ.1 dX13_execOther_223 rfl ?_
  refine s_iload hZ.1 dX13_execOther_224 ?_
  refine s_callV hZ.1 (hg 4 _ _ rfl) (Nat.le_refl _) vy_X13_evalArgs zcl13 zw3936 zw381 (Or.inl zw3934) dX13_execOther_226 ?_
  refine s_istore hZ.1 dX13_execOther_229 (Nat.le_of_ble_eq_true rfl) ?_
  refine s_aload_n hZ.1 dX13_execOther_231 rfl ?_
  refine yg13_164 dX13_execOther_232 zw4284 ?_
  exact s_if_ne dX13_execOther_235 (by decide) (wX13_execOther_274 hZ hg hd) (wX13_execOther_238 hZ hg hd)
noncomputable def vX13_execOther_191 (g : Nat → List Nat → rx_H → Option (Nat × rx_H)) : rx_K := o_ld rx_isR 0 (o_getf 13 168 (o_ld rx_isR 0 (o_getf 13 169 (o_ld rx_isI 5 (o_ast 0 (fun v => v) rx_isI (o_ld rx_isR 0 (o_dup (o_getf 13 169 (o_const 8 (o_bi (fun x y => x + y) (o_putf rx_isI 13 169 ((vX13_execOther_310 g)))))))))))))
set_option maxRecDepth 20000 in
theorem wX13_execOther_191 {dn : Nat} {g : Nat → List Nat → rx_H → Option (Nat × rx_H)} (hZ : zO b e D A X) (hg : ∀ i y M, vl19[i]? = some (y, M) → rx_Met (zV b e D A X) dn y M (g i)) (hd : 333 ≤ dn) : rx_OK (zV b e D A X) mX13_execOther (dn + 1) 191 (vX13_execOther_191 g) := by
  unfold vX13_execOther_191
  refine s_aload_n hZ.1 dX13_execOther_191 rfl ?_
  refine yg13_168 dX13_execOther_192 zw4288 ?_
  refine s_aload_n hZ.1 dX13_execOther_195 rfl ?_
  refine yg13_169 dX13_execOther_196 zw4289 ?_
  refine s_iload hZ.1 dX13_execOther_199 ?_
  refine s_iast hZ.1 (tt := 0) rfl dX13_execOther_201 ?_
  refine s_aload_n hZ.1 dX13_execOther_202 rfl ?_
  refine s_dup hZ.1 dX13_execOther_203 ?_
  refine yg13_169 dX13_execOther_204 zw4289 ?_
  refine s_iconst dX13_execOther_207 (by decide +kernel) ?_
  refine s_iadd dX13_execOther_208 ?_
  refine yp13_169 hZ.1 dX13_execOther_209 zw4289 ?_
  exact s_goto dX13_execOther_212 (by decide) (wX13_execOther_310 hZ hg hd)
noncomputable def vX13_execOther_182 (g : Nat → List Nat → rx_H → Option (Nat × rx_H)) : rx_K := o_ld rx_isR 0 (o_getf 13 169 (o_const 800 (o_c2 rx_lt (vX13_execOther_191 g) (vX13_execOther_310 g))))
set_option maxRecDepth 20000 in
theorem wX13_execOther_182 {dn : Nat} {g : Nat → List Nat → rx_H → Option (Nat × rx_H)} (hZ : zO b e D A X) (hg : ∀ i y M, vl19[i]? = some (y, M) → rx_Met (zV b e D A X) dn y M (g i)) (hd : 333 ≤ dn) : rx_OK (zV b e D A X) mX13_execOther (dn + 1) 182 (vX13_execOther_182 g) := by
  unfold vX13_execOther_182
  refine s_aload_n hZ.1 dX13_execOther_182 rfl ?_
  refine yg13_169 dX13_execOther_183 zw4289 ?_
  refine s_bipush dX13_execOther_186 (by decide +kernel) ?_
  exact s_icmp_ge dX13_execOther_188 (by decide) (wX13_execOther_310 hZ hg hd) (wX13_execOther_191 hZ hg hd)
noncomputable def vX13_execOther_159 (g : Nat → List Nat → rx_H → Option (Nat × rx_H)) : rx_K := o_ld rx_isR 0 (o_ld rx_isR 0 (o_getf 13 77 (o_ld rx_isI 1 (o_ald 0 (o_ld rx_isI 2 (o_ld rx_isI 3 (o_ld rx_isI 4 (o_callV 4 13 (g 3) (o_st rx_isI 5 (o_ld rx_isR 0 (o_getf 13 164 (o_c1 rx_eq (vX13_execOther_182 g) (vX13_execOther_310 g)))))))))))))
set_option maxRecDepth 20000 in
theorem wX13_execOther_159 {dn : Nat} {g : Nat → List Nat → rx_H → Option (Nat × rx_H)} (hZ : zO b e D A X) (hg : ∀ i y M, vl19[i]? = some (y, M) → rx_Met (zV b e D A X) dn y M (g i)) (hd : 333 ≤ dn) : rx_OK (zV b e D A X) mX13_execOther (dn + 1) 159 (vX13_execOther_159 g) := by
  unfold vX13_execOther_159
  refine s_aload_n hZ.1 dX13_execOther_159 rfl ?_
  refine s_aload_n hZ.1 dX13_execOther_160 rfl ?_
  refine yg13_77 dX13_execOther_161 zw4198 ?_
  refine s_iload_n hZ.1 dX13_execOther_164 rfl ?_
  refine s_iald (tt := 0) rfl dX13_execOther_165 ?_
  refine s_iload_n hZ.1 dX13_execOther_166 rfl ?_
  refine s_iload_n hZ.1 dX13_execOther_167 rfl ?_
  refine s_iload hZ.1 dX13_execOther_168 ?_
  refine s_callV hZ.1 (hg 3 _ _ rfl) (Nat.le_refl _) vy_X13_eval zcl13 zw3852 zw360 (Or.inl zw3850) dX13_execOther_170 ?_
  refine s_istore hZ.1 dX13_execOther_173 (Nat.le_of_ble_eq_true rfl) ?_
  refine s_aload_n hZ.1 dX13_execOther_175 rfl ?_
  refine yg13_164 dX13_execOther_176 zw4284 ?_
  exact s_if_ne dX13_execOther_179 (by decide) (wX13_execOther_310 hZ hg hd) (wX13_execOther_182 hZ hg hd)
noncomputable def vX13_execOther_145 (g : Nat → List Nat → rx_H → Option (Nat × rx_H)) : rx_K := o_ld rx_isR 0 (o_ld rx_isI 5 (o_putf rx_isI 13 166 (o_ld rx_isR 0 (o_const 16 (o_putf rx_isI 13 164 ((vX13_execOther_310 g)))))))
set_option maxRecDepth 20000 in
theorem wX13_execOther_145 {dn : Nat} {g : Nat → List Nat → rx_H → Option (Nat × rx_H)} (hZ : zO b e D A X) (hg : ∀ i y M, vl19[i]? = some (y, M) → rx_Met (zV b e D A X) dn y M (g i)) (hd : 333 ≤ dn) : rx_OK (zV b e D A X) mX13_execOther (dn + 1) 145 (vX13_execOther_145 g) := by
  unfold vX13_execOther_145
  refine s_aload_n hZ.1 dX13_execOther_145 rfl ?_
  refine s_iload hZ.1 dX13_execOther_146 ?_
  refine yp13_166 hZ.1 dX13_execOther_148 zw4286 ?_
  refine s_aload_n hZ.1 dX13_execOther_151 rfl ?_
  refine s_iconst dX13_execOther_152 (by decide +kernel) ?_
  refine yp13_164 hZ.1 dX13_execOther_153 zw4284 ?_
  exact s_goto dX13_execOther_156 (by decide) (wX13_execOther_310 hZ hg hd)
noncomputable def vX13_execOther_138 (g : Nat → List Nat → rx_H → Option (Nat × rx_H)) : rx_K := o_ld rx_isR 0 (o_getf 13 164 (o_c1 rx_eq (vX13_execOther_145 g) (vX13_execOther_310 g)))
set_option maxRecDepth 20000 in
theorem wX13_execOther_138 {dn : Nat} {g : Nat → List Nat → rx_H → Option (Nat × rx_H)} (hZ : zO b e D A X) (hg : ∀ i y M, vl19[i]? = some (y, M) → rx_Met (zV b e D A X) dn y M (g i)) (hd : 333 ≤ dn) : rx_OK (zV b e D A X) mX13_execOther (dn + 1) 138 (vX13_execOther_138 g) := by
  unfold vX13_execOther_138
  refine s_aload_n hZ.1 dX13_execOther_138 rfl ?_
  refine yg13_164 dX13_execOther_139 zw4284 ?_
  exact s_if_ne dX13_execOther_142 (by decide) (wX13_execOther_310 hZ hg hd) (wX13_execOther_145 hZ hg hd)
noncomputable def vX13_execOther_128 (g : Nat → List Nat → rx_H → Option (Nat × rx_H)) : rx_K := o_ld rx_isR 0 (o_const 104 (o_callV 1 13 FX13_fail (o_pop ((vX13_execOther_310 g)))))
set_option maxRecDepth 20000 in
theorem wX13_execOther_128 {dn : Nat} {g : Nat → List Nat → rx_H → Option (Nat × rx_H)} (hZ : zO b e D A X) (hg : ∀ i y M, vl19[i]? = some (y, M) → rx_Met (zV b e D A X) dn y M (g i)) (hd : 333 ≤ dn) : rx_OK (zV b e D A X) mX13_execOther (dn + 1) 128 (vX13_execOther_128 g) := by
  unfold vX13_execOther_128
  refine s_aload_n hZ.1 dX13_execOther_128 rfl ?_
  refine s_bipush dX13_execOther_129 (by decide +kernel) ?_
  refine s_callV hZ.1 (Met_X13_fail hZ) (Nat.succ_le_succ (Nat.le_trans (Nat.le_of_ble_eq_true rfl) hd)) vy_X13_fail zcl13 zw3820 zw352 (Or.inl zw3818) dX13_execOther_131 ?_
  refine s_pop hZ.1 dX13_execOther_134 ?_
  exact s_goto dX13_execOther_135 (by decide) (wX13_execOther_310 hZ hg hd)
noncomputable def vX13_execOther_123 (g : Nat → List Nat → rx_H → Option (Nat × rx_H)) : rx_K := o_ld rx_isI 5 (o_c1 rx_eq (vX13_execOther_128 g) (vX13_execOther_138 g))
set_option maxRecDepth 20000 in
theorem wX13_execOther_123 {dn : Nat} {g : Nat → List Nat → rx_H → Option (Nat × rx_H)} (hZ : zO b e D A X) (hg : ∀ i y M, vl19[i]? = some (y, M) → rx_Met (zV b e D A X) dn y M (g i)) (hd : 333 ≤ dn) : rx_OK (zV b e D A X) mX13_execOther (dn + 1) 123 (vX13_execOther_123 g) := by
  unfold vX13_execOther_123
  refine s_iload hZ.1 dX13_execOther_123 ?_
  exact s_if_ne dX13_execOther_125 (by decide) (wX13_execOther_138 hZ hg hd) (wX13_execOther_128 hZ hg hd)
noncomputable def vX13_execOther_100 (g : Nat → List Nat → rx_H → Option (Nat × rx_H)) : rx_K := o_ld rx_isR 0 (o_ld rx_isR 0 (o_getf 13 77 (o_ld rx_isI 1 (o_ald 0 (o_ld rx_isI 2 (o_ld rx_isI 3 (o_ld rx_isI 4 (o_callV 4 13 (g 3) (o_st rx_isI 5 (o_ld rx_isR 0 (o_getf 13 164 (o_c1 rx_eq (vX13_execOther_123 g) (vX13_execOther_138 g)))))))))))))
set_option maxRecDepth 20000 in
theorem wX13_execOther_100 {dn : Nat} {g : Nat → List Nat → rx_H → Option (Nat × rx_H)} (hZ : zO b e D A X) (hg : ∀ i y M, vl19[i]? = some (y, M) → rx_Met (zV b e D A X) dn y M (g i)) (hd : 333 ≤ dn) : rx_OK (zV b e D A X) mX13_execOther (dn + 1) 100 (vX13_execOther_100 g) := by
  unfold vX13_execOther_100
  refine s_aload_n hZ.1 dX13_execOther_100 rfl ?_
  refine s_aload_n hZ.1 dX13_execOther_101 rfl ?_
  refine yg13_77 dX13_execOther_102 zw4198 ?_
  refine s_iload_n hZ.1 dX13_execOther_105 rfl ?_
  refine s_iald (tt := 0) rfl dX13_execOther_106 ?_
  refine s_iload_n hZ.1 dX13_execOther_107 rfl ?_
  refine s_iload_n hZ.1 dX13_execOther_108 rfl ?_
  refine s_iload hZ.1 dX13_execOther_109 ?_
  refine s_callV hZ.1 (hg 3 _ _ rfl) (Nat.le_refl _) vy_X13_eval zcl13 zw3852 zw360 (Or.inl zw3850) dX13_execOther_111 ?_
  refine s_istore hZ.1 dX13_execOther_114 (Nat.le_of_ble_eq_true rfl) ?_
  refine s_aload_n hZ.1 dX13_execOther_116 rfl ?_
  refine yg13_164 dX13_execOther_117 zw4284 ?_
  exact s_if_ne dX13_execOther_120 (by decide) (wX13_execOther_138 hZ hg hd) (wX13_execOther_123 hZ hg hd)
noncomputable def vX13_execOther_86 (g : Nat → List Nat → rx_H → Option (Nat × rx_H)) : rx_K := o_ld rx_isR 0 (o_ld rx_isI 5 (o_putf rx_isI 13 166 (o_ld rx_isR 0 (o_const 8 (o_putf rx_isI 13 164 ((vX13_execOther_310 g)))))))
set_option maxRecDepth 20000 in
theorem wX13_execOther_86 {dn : Nat} {g : Nat → List Nat → rx_H → Option (Nat × rx_H)} (hZ : zO b e D A X) (hg : ∀ i y M, vl19[i]? = some (y, M) → rx_Met (zV b e D A X) dn y M (g i)) (hd : 333 ≤ dn) : rx_OK (zV b e D A X) mX13_execOther (dn + 1) 86 (vX13_execOther_86 g) := by
  unfold vX13_execOther_86
  refine s_aload_n hZ.1 dX13_execOther_86 rfl ?_
  refine s_iload hZ.1 dX13_execOther_87 ?_
  refine yp13_166 hZ.1 dX13_execOther_89 zw4286 ?_
  refine s_aload_n hZ.1 dX13_execOther_92 rfl ?_
  refine s_iconst dX13_execOther_93 (by decide +kernel) ?_
  refine yp13_164 hZ.1 dX13_execOther_94 zw4284 ?_
  exact s_goto dX13_execOther_97 (by decide) (wX13_execOther_310 hZ hg hd)
noncomputable def vX13_execOther_77 (g : Nat → List Nat → rx_H → Option (Nat × rx_H)) : rx_K := o_st rx_isI 5 (o_ld rx_isR 0 (o_getf 13 164 (o_c1 rx_eq (vX13_execOther_86 g) (vX13_execOther_310 g))))
set_option maxRecDepth 20000 in
theorem wX13_execOther_77 {dn : Nat} {g : Nat → List Nat → rx_H → Option (Nat × rx_H)} (hZ : zO b e D A X) (hg : ∀ i y M, vl19[i]? = some (y, M) → rx_Met (zV b e D A X) dn y M (g i)) (hd : 333 ≤ dn) : rx_OK (zV b e D A X) mX13_execOther (dn + 1) 77 (vX13_execOther_77 g) := by
  unfold vX13_execOther_77
  refine s_istore hZ.1 dX13_execOther_77 (Nat.le_of_ble_eq_true rfl) ?_
  refine s_aload_n hZ.1 dX13_execOther_79 rfl ?_
  refine yg13_164 dX13_execOther_80 zw4284 ?_
  exact s_if_ne dX13_execOther_83 (by decide) (wX13_execOther_310 hZ hg hd) (wX13_execOther_86 hZ hg hd)
noncomputable def vX13_execOther_63 (g : Nat → List Nat → rx_H → Option (Nat × rx_H)) : rx_K := o_ld rx_isR 0 (o_ld rx_isR 0 (o_getf 13 77 (o_ld rx_isI 1 (o_ald 0 (o_ld rx_isI 2 (o_ld rx_isI 3 (o_ld rx_isI 4 (o_callV 4 13 (g 3) ((vX13_execOther_77 g))))))))))
set_option maxRecDepth 20000 in
theorem wX13_execOther_63 {dn : Nat} {g : Nat → List Nat → rx_H → Option (Nat × rx_H)} (hZ : zO b e D A X) (hg : ∀ i y M, vl19[i]? = some (y, M) → rx_Met (zV b e D A X) dn y M (g i)) (hd : 333 ≤ dn) : rx_OK (zV b e D A X) mX13_execOther (dn + 1) 63 (vX13_execOther_63 g) := by
  unfold vX13_execOther_63
  refine s_aload_n hZ.1 dX13_execOther_63 rfl ?_
  refine s_aload_n hZ.1 dX13_execOther_64 rfl ?_
  refine yg13_77 dX13_execOther_65 zw4198 ?_
  refine s_iload_n hZ.1 dX13_execOther_68 rfl ?_
  refine s_iald (tt := 0) rfl dX13_execOther_69 ?_
  refine s_iload_n hZ.1 dX13_execOther_70 rfl ?_
  refine s_iload_n hZ.1 dX13_execOther_71 rfl ?_
  refine s_iload hZ.1 dX13_execOther_72 ?_
  refine s_callV hZ.1 (hg 3 _ _ rfl) (Nat.le_refl _) vy_X13_eval zcl13 zw3852 zw360 (Or.inl zw3850) dX13_execOther_74 ?_
  exact (wX13_execOther_77 hZ hg hd)
noncomputable def vX13_execOther_59 (g : Nat → List Nat → rx_H → Option (Nat × rx_H)) : rx_K := o_const 0 ((vX13_execOther_77 g))
set_option maxRecDepth 20000 in
theorem wX13_execOther_59 {dn : Nat} {g : Nat → List Nat → rx_H → Option (Nat × rx_H)} (hZ : zO b e D A X) (hg : ∀ i y M, vl19[i]? = some (y, M) → rx_Met (zV b e D A X) dn y M (g i)) (hd : 333 ≤ dn) : rx_OK (zV b e D A X) mX13_execOther (dn + 1) 59 (vX13_execOther_59 g) := by
  unfold vX13_execOther_59
  refine s_iconst dX13_execOther_59 (by decide +kernel) ?_
  exact s_goto dX13_execOther_60 (by decide) (wX13_execOther_77 hZ hg hd)
noncomputable def vX13_execOther_48 (g : Nat → List Nat → rx_H → Option (Nat × rx_H)) : rx_K := o_ld rx_isR 0 (o_getf 13 77 (o_ld rx_isI 1 (o_ald 0 (o_const 34359738352 (o_c2 rx_eq (vX13_execOther_59 g) (vX13_execOther_63 g))))))
set_option maxRecDepth 20000 in
theorem wX13_execOther_48 {dn : Nat} {g : Nat → List Nat → rx_H → Option (Nat × rx_H)} (hZ : zO b e D A X) (hg : ∀ i y M, vl19[i]? = some (y, M) → rx_Met (zV b e D A X) dn y M (g i)) (hd : 333 ≤ dn) : rx_OK (zV b e D A X) mX13_execOther (dn + 1) 48 (vX13_execOther_48 g) := by
  unfold vX13_execOther_48
  refine s_aload_n hZ.1 dX13_execOther_48 rfl ?_
  refine yg13_77 dX13_execOther_49 zw4198 ?_
  refine s_iload_n hZ.1 dX13_execOther_52 rfl ?_
  refine s_iald (tt := 0) rfl dX13_execOther_53 ?_
  refine s_bipush dX13_execOther_54 (by decide +kernel) ?_
  exact s_icmp_ne dX13_execOther_56 (by decide) (wX13_execOther_63 hZ hg hd) (wX13_execOther_59 hZ hg hd)
noncomputable def vX13_execOther_0 (g : Nat → List Nat → rx_H → Option (Nat × rx_H)) : rx_K := o_ld rx_isR 0 (o_getf 13 70 (o_ld rx_isI 1 (o_ald 0 (o_sw 24 [48, 100, 295, 159, 215, 295, 283] 295 (rx_pk [(48, (vX13_execOther_48 g)), (100, (vX13_execOther_100 g)), (159, (vX13_execOther_159 g)), (215, (vX13_execOther_215 g)), (283, (vX13_execOther_283 g)), (295, (vX13_execOther_295 g))])))))
set_option maxRecDepth 20000 in
theorem wX13_execOther_0 {dn : Nat} {g : Nat → List Nat → rx_H → Option (Nat × rx_H)} (hZ : zO b e D A X) (hg : ∀ i y M, vl19[i]? = some (y, M) → rx_Met (zV b e D A X) dn y M (g i)) (hd : 333 ≤ dn) : rx_OK (zV b e D A X) mX13_execOther (dn + 1) 0 (vX13_execOther_0 g) := by
  unfold vX13_execOther_0
  refine s_aload_n hZ.1 dX13_execOther_0 rfl ?_
  refine yg13_70 dX13_execOther_1 zw4191 ?_
  refine s_iload_n hZ.1 dX13_execOther_4 rfl ?_
  refine s_iald (tt := 0) rfl dX13_execOther_5 ?_
  exact s_sw dX13_execOther_6 (by decide) (by decide) (by decide) (by decide) (by decide) (fun b _ => (rx_pk_ok (List.forall_mem_cons.mpr ⟨(wX13_execOther_48 hZ hg hd), List.forall_mem_cons.mpr ⟨(wX13_execOther_100 hZ hg hd), List.forall_mem_cons.mpr ⟨(wX13_execOther_159 hZ hg hd), List.forall_mem_cons.mpr ⟨(wX13_execOther_215 hZ hg hd), List.forall_mem_cons.mpr ⟨(wX13_execOther_283 hZ hg hd), List.forall_mem_cons.mpr ⟨(wX13_execOther_295 hZ hg hd), fun _ h => absurd h List.not_mem_nil⟩⟩⟩⟩⟩⟩)) b)
noncomputable def FX13_execOther (g : Nat → List Nat → rx_H → Option (Nat × rx_H)) : List Nat → rx_H → Option (Nat × rx_H) := rx_ent 6 (vX13_execOther_0 g)
theorem Met_X13_execOther {dn : Nat} {g : Nat → List Nat → rx_H → Option (Nat × rx_H)} (hZ : zO b e D A X) (hg : ∀ i y M, vl19[i]? = some (y, M) → rx_Met (zV b e D A X) dn y M (g i)) (hd : 333 ≤ dn) : rx_Met (zV b e D A X) (dn + 1) yX13_execOther mX13_execOther (FX13_execOther g) := rx_entry hZ.1 (wX13_execOther_0 hZ hg hd) (by decide +kernel) rfl (fun h => by cases h)
noncomputable def vX13_execPut_206 (g : Nat → List Nat → rx_H → Option (Nat × rx_H)) : rx_K := o_ret0
set_option maxRecDepth 20000 in
theorem wX13_execPut_206 {dn : Nat} {g : Nat → List Nat → rx_H → Option (Nat × rx_H)} (hZ : zO b e D A X) (hg : ∀ i y M, vl19[i]? = some (y, M) → rx_Met (zV b e D A X) dn y M (g i)) (hd : 333 ≤ dn) : rx_OK (zV b e D A X) mX13_execPut (dn + 1) 206 (vX13_execPut_206 g) := by
  unfold vX13_execPut_206
  exact s_vret rfl dX13_execPut_206
noncomputable def vX13_execPut_197 (g : Nat → List Nat → rx_H → Option (Nat × rx_H)) : rx_K := o_ld rx_isR 0 (o_getf 13 152 (o_ld rx_isI 9 (o_ld rx_isI 7 (o_ast 0 (fun v => v) rx_isI ((vX13_execPut_206 g))))))
set_option maxRecDepth 20000 in
theorem wX13_execPut_197 {dn : Nat} {g : Nat → List Nat → rx_H → Option (Nat × rx_H)} (hZ : zO b e D A X) (hg : ∀ i y M, vl19[i]? = some (y, M) → rx_Met (zV b e D A X) dn y M (g i)) (hd : 333 ≤ dn) : rx_OK (zV b e D A X) mX13_execPut (dn + 1) 197 (vX13_execPut_197 g) := by
  unfold vX13_execPut_197
  refine s_aload_n hZ.1 dX13_execPut_197 rfl ?_
  refine yg13_152 dX13_execPut_198 zw4272 ?_
  refine s_iload hZ.1 dX13_execPut_201 ?_
  refine s_iload hZ.1 dX13_execPut_203 ?_
  refine s_iast hZ.1 (tt := 0) rfl dX13_execPut_205 ?_
  exact (wX13_execPut_206 hZ hg hd)
noncomputable def vX13_execPut_180 (g : Nat → List Nat → rx_H → Option (Nat × rx_H)) : rx_K := o_ld rx_isR 0 (o_ld rx_isI 6 (o_ld rx_isI 8 (o_callV 2 13 FX13_cellOf (o_st rx_isI 9 (o_ld rx_isI 9 (o_const 34359738352 (o_c2 rx_eq (vX13_execPut_206 g) (vX13_execPut_197 g))))))))
set_option maxRecDepth 20000 in
theorem wX13_execPut_180 {dn : Nat} {g : Nat → List Nat → rx_H → Option (Nat × rx_H)} (hZ : zO b e D A X) (hg : ∀ i y M, vl19[i]? = some (y, M) → rx_Met (zV b e D A X) dn y M (g i)) (hd : 333 ≤ dn) : rx_OK (zV b e D A X) mX13_execPut (dn + 1) 180 (vX13_execPut_180 g) := by
  unfold vX13_execPut_180
  refine s_aload_n hZ.1 dX13_execPut_180 rfl ?_
  refine s_iload hZ.1 dX13_execPut_181 ?_
  refine s_iload hZ.1 dX13_execPut_183 ?_
  refine s_callV hZ.1 (Met_X13_cellOf hZ) (Nat.succ_le_succ (Nat.le_trans (Nat.le_of_ble_eq_true rfl) hd)) vy_X13_cellOf zcl13 zw3876 zw366 (Or.inl zw3874) dX13_execPut_185 ?_
  refine s_istore hZ.1 dX13_execPut_188 (Nat.le_of_ble_eq_true rfl) ?_
  refine s_iload hZ.1 dX13_execPut_190 ?_
  refine s_bipush dX13_execPut_192 (by decide +kernel) ?_
  exact s_icmp_eq dX13_execPut_194 (by decide) (wX13_execPut_206 hZ hg hd) (wX13_execPut_197 hZ hg hd)
noncomputable def vX13_execPut_170 (g : Nat → List Nat → rx_H → Option (Nat × rx_H)) : rx_K := o_ld rx_isR 0 (o_const 104 (o_callV 1 13 FX13_fail (o_pop ((vX13_execPut_206 g)))))
set_option maxRecDepth 20000 in
theorem wX13_execPut_170 {dn : Nat} {g : Nat → List Nat → rx_H → Option (Nat × rx_H)} (hZ : zO b e D A X) (hg : ∀ i y M, vl19[i]? = some (y, M) → rx_Met (zV b e D A X) dn y M (g i)) (hd : 333 ≤ dn) : rx_OK (zV b e D A X) mX13_execPut (dn + 1) 170 (vX13_execPut_170 g) := by
  unfold vX13_execPut_170
  refine s_aload_n hZ.1 dX13_execPut_170 rfl ?_
  refine s_bipush dX13_execPut_171 (by decide +kernel) ?_
  refine s_callV hZ.1 (Met_X13_fail hZ) (Nat.succ_le_succ (Nat.le_trans (Nat.le_of_ble_eq_true rfl) hd)) vy_X13_fail zcl13 zw3820 zw352 (Or.inl zw3818) dX13_execPut_173 ?_
  refine s_pop hZ.1 dX13_execPut_176 ?_
  exact s_goto dX13_execPut_177 (by decide) (wX13_execPut_206 hZ hg hd)
noncomputable def vX13_execPut_165 (g : Nat → List Nat → rx_H → Option (Nat × rx_H)) : rx_K := o_ld rx_isI 6 (o_c1 rx_eq (vX13_execPut_170 g) (vX13_execPut_180 g))
set_option maxRecDepth 20000 in
theorem wX13_execPut_165 {dn : Nat} {g : Nat → List Nat → rx_H → Option (Nat × rx_H)} (hZ : zO b e D A X) (hg : ∀ i y M, vl19[i]? = some (y, M) → rx_Met (zV b e D A X) dn y M (g i)) (hd : 333 ≤ dn) : rx_OK (zV b e D A X) mX13_execPut (dn + 1) 165 (vX13_execPut_165 g) := by
  unfold vX13_execPut_165
  refine s_iload hZ.1 dX13_execPut_165 ?_
  exact s_if_ne dX13_execPut_167 (by decide) (wX13_execPut_180 hZ hg hd) (wX13_execPut_170 hZ hg hd)
noncomputable def vX13_execPut_153 (g : Nat → List Nat → rx_H → Option (Nat × rx_H)) : rx_K := o_ld rx_isR 0 (o_getf 13 148 (o_ld rx_isI 8 (o_ld rx_isI 7 (o_ast 0 (fun v => v) rx_isI ((vX13_execPut_206 g))))))
set_option maxRecDepth 20000 in
theorem wX13_execPut_153 {dn : Nat} {g : Nat → List Nat → rx_H → Option (Nat × rx_H)} (hZ : zO b e D A X) (hg : ∀ i y M, vl19[i]? = some (y, M) → rx_Met (zV b e D A X) dn y M (g i)) (hd : 333 ≤ dn) : rx_OK (zV b e D A X) mX13_execPut (dn + 1) 153 (vX13_execPut_153 g) := by
  unfold vX13_execPut_153
  refine s_aload_n hZ.1 dX13_execPut_153 rfl ?_
  refine yg13_148 dX13_execPut_154 zw4268 ?_
  refine s_iload hZ.1 dX13_execPut_157 ?_
  refine s_iload hZ.1 dX13_execPut_159 ?_
  refine s_iast hZ.1 (tt := 0) rfl dX13_execPut_161 ?_
  exact s_goto dX13_execPut_162 (by decide) (wX13_execPut_206 hZ hg hd)
noncomputable def vX13_execPut_136 (g : Nat → List Nat → rx_H → Option (Nat × rx_H)) : rx_K := o_ld rx_isR 0 (o_ld rx_isR 0 (o_ld rx_isI 8 (o_callV 1 13 FX13_classOfMember (o_callV 1 13 (g 14) (o_ld rx_isR 0 (o_getf 13 164 (o_c1 rx_eq (vX13_execPut_153 g) (vX13_execPut_206 g))))))))
set_option maxRecDepth 20000 in
theorem wX13_execPut_136 {dn : Nat} {g : Nat → List Nat → rx_H → Option (Nat × rx_H)} (hZ : zO b e D A X) (hg : ∀ i y M, vl19[i]? = some (y, M) → rx_Met (zV b e D A X) dn y M (g i)) (hd : 333 ≤ dn) : rx_OK (zV b e D A X) mX13_execPut (dn + 1) 136 (vX13_execPut_136 g) := by
  unfold vX13_execPut_136
  refine s_aload_n hZ.1 dX13_execPut_136 rfl ?_
  refine s_aload_n hZ.1 dX13_execPut_137 rfl ?_
  refine s_iload hZ.1 dX13_execPut_138 ?_
  refine s_callV hZ.1 (Met_X13_classOfMember hZ) (Nat.succ_le_succ (Nat.le_trans (Nat.le_of_ble_eq_true rfl) hd)) vy_X13_classOfMember zcl13 zw3255 zw241 (Or.inl zw3253) dX13_execPut_140 ?_
  refine s_callV hZ.1 (hg 14 _ _ rfl) (Nat.le_refl _) vy_X13_start zcl13 zw3816 zw351 (Or.inl zw3814) dX13_execPut_143 ?_
  refine s_aload_n hZ.1 dX13_execPut_146 rfl ?_
  refine yg13_164 dX13_execPut_147 zw4284 ?_
  exact s_if_ne dX13_execPut_150 (by decide) (wX13_execPut_206 hZ hg hd) (wX13_execPut_153 hZ hg hd)
noncomputable def vX13_execPut_118 (g : Nat → List Nat → rx_H → Option (Nat × rx_H)) : rx_K := o_ld rx_isR 0 (o_getf 13 140 (o_st rx_isI 8 (o_ld rx_isR 0 (o_getf 13 82 (o_ld rx_isI 5 (o_ald 0 (o_const 34359738272 (o_c2 rx_eq (vX13_execPut_165 g) (vX13_execPut_136 g)))))))))
set_option maxRecDepth 20000 in
theorem wX13_execPut_118 {dn : Nat} {g : Nat → List Nat → rx_H → Option (Nat × rx_H)} (hZ : zO b e D A X) (hg : ∀ i y M, vl19[i]? = some (y, M) → rx_Met (zV b e D A X) dn y M (g i)) (hd : 333 ≤ dn) : rx_OK (zV b e D A X) mX13_execPut (dn + 1) 118 (vX13_execPut_118 g) := by
  unfold vX13_execPut_118
  refine s_aload_n hZ.1 dX13_execPut_118 rfl ?_
  refine yg13_140 dX13_execPut_119 zw4260 ?_
  refine s_istore hZ.1 dX13_execPut_122 (Nat.le_of_ble_eq_true rfl) ?_
  refine s_aload_n hZ.1 dX13_execPut_124 rfl ?_
  refine yg13_82 dX13_execPut_125 zw4203 ?_
  refine s_iload hZ.1 dX13_execPut_128 ?_
  refine s_iald (tt := 0) rfl dX13_execPut_130 ?_
  refine s_bipush dX13_execPut_131 (by decide +kernel) ?_
  exact s_icmp_eq dX13_execPut_133 (by decide) (wX13_execPut_165 hZ hg hd) (wX13_execPut_136 hZ hg hd)
noncomputable def vX13_execPut_117 (g : Nat → List Nat → rx_H → Option (Nat × rx_H)) : rx_K := o_ret0
set_option maxRecDepth 20000 in
theorem wX13_execPut_117 {dn : Nat} {g : Nat → List Nat → rx_H → Option (Nat × rx_H)} (hZ : zO b e D A X) (hg : ∀ i y M, vl19[i]? = some (y, M) → rx_Met (zV b e D A X) dn y M (g i)) (hd : 333 ≤ dn) : rx_OK (zV b e D A X) mX13_execPut (dn + 1) 117 (vX13_execPut_117 g) := by
  unfold vX13_execPut_117
  exact s_vret rfl dX13_execPut_117
noncomputable def vX13_execPut_104 (g : Nat → List Nat → rx_H → Option (Nat × rx_H)) : rx_K := o_ld rx_isR 0 (o_ld rx_isR 0 (o_getf 13 87 (o_ld rx_isI 1 (o_ald 0 (o_callV 1 13 FX13_asks (o_c1 rx_eq (vX13_execPut_117 g) (vX13_execPut_118 g)))))))
set_option maxRecDepth 20000 in
theorem wX13_execPut_104 {dn : Nat} {g : Nat → List Nat → rx_H → Option (Nat × rx_H)} (hZ : zO b e D A X) (hg : ∀ i y M, vl19[i]? = some (y, M) → rx_Met (zV b e D A X) dn y M (g i)) (hd : 333 ≤ dn) : rx_OK (zV b e D A X) mX13_execPut (dn + 1) 104 (vX13_execPut_104 g) := by
  unfold vX13_execPut_104
  refine s_aload_n hZ.1 dX13_execPut_104 rfl ?_
  refine s_aload_n hZ.1 dX13_execPut_105 rfl ?_
  refine yg13_87 dX13_execPut_106 zw4208 ?_
  refine s_iload_n hZ.1 dX13_execPut_109 rfl ?_
  refine s_iald (tt := 0) rfl dX13_execPut_110 ?_
  refine s_callV hZ.1 (Met_X13_asks hZ) (Nat.succ_le_succ (Nat.le_trans (Nat.le_of_ble_eq_true rfl) hd)) vy_X13_asks zcl13 zw3868 zw364 (Or.inl zw3866) dX13_execPut_111 ?_
  exact s_if_ne dX13_execPut_114 (by decide) (wX13_execPut_118 hZ hg hd) (wX13_execPut_117 hZ hg hd)
noncomputable def vX13_execPut_86 (g : Nat → List Nat → rx_H → Option (Nat × rx_H)) : rx_K := o_ld rx_isR 0 (o_getf 13 154 (o_ld rx_isI 4 (o_ld rx_isR 0 (o_getf 13 82 (o_ld rx_isI 5 (o_ald 0 (o_bi (fun x y => x + y) (o_ld rx_isI 7 (o_ast 0 (fun v => v) rx_isI (o_ret0))))))))))
set_option maxRecDepth 20000 in
theorem wX13_execPut_86 {dn : Nat} {g : Nat → List Nat → rx_H → Option (Nat × rx_H)} (hZ : zO b e D A X) (hg : ∀ i y M, vl19[i]? = some (y, M) → rx_Met (zV b e D A X) dn y M (g i)) (hd : 333 ≤ dn) : rx_OK (zV b e D A X) mX13_execPut (dn + 1) 86 (vX13_execPut_86 g) := by
  unfold vX13_execPut_86
  refine s_aload_n hZ.1 dX13_execPut_86 rfl ?_
  refine yg13_154 dX13_execPut_87 zw4274 ?_
  refine s_iload hZ.1 dX13_execPut_90 ?_
  refine s_aload_n hZ.1 dX13_execPut_92 rfl ?_
  refine yg13_82 dX13_execPut_93 zw4203 ?_
  refine s_iload hZ.1 dX13_execPut_96 ?_
  refine s_iald (tt := 0) rfl dX13_execPut_98 ?_
  refine s_iadd dX13_execPut_99 ?_
  refine s_iload hZ.1 dX13_execPut_100 ?_
  refine s_iast hZ.1 (tt := 0) rfl dX13_execPut_102 ?_
  exact s_vret rfl dX13_execPut_103
noncomputable def vX13_execPut_76 (g : Nat → List Nat → rx_H → Option (Nat × rx_H)) : rx_K := o_ld rx_isR 0 (o_getf 13 82 (o_ld rx_isI 5 (o_ald 0 (o_c1 rx_lt (vX13_execPut_104 g) (vX13_execPut_86 g)))))
set_option maxRecDepth 20000 in
theorem wX13_execPut_76 {dn : Nat} {g : Nat → List Nat → rx_H → Option (Nat × rx_H)} (hZ : zO b e D A X) (hg : ∀ i y M, vl19[i]? = some (y, M) → rx_Met (zV b e D A X) dn y M (g i)) (hd : 333 ≤ dn) : rx_OK (zV b e D A X) mX13_execPut (dn + 1) 76 (vX13_execPut_76 g) := by
  unfold vX13_execPut_76
  refine s_aload_n hZ.1 dX13_execPut_76 rfl ?_
  refine yg13_82 dX13_execPut_77 zw4203 ?_
  refine s_iload hZ.1 dX13_execPut_80 ?_
  refine s_iald (tt := 0) rfl dX13_execPut_82 ?_
  exact s_if_lt dX13_execPut_83 (by decide) (wX13_execPut_104 hZ hg hd) (wX13_execPut_86 hZ hg hd)
noncomputable def vX13_execPut_75 (g : Nat → List Nat → rx_H → Option (Nat × rx_H)) : rx_K := o_ret0
set_option maxRecDepth 20000 in
theorem wX13_execPut_75 {dn : Nat} {g : Nat → List Nat → rx_H → Option (Nat × rx_H)} (hZ : zO b e D A X) (hg : ∀ i y M, vl19[i]? = some (y, M) → rx_Met (zV b e D A X) dn y M (g i)) (hd : 333 ≤ dn) : rx_OK (zV b e D A X) mX13_execPut (dn + 1) 75 (vX13_execPut_75 g) := by
  unfold vX13_execPut_75
  exact s_vret rfl dX13_execPut_75
noncomputable def vX13_execPut_66 (g : Nat → List Nat → rx_H → Option (Nat × rx_H)) : rx_K := o_st rx_isI 7 (o_ld rx_isR 0 (o_getf 13 164 (o_c1 rx_eq (vX13_execPut_76 g) (vX13_execPut_75 g))))
set_option maxRecDepth 20000 in
theorem wX13_execPut_66 {dn : Nat} {g : Nat → List Nat → rx_H → Option (Nat × rx_H)} (hZ : zO b e D A X) (hg : ∀ i y M, vl19[i]? = some (y, M) → rx_Met (zV b e D A X) dn y M (g i)) (hd : 333 ≤ dn) : rx_OK (zV b e D A X) mX13_execPut (dn + 1) 66 (vX13_execPut_66 g) := by
  unfold vX13_execPut_66
  refine s_istore hZ.1 dX13_execPut_66 (Nat.le_of_ble_eq_true rfl) ?_
  refine s_aload_n hZ.1 dX13_execPut_68 rfl ?_
  refine yg13_164 dX13_execPut_69 zw4284 ?_
  exact s_if_eq dX13_execPut_72 (by decide) (wX13_execPut_76 hZ hg hd) (wX13_execPut_75 hZ hg hd)
noncomputable def vX13_execPut_65 (g : Nat → List Nat → rx_H → Option (Nat × rx_H)) : rx_K := o_const 0 ((vX13_execPut_66 g))
set_option maxRecDepth 20000 in
theorem wX13_execPut_65 {dn : Nat} {g : Nat → List Nat → rx_H → Option (Nat × rx_H)} (hZ : zO b e D A X) (hg : ∀ i y M, vl19[i]? = some (y, M) → rx_Met (zV b e D A X) dn y M (g i)) (hd : 333 ≤ dn) : rx_OK (zV b e D A X) mX13_execPut (dn + 1) 65 (vX13_execPut_65 g) := by
  unfold vX13_execPut_65
  refine s_iconst dX13_execPut_65 (by decide +kernel) ?_
  exact (wX13_execPut_66 hZ hg hd)
noncomputable def vX13_execPut_48 (g : Nat → List Nat → rx_H → Option (Nat × rx_H)) : rx_K := o_ld rx_isR 0 (o_ld rx_isR 0 (o_getf 13 78 (o_ld rx_isI 1 (o_ald 0 (o_ld rx_isI 2 (o_ld rx_isI 3 (o_ld rx_isI 4 (o_callV 4 13 (g 3) ((vX13_execPut_66 g))))))))))
set_option maxRecDepth 20000 in
theorem wX13_execPut_48 {dn : Nat} {g : Nat → List Nat → rx_H → Option (Nat × rx_H)} (hZ : zO b e D A X) (hg : ∀ i y M, vl19[i]? = some (y, M) → rx_Met (zV b e D A X) dn y M (g i)) (hd : 333 ≤ dn) : rx_OK (zV b e D A X) mX13_execPut (dn + 1) 48 (vX13_execPut_48 g) := by
  unfold vX13_execPut_48
  refine s_aload_n hZ.1 dX13_execPut_48 rfl ?_
  refine s_aload_n hZ.1 dX13_execPut_49 rfl ?_
  refine yg13_78 dX13_execPut_50 zw4199 ?_
  refine s_iload_n hZ.1 dX13_execPut_53 rfl ?_
  refine s_iald (tt := 0) rfl dX13_execPut_54 ?_
  refine s_iload_n hZ.1 dX13_execPut_55 rfl ?_
  refine s_iload_n hZ.1 dX13_execPut_56 rfl ?_
  refine s_iload hZ.1 dX13_execPut_57 ?_
  refine s_callV hZ.1 (hg 3 _ _ rfl) (Nat.le_refl _) vy_X13_eval zcl13 zw3852 zw360 (Or.inl zw3850) dX13_execPut_59 ?_
  exact s_goto dX13_execPut_62 (by decide) (wX13_execPut_66 hZ hg hd)
noncomputable def vX13_execPut_39 (g : Nat → List Nat → rx_H → Option (Nat × rx_H)) : rx_K := o_st rx_isI 6 (o_ld rx_isR 0 (o_getf 13 164 (o_c1 rx_eq (vX13_execPut_48 g) (vX13_execPut_65 g))))
set_option maxRecDepth 20000 in
theorem wX13_execPut_39 {dn : Nat} {g : Nat → List Nat → rx_H → Option (Nat × rx_H)} (hZ : zO b e D A X) (hg : ∀ i y M, vl19[i]? = some (y, M) → rx_Met (zV b e D A X) dn y M (g i)) (hd : 333 ≤ dn) : rx_OK (zV b e D A X) mX13_execPut (dn + 1) 39 (vX13_execPut_39 g) := by
  unfold vX13_execPut_39
  refine s_istore hZ.1 dX13_execPut_39 (Nat.le_of_ble_eq_true rfl) ?_
  refine s_aload_n hZ.1 dX13_execPut_41 rfl ?_
  refine yg13_164 dX13_execPut_42 zw4284 ?_
  exact s_if_ne dX13_execPut_45 (by decide) (wX13_execPut_65 hZ hg hd) (wX13_execPut_48 hZ hg hd)
noncomputable def vX13_execPut_38 (g : Nat → List Nat → rx_H → Option (Nat × rx_H)) : rx_K := o_ld rx_isI 3 ((vX13_execPut_39 g))
set_option maxRecDepth 20000 in
theorem wX13_execPut_38 {dn : Nat} {g : Nat → List Nat → rx_H → Option (Nat × rx_H)} (hZ : zO b e D A X) (hg : ∀ i y M, vl19[i]? = some (y, M) → rx_Met (zV b e D A X) dn y M (g i)) (hd : 333 ≤ dn) : rx_OK (zV b e D A X) mX13_execPut (dn + 1) 38 (vX13_execPut_38 g) := by
  unfold vX13_execPut_38
  refine s_iload_n hZ.1 dX13_execPut_38 rfl ?_
  exact (wX13_execPut_39 hZ hg hd)
noncomputable def vX13_execPut_20 (g : Nat → List Nat → rx_H → Option (Nat × rx_H)) : rx_K := o_ld rx_isR 0 (o_ld rx_isR 0 (o_getf 13 77 (o_ld rx_isI 5 (o_ald 0 (o_ld rx_isI 2 (o_ld rx_isI 3 (o_ld rx_isI 4 (o_callV 4 13 (g 3) ((vX13_execPut_39 g))))))))))
set_option maxRecDepth 20000 in
theorem wX13_execPut_20 {dn : Nat} {g : Nat → List Nat → rx_H → Option (Nat × rx_H)} (hZ : zO b e D A X) (hg : ∀ i y M, vl19[i]? = some (y, M) → rx_Met (zV b e D A X) dn y M (g i)) (hd : 333 ≤ dn) : rx_OK (zV b e D A X) mX13_execPut (dn + 1) 20 (vX13_execPut_20 g) := by
  unfold vX13_execPut_20
  refine s_aload_n hZ.1 dX13_execPut_20 rfl ?_
  refine s_aload_n hZ.1 dX13_execPut_21 rfl ?_
  refine yg13_77 dX13_execPut_22 zw4198 ?_
  refine s_iload hZ.1 dX13_execPut_25 ?_
  refine s_iald (tt := 0) rfl dX13_execPut_27 ?_
  refine s_iload_n hZ.1 dX13_execPut_28 rfl ?_
  refine s_iload_n hZ.1 dX13_execPut_29 rfl ?_
  refine s_iload hZ.1 dX13_execPut_30 ?_
  refine s_callV hZ.1 (hg 3 _ _ rfl) (Nat.le_refl _) vy_X13_eval zcl13 zw3852 zw360 (Or.inl zw3850) dX13_execPut_32 ?_
  exact s_goto dX13_execPut_35 (by decide) (wX13_execPut_39 hZ hg hd)
noncomputable def vX13_execPut_0 (g : Nat → List Nat → rx_H → Option (Nat × rx_H)) : rx_K := o_ld rx_isR 0 (o_getf 13 77 (o_ld rx_isI 1 (o_ald 0 (o_st rx_isI 5 (o_ld rx_isR 0 (o_getf 13 70 (o_ld rx_isI 5 (o_ald 0 (o_const 96 (o_c2 rx_eq (vX13_execPut_20 g) (vX13_execPut_38 g)))))))))))
set_option maxRecDepth 20000 in
theorem wX13_execPut_0 {dn : Nat} {g : Nat → List Nat → rx_H → Option (Nat × rx_H)} (hZ : zO b e D A X) (hg : ∀ i y M, vl19[i]? = some (y, M) → rx_Met (zV b e D A X) dn y M (g i)) (hd : 333 ≤ dn) : rx_OK (zV b e D A X) mX13_execPut (dn + 1) 0 (vX13_execPut_0 g) := by
  unfold vX13_execPut_0
  refine s_aload_n hZ.1 dX13_execPut_0 rfl ?_
  refine yg13_77 dX13_execPut_1 zw4198 ?_
  refine s_iload_n hZ.1 dX13_execPut_4 rfl ?_
  refine s_iald (tt := 0) rfl dX13_execPut_5 ?_
  refine s_istore hZ.1 dX13_execPut_6 (Nat.le_of_ble_eq_true rfl) ?_
  refine s_aload_n hZ.1 dX13_execPut_8 rfl ?_
  refine yg13_70 dX13_execPut_9 zw4191 ?_
  refine s_iload hZ.1 dX13_execPut_12 ?_
  refine s_iald (tt := 0) rfl dX13_execPut_14 ?_
  refine s_bipush dX13_execPut_15 (by decide +kernel) ?_
  exact s_icmp_ne dX13_execPut_17 (by decide) (wX13_execPut_38 hZ hg hd) (wX13_execPut_20 hZ hg hd)
noncomputable def FX13_execPut (g : Nat → List Nat → rx_H → Option (Nat × rx_H)) : List Nat → rx_H → Option (Nat × rx_H) := rx_ent 10 (vX13_execPut_0 g)
theorem Met_X13_execPut {dn : Nat} {g : Nat → List Nat → rx_H → Option (Nat × rx_H)} (hZ : zO b e D A X) (hg : ∀ i y M, vl19[i]? = some (y, M) → rx_Met (zV b e D A X) dn y M (g i)) (hd : 333 ≤ dn) : rx_Met (zV b e D A X) (dn + 1) yX13_execPut mX13_execPut (FX13_execPut g) := rx_entry hZ.1 (wX13_execPut_0 hZ hg hd) (by decide +kernel) rfl (fun h => by cases h)
noncomputable def vX13_getStatic_41 (g : Nat → List Nat → rx_H → Option (Nat × rx_H)) : rx_K := o_ret1 rx_isI
set_option maxRecDepth 20000 in
theorem wX13_getStatic_41 {dn : Nat} {g : Nat → List Nat → rx_H → Option (Nat × rx_H)} (hZ : zO b e D A X) (hg : ∀ i y M, vl19[i]? = some (y, M) → rx_Met (zV b e D A X) dn y M (g i)) (hd : 333 ≤ dn) : rx_OK (zV b e D A X) mX13_getStatic (dn + 1) 41 (vX13_getStatic_41 g) := by
  unfold vX13_getStatic_41
  exact s_iret hZ.1 rfl dX13_getStatic_41
noncomputable def vX13_getStatic_40 (g : Nat → List Nat → rx_H → Option (Nat × rx_H)) : rx_K := o_const 0 ((vX13_getStatic_41 g))
set_option maxRecDepth 20000 in
theorem wX13_getStatic_40 {dn : Nat} {g : Nat → List Nat → rx_H → Option (Nat × rx_H)} (hZ : zO b e D A X) (hg : ∀ i y M, vl19[i]? = some (y, M) → rx_Met (zV b e D A X) dn y M (g i)) (hd : 333 ≤ dn) : rx_OK (zV b e D A X) mX13_getStatic (dn + 1) 40 (vX13_getStatic_40 g) := by
  unfold vX13_getStatic_40
  refine s_iconst dX13_getStatic_40 (by decide +kernel) ?_
  exact (wX13_getStatic_41 hZ hg hd)
noncomputable def vX13_getStatic_31 (g : Nat → List Nat → rx_H → Option (Nat × rx_H)) : rx_K := o_ld rx_isR 0 (o_getf 13 148 (o_ld rx_isI 2 (o_ald 0 ((vX13_getStatic_41 g)))))
set_option maxRecDepth 20000 in
theorem wX13_getStatic_31 {dn : Nat} {g : Nat → List Nat → rx_H → Option (Nat × rx_H)} (hZ : zO b e D A X) (hg : ∀ i y M, vl19[i]? = some (y, M) → rx_Met (zV b e D A X) dn y M (g i)) (hd : 333 ≤ dn) : rx_OK (zV b e D A X) mX13_getStatic (dn + 1) 31 (vX13_getStatic_31 g) := by
  unfold vX13_getStatic_31
  refine s_aload_n hZ.1 dX13_getStatic_31 rfl ?_
  refine yg13_148 dX13_getStatic_32 zw4268 ?_
  refine s_iload_n hZ.1 dX13_getStatic_35 rfl ?_
  refine s_iald (tt := 0) rfl dX13_getStatic_36 ?_
  exact s_goto dX13_getStatic_37 (by decide) (wX13_getStatic_41 hZ hg hd)
noncomputable def vX13_getStatic_10 (g : Nat → List Nat → rx_H → Option (Nat × rx_H)) : rx_K := o_ld rx_isR 0 (o_getf 13 140 (o_st rx_isI 2 (o_ld rx_isR 0 (o_ld rx_isR 0 (o_ld rx_isI 2 (o_callV 1 13 FX13_classOfMember (o_callV 1 13 (g 14) (o_ld rx_isR 0 (o_getf 13 164 (o_c1 rx_eq (vX13_getStatic_31 g) (vX13_getStatic_40 g)))))))))))
set_option maxRecDepth 20000 in
theorem wX13_getStatic_10 {dn : Nat} {g : Nat → List Nat → rx_H → Option (Nat × rx_H)} (hZ : zO b e D A X) (hg : ∀ i y M, vl19[i]? = some (y, M) → rx_Met (zV b e D A X) dn y M (g i)) (hd : 333 ≤ dn) : rx_OK (zV b e D A X) mX13_getStatic (dn + 1) 10 (vX13_getStatic_10 g) := by
  unfold vX13_getStatic_10
  refine s_aload_n hZ.1 dX13_getStatic_10 rfl ?_
  refine yg13_140 dX13_getStatic_11 zw4260 ?_
  refine s_istore_n hZ.1 dX13_getStatic_14 rfl (Nat.le_of_ble_eq_true rfl) ?_
  refine s_aload_n hZ.1 dX13_getStatic_15 rfl ?_
  refine s_aload_n hZ.1 dX13_getStatic_16 rfl ?_
  refine s_iload_n hZ.1 dX13_getStatic_17 rfl ?_
  refine s_callV hZ.1 (Met_X13_classOfMember hZ) (Nat.succ_le_succ (Nat.le_trans (Nat.le_of_ble_eq_true rfl) hd)) vy_X13_classOfMember zcl13 zw3255 zw241 (Or.inl zw3253) dX13_getStatic_18 ?_
  refine s_callV hZ.1 (hg 14 _ _ rfl) (Nat.le_refl _) vy_X13_start zcl13 zw3816 zw351 (Or.inl zw3814) dX13_getStatic_21 ?_
  refine s_aload_n hZ.1 dX13_getStatic_24 rfl ?_
  refine yg13_164 dX13_getStatic_25 zw4284 ?_
  exact s_if_ne dX13_getStatic_28 (by decide) (wX13_getStatic_40 hZ hg hd) (wX13_getStatic_31 hZ hg hd)
noncomputable def vX13_getStatic_8 (g : Nat → List Nat → rx_H → Option (Nat × rx_H)) : rx_K := o_const 0 (o_ret1 rx_isI)
set_option maxRecDepth 20000 in
theorem wX13_getStatic_8 {dn : Nat} {g : Nat → List Nat → rx_H → Option (Nat × rx_H)} (hZ : zO b e D A X) (hg : ∀ i y M, vl19[i]? = some (y, M) → rx_Met (zV b e D A X) dn y M (g i)) (hd : 333 ≤ dn) : rx_OK (zV b e D A X) mX13_getStatic (dn + 1) 8 (vX13_getStatic_8 g) := by
  unfold vX13_getStatic_8
  refine s_iconst dX13_getStatic_8 (by decide +kernel) ?_
  exact s_iret hZ.1 rfl dX13_getStatic_9
noncomputable def vX13_getStatic_0 (g : Nat → List Nat → rx_H → Option (Nat × rx_H)) : rx_K := o_ld rx_isR 0 (o_ld rx_isI 1 (o_callV 1 13 FX13_asks (o_c1 rx_eq (vX13_getStatic_8 g) (vX13_getStatic_10 g))))
set_option maxRecDepth 20000 in
theorem wX13_getStatic_0 {dn : Nat} {g : Nat → List Nat → rx_H → Option (Nat × rx_H)} (hZ : zO b e D A X) (hg : ∀ i y M, vl19[i]? = some (y, M) → rx_Met (zV b e D A X) dn y M (g i)) (hd : 333 ≤ dn) : rx_OK (zV b e D A X) mX13_getStatic (dn + 1) 0 (vX13_getStatic_0 g) := by
  unfold vX13_getStatic_0
  refine s_aload_n hZ.1 dX13_getStatic_0 rfl ?_
  refine s_iload_n hZ.1 dX13_getStatic_1 rfl ?_
  refine s_callV hZ.1 (Met_X13_asks hZ) (Nat.succ_le_succ (Nat.le_trans (Nat.le_of_ble_eq_true rfl) hd)) vy_X13_asks zcl13 zw3868 zw364 (Or.inl zw3866) dX13_getStatic_2 ?_
  exact s_if_ne dX13_getStatic_5 (by decide) (wX13_getStatic_10 hZ hg hd) (wX13_getStatic_8 hZ hg hd)
noncomputable def FX13_getStatic (g : Nat → List Nat → rx_H → Option (Nat × rx_H)) : List Nat → rx_H → Option (Nat × rx_H) := rx_ent 3 (vX13_getStatic_0 g)
theorem Met_X13_getStatic {dn : Nat} {g : Nat → List Nat → rx_H → Option (Nat × rx_H)} (hZ : zO b e D A X) (hg : ∀ i y M, vl19[i]? = some (y, M) → rx_Met (zV b e D A X) dn y M (g i)) (hd : 333 ≤ dn) : rx_Met (zV b e D A X) (dn + 1) yX13_getStatic mX13_getStatic (FX13_getStatic g) := rx_entry hZ.1 (wX13_getStatic_0 hZ hg hd) (by decide +kernel) rfl (fun h => by cases h)
end ZM65

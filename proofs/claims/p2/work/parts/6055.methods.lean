section ZM55
variable {b : Nat} {e : Nat → Value} {D : va_G} {A : Nat → ClassId} {X : State → Prop}
noncomputable def vX13_judgeS_378 (g : Nat → List Nat → rx_H → Option (Nat × rx_H)) (j : Nat → rx_K) : rx_K := o_ret0
set_option maxRecDepth 20000 in
theorem wX13_judgeS_378 {dn : Nat} {g : Nat → List Nat → rx_H → Option (Nat × rx_H)} (hZ : zO b e D A X) (hg : ∀ i y M, vl14[i]? = some (y, M) → rx_Met (zV b e D A X) dn y M (g i)) (hd : 375 ≤ dn) (j : Nat → rx_K) (hj : ∀ k pc, [67][k]? = some pc → rx_OK (zV b e D A X) mX13_judgeS (dn + 1) pc (j k)) : rx_OK (zV b e D A X) mX13_judgeS (dn + 1) 378 (vX13_judgeS_378 g j) := by
  unfold vX13_judgeS_378
  exact s_vret rfl dX13_judgeS_378
noncomputable def vX13_judgeS_373 (g : Nat → List Nat → rx_H → Option (Nat × rx_H)) (j : Nat → rx_K) : rx_K := o_ld rx_isR 0 (o_ld rx_isI 1 (o_callV 1 13 FX13_judgeOther ((vX13_judgeS_378 g j))))
set_option maxRecDepth 20000 in
theorem wX13_judgeS_373 {dn : Nat} {g : Nat → List Nat → rx_H → Option (Nat × rx_H)} (hZ : zO b e D A X) (hg : ∀ i y M, vl14[i]? = some (y, M) → rx_Met (zV b e D A X) dn y M (g i)) (hd : 375 ≤ dn) (j : Nat → rx_K) (hj : ∀ k pc, [67][k]? = some pc → rx_OK (zV b e D A X) mX13_judgeS (dn + 1) pc (j k)) : rx_OK (zV b e D A X) mX13_judgeS (dn + 1) 373 (vX13_judgeS_373 g j) := by
  unfold vX13_judgeS_373
  refine s_aload_n hZ.1 dX13_judgeS_373 rfl ?_
  refine s_iload_n hZ.1 dX13_judgeS_374 rfl ?_
  refine s_callV hZ.1 (Met_X13_judgeOther hZ) (Nat.succ_le_succ (Nat.le_trans (Nat.le_of_ble_eq_true rfl) hd)) vy_X13_judgeOther zcl13 zw3489 zw296 (Or.inl zw3487) dX13_judgeS_375 ?_
  exact (wX13_judgeS_378 hZ hg hd j hj)
noncomputable def vX13_judgeS_361 (g : Nat → List Nat → rx_H → Option (Nat × rx_H)) (j : Nat → rx_K) : rx_K := o_ald 0 (o_callV 1 13 (g 0) (o_ld rx_isR 0 (o_ld rx_isI 2 (o_putf rx_isI 13 114 ((vX13_judgeS_378 g j))))))
set_option maxRecDepth 20000 in
theorem wX13_judgeS_361 {dn : Nat} {g : Nat → List Nat → rx_H → Option (Nat × rx_H)} (hZ : zO b e D A X) (hg : ∀ i y M, vl14[i]? = some (y, M) → rx_Met (zV b e D A X) dn y M (g i)) (hd : 375 ≤ dn) (j : Nat → rx_K) (hj : ∀ k pc, [67][k]? = some pc → rx_OK (zV b e D A X) mX13_judgeS (dn + 1) pc (j k)) : rx_OK (zV b e D A X) mX13_judgeS (dn + 1) 361 (vX13_judgeS_361 g j) := by
  unfold vX13_judgeS_361
  refine s_iald (tt := 0) rfl dX13_judgeS_361 ?_
  refine s_callV hZ.1 (hg 0 _ _ rfl) (Nat.le_refl _) vy_X13_judgeS zcl13 zw3485 zw295 (Or.inl zw3483) dX13_judgeS_362 ?_
  refine s_aload_n hZ.1 dX13_judgeS_365 rfl ?_
  refine s_iload_n hZ.1 dX13_judgeS_366 rfl ?_
  refine yp13_114 hZ.1 dX13_judgeS_367 zw4234 ?_
  exact s_goto dX13_judgeS_370 (by decide) (wX13_judgeS_378 hZ hg hd j hj)
noncomputable def vX13_judgeS_323 (g : Nat → List Nat → rx_H → Option (Nat × rx_H)) (j : Nat → rx_K) : rx_K := o_ld rx_isR 0 (o_getf 13 82 (o_ld rx_isI 1 (o_ld rx_isR 0 (o_getf 13 114 (o_ast 0 (fun v => v) rx_isI (o_ld rx_isR 0 (o_ld rx_isR 0 (o_getf 13 74 (o_ld rx_isI 1 (o_ald 1 (o_ld rx_isR 0 (o_getf 13 75 (o_ld rx_isI 1 (o_ald 1 (o_ld rx_isR 0 (o_getf 13 72 (o_ld rx_isI 1 (o_ald 0 (o_callV 3 13 FX13_local (o_ld rx_isR 0 (o_ld rx_isR 0 (o_getf 13 78 (o_ld rx_isI 1 ((vX13_judgeS_361 g j)))))))))))))))))))))))))
set_option maxRecDepth 20000 in
theorem wX13_judgeS_323 {dn : Nat} {g : Nat → List Nat → rx_H → Option (Nat × rx_H)} (hZ : zO b e D A X) (hg : ∀ i y M, vl14[i]? = some (y, M) → rx_Met (zV b e D A X) dn y M (g i)) (hd : 375 ≤ dn) (j : Nat → rx_K) (hj : ∀ k pc, [67][k]? = some pc → rx_OK (zV b e D A X) mX13_judgeS (dn + 1) pc (j k)) : rx_OK (zV b e D A X) mX13_judgeS (dn + 1) 323 (vX13_judgeS_323 g j) := by
  unfold vX13_judgeS_323
  refine s_aload_n hZ.1 dX13_judgeS_323 rfl ?_
  refine yg13_82 dX13_judgeS_324 zw4203 ?_
  refine s_iload_n hZ.1 dX13_judgeS_327 rfl ?_
  refine s_aload_n hZ.1 dX13_judgeS_328 rfl ?_
  refine yg13_114 dX13_judgeS_329 zw4234 ?_
  refine s_iast hZ.1 (tt := 0) rfl dX13_judgeS_332 ?_
  refine s_aload_n hZ.1 dX13_judgeS_333 rfl ?_
  refine s_aload_n hZ.1 dX13_judgeS_334 rfl ?_
  refine yg13_74 dX13_judgeS_335 zw4195 ?_
  refine s_iload_n hZ.1 dX13_judgeS_338 rfl ?_
  refine s_lald (tt := 1) rfl dX13_judgeS_339 ?_
  refine s_aload_n hZ.1 dX13_judgeS_340 rfl ?_
  refine yg13_75 dX13_judgeS_341 zw4196 ?_
  refine s_iload_n hZ.1 dX13_judgeS_344 rfl ?_
  refine s_lald (tt := 1) rfl dX13_judgeS_345 ?_
  refine s_aload_n hZ.1 dX13_judgeS_346 rfl ?_
  refine yg13_72 dX13_judgeS_347 zw4193 ?_
  refine s_iload_n hZ.1 dX13_judgeS_350 rfl ?_
  refine s_iald (tt := 0) rfl dX13_judgeS_351 ?_
  refine s_callV hZ.1 (Met_X13_local hZ) (Nat.succ_le_succ (Nat.le_trans (Nat.le_of_ble_eq_true rfl) hd)) vy_X13_local zcl13 zw3477 zw293 (Or.inl zw3475) dX13_judgeS_352 ?_
  refine s_aload_n hZ.1 dX13_judgeS_355 rfl ?_
  refine s_aload_n hZ.1 dX13_judgeS_356 rfl ?_
  refine yg13_78 dX13_judgeS_357 zw4199 ?_
  refine s_iload_n hZ.1 dX13_judgeS_360 rfl ?_
  exact (wX13_judgeS_361 hZ hg hd j hj)
noncomputable def vX13_judgeS_311 (g : Nat → List Nat → rx_H → Option (Nat × rx_H)) (j : Nat → rx_K) : rx_K := o_ld rx_isR 0 (o_const 104 (o_ld rx_isR 0 (o_getf 13 73 (o_ld rx_isI 1 (o_ald 0 (o_callV 2 13 FX13_fault ((vX13_judgeS_323 g j))))))))
set_option maxRecDepth 20000 in
theorem wX13_judgeS_311 {dn : Nat} {g : Nat → List Nat → rx_H → Option (Nat × rx_H)} (hZ : zO b e D A X) (hg : ∀ i y M, vl14[i]? = some (y, M) → rx_Met (zV b e D A X) dn y M (g i)) (hd : 375 ≤ dn) (j : Nat → rx_K) (hj : ∀ k pc, [67][k]? = some pc → rx_OK (zV b e D A X) mX13_judgeS (dn + 1) pc (j k)) : rx_OK (zV b e D A X) mX13_judgeS (dn + 1) 311 (vX13_judgeS_311 g j) := by
  unfold vX13_judgeS_311
  refine s_aload_n hZ.1 dX13_judgeS_311 rfl ?_
  refine s_bipush dX13_judgeS_312 (by decide +kernel) ?_
  refine s_aload_n hZ.1 dX13_judgeS_314 rfl ?_
  refine yg13_73 dX13_judgeS_315 zw4194 ?_
  refine s_iload_n hZ.1 dX13_judgeS_318 rfl ?_
  refine s_iald (tt := 0) rfl dX13_judgeS_319 ?_
  refine s_callV hZ.1 (Met_X13_fault hZ) (Nat.succ_le_succ (Nat.le_trans (Nat.le_of_ble_eq_true rfl) hd)) vy_X13_fault zcl13 zw3004 zw190 (Or.inl zw3002) dX13_judgeS_320 ?_
  exact (wX13_judgeS_323 hZ hg hd j hj)
noncomputable def vX13_judgeS_295 (g : Nat → List Nat → rx_H → Option (Nat × rx_H)) (j : Nat → rx_K) : rx_K := o_ld rx_isR 0 (o_ld rx_isR 0 (o_getf 13 75 (o_ld rx_isI 1 (o_ald 1 (o_const 18446744073765230689 (o_callV 2 13 FX13_fits (o_c1 rx_eq (vX13_judgeS_311 g j) (vX13_judgeS_323 g j))))))))
set_option maxRecDepth 20000 in
theorem wX13_judgeS_295 {dn : Nat} {g : Nat → List Nat → rx_H → Option (Nat × rx_H)} (hZ : zO b e D A X) (hg : ∀ i y M, vl14[i]? = some (y, M) → rx_Met (zV b e D A X) dn y M (g i)) (hd : 375 ≤ dn) (j : Nat → rx_K) (hj : ∀ k pc, [67][k]? = some pc → rx_OK (zV b e D A X) mX13_judgeS (dn + 1) pc (j k)) : rx_OK (zV b e D A X) mX13_judgeS (dn + 1) 295 (vX13_judgeS_295 g j) := by
  unfold vX13_judgeS_295
  refine s_aload_n hZ.1 dX13_judgeS_295 rfl ?_
  refine s_aload_n hZ.1 dX13_judgeS_296 rfl ?_
  refine yg13_75 dX13_judgeS_297 zw4196 ?_
  refine s_iload_n hZ.1 dX13_judgeS_300 rfl ?_
  refine s_lald (tt := 1) rfl dX13_judgeS_301 ?_
  refine s_ldc2 dX13_judgeS_302 zw3189 (by decide +kernel) ?_
  refine s_callV hZ.1 (Met_X13_fits hZ) (Nat.succ_le_succ (Nat.le_trans (Nat.le_of_ble_eq_true rfl) hd)) vy_X13_fits zcl13 zw3278 zw246 (Or.inl zw3276) dX13_judgeS_305 ?_
  exact s_if_ne dX13_judgeS_308 (by decide) (wX13_judgeS_323 hZ hg hd j hj) (wX13_judgeS_311 hZ hg hd j hj)
noncomputable def vX13_judgeS_258 (g : Nat → List Nat → rx_H → Option (Nat × rx_H)) (j : Nat → rx_K) : rx_K := o_ld rx_isR 0 (o_ld rx_isR 0 (o_getf 13 77 (o_ld rx_isI 1 (o_ald 0 (o_callV 1 13 (g 0) (o_ld rx_isR 0 (o_ld rx_isR 0 (o_getf 13 75 (o_ld rx_isI 1 (o_ald 1 (o_ld rx_isR 0 (o_getf 13 73 (o_ld rx_isI 1 (o_ald 0 (o_ld rx_isR 0 (o_getf 13 109 (o_callV 3 13 FX13_type (o_ld rx_isR 0 (o_getf 13 20 (o_c1 rx_eq (vX13_judgeS_295 g j) (vX13_judgeS_323 g j)))))))))))))))))))))
set_option maxRecDepth 20000 in
theorem wX13_judgeS_258 {dn : Nat} {g : Nat → List Nat → rx_H → Option (Nat × rx_H)} (hZ : zO b e D A X) (hg : ∀ i y M, vl14[i]? = some (y, M) → rx_Met (zV b e D A X) dn y M (g i)) (hd : 375 ≤ dn) (j : Nat → rx_K) (hj : ∀ k pc, [67][k]? = some pc → rx_OK (zV b e D A X) mX13_judgeS (dn + 1) pc (j k)) : rx_OK (zV b e D A X) mX13_judgeS (dn + 1) 258 (vX13_judgeS_258 g j) := by
  unfold vX13_judgeS_258
  refine s_aload_n hZ.1 dX13_judgeS_258 rfl ?_
  refine s_aload_n hZ.1 dX13_judgeS_259 rfl ?_
  refine yg13_77 dX13_judgeS_260 zw4198 ?_
  refine s_iload_n hZ.1 dX13_judgeS_263 rfl ?_
  refine s_iald (tt := 0) rfl dX13_judgeS_264 ?_
  refine s_callV hZ.1 (hg 0 _ _ rfl) (Nat.le_refl _) vy_X13_judgeS zcl13 zw3485 zw295 (Or.inl zw3483) dX13_judgeS_265 ?_
  refine s_aload_n hZ.1 dX13_judgeS_268 rfl ?_
  refine s_aload_n hZ.1 dX13_judgeS_269 rfl ?_
  refine yg13_75 dX13_judgeS_270 zw4196 ?_
  refine s_iload_n hZ.1 dX13_judgeS_273 rfl ?_
  refine s_lald (tt := 1) rfl dX13_judgeS_274 ?_
  refine s_aload_n hZ.1 dX13_judgeS_275 rfl ?_
  refine yg13_73 dX13_judgeS_276 zw4194 ?_
  refine s_iload_n hZ.1 dX13_judgeS_279 rfl ?_
  refine s_iald (tt := 0) rfl dX13_judgeS_280 ?_
  refine s_aload_n hZ.1 dX13_judgeS_281 rfl ?_
  refine yg13_109 dX13_judgeS_282 zw4229 ?_
  refine s_callV hZ.1 (Met_X13_type hZ) (Nat.succ_le_succ (Nat.le_trans (Nat.le_of_ble_eq_true rfl) hd)) vy_X13_type zcl13 zw3236 zw237 (Or.inl zw3234) dX13_judgeS_285 ?_
  refine s_aload_n hZ.1 dX13_judgeS_288 rfl ?_
  refine yg13_20 dX13_judgeS_289 zw4141 ?_
  exact s_if_ne dX13_judgeS_292 (by decide) (wX13_judgeS_323 hZ hg hd j hj) (wX13_judgeS_295 hZ hg hd j hj)
noncomputable def vX13_judgeS_240 (g : Nat → List Nat → rx_H → Option (Nat × rx_H)) (j : Nat → rx_K) : rx_K := o_ld rx_isR 0 (o_ld rx_isR 0 (o_getf 13 79 (o_ld rx_isI 1 (o_ald 0 (o_callV 1 13 (g 0) (o_ld rx_isR 0 (o_ld rx_isI 2 (o_putf rx_isI 13 114 ((vX13_judgeS_378 g j))))))))))
set_option maxRecDepth 20000 in
theorem wX13_judgeS_240 {dn : Nat} {g : Nat → List Nat → rx_H → Option (Nat × rx_H)} (hZ : zO b e D A X) (hg : ∀ i y M, vl14[i]? = some (y, M) → rx_Met (zV b e D A X) dn y M (g i)) (hd : 375 ≤ dn) (j : Nat → rx_K) (hj : ∀ k pc, [67][k]? = some pc → rx_OK (zV b e D A X) mX13_judgeS (dn + 1) pc (j k)) : rx_OK (zV b e D A X) mX13_judgeS (dn + 1) 240 (vX13_judgeS_240 g j) := by
  unfold vX13_judgeS_240
  refine s_aload_n hZ.1 dX13_judgeS_240 rfl ?_
  refine s_aload_n hZ.1 dX13_judgeS_241 rfl ?_
  refine yg13_79 dX13_judgeS_242 zw4200 ?_
  refine s_iload_n hZ.1 dX13_judgeS_245 rfl ?_
  refine s_iald (tt := 0) rfl dX13_judgeS_246 ?_
  refine s_callV hZ.1 (hg 0 _ _ rfl) (Nat.le_refl _) vy_X13_judgeS zcl13 zw3485 zw295 (Or.inl zw3483) dX13_judgeS_247 ?_
  refine s_aload_n hZ.1 dX13_judgeS_250 rfl ?_
  refine s_iload_n hZ.1 dX13_judgeS_251 rfl ?_
  refine yp13_114 hZ.1 dX13_judgeS_252 zw4234 ?_
  exact s_goto dX13_judgeS_255 (by decide) (wX13_judgeS_378 hZ hg hd j hj)
noncomputable def vX13_judgeS_233 (g : Nat → List Nat → rx_H → Option (Nat × rx_H)) (j : Nat → rx_K) : rx_K := o_ld rx_isI 1 (o_ald 0 (o_const 34359738352 (o_c2 rx_eq (vX13_judgeS_378 g j) (vX13_judgeS_240 g j))))
set_option maxRecDepth 20000 in
theorem wX13_judgeS_233 {dn : Nat} {g : Nat → List Nat → rx_H → Option (Nat × rx_H)} (hZ : zO b e D A X) (hg : ∀ i y M, vl14[i]? = some (y, M) → rx_Met (zV b e D A X) dn y M (g i)) (hd : 375 ≤ dn) (j : Nat → rx_K) (hj : ∀ k pc, [67][k]? = some pc → rx_OK (zV b e D A X) mX13_judgeS (dn + 1) pc (j k)) : rx_OK (zV b e D A X) mX13_judgeS (dn + 1) 233 (vX13_judgeS_233 g j) := by
  unfold vX13_judgeS_233
  refine s_iload_n hZ.1 dX13_judgeS_233 rfl ?_
  refine s_iald (tt := 0) rfl dX13_judgeS_234 ?_
  refine s_bipush dX13_judgeS_235 (by decide +kernel) ?_
  exact s_icmp_eq dX13_judgeS_237 (by decide) (wX13_judgeS_378 hZ hg hd j hj) (wX13_judgeS_240 hZ hg hd j hj)
noncomputable def vX13_judgeS_191 (g : Nat → List Nat → rx_H → Option (Nat × rx_H)) (j : Nat → rx_K) : rx_K := o_ld rx_isR 0 (o_ld rx_isR 0 (o_getf 13 77 (o_ld rx_isI 1 (o_ald 0 (o_ld rx_isR 0 (o_ld rx_isR 0 (o_getf 13 77 (o_ld rx_isI 1 (o_ald 0 (o_callV 1 13 (q13 200 1) (o_const 17 (o_callV 3 13 FX13_wanted (o_ld rx_isR 0 (o_ld rx_isR 0 (o_getf 13 78 (o_ld rx_isI 1 (o_ald 0 (o_callV 1 13 (g 0) (o_ld rx_isR 0 (o_ld rx_isI 2 (o_putf rx_isI 13 114 (o_ld rx_isR 0 (o_getf 13 79 ((vX13_judgeS_233 g j)))))))))))))))))))))))))
set_option maxRecDepth 20000 in
theorem wX13_judgeS_191 {dn : Nat} {g : Nat → List Nat → rx_H → Option (Nat × rx_H)} (hZ : zO b e D A X) (hg : ∀ i y M, vl14[i]? = some (y, M) → rx_Met (zV b e D A X) dn y M (g i)) (hd : 375 ≤ dn) (j : Nat → rx_K) (hj : ∀ k pc, [67][k]? = some pc → rx_OK (zV b e D A X) mX13_judgeS (dn + 1) pc (j k)) : rx_OK (zV b e D A X) mX13_judgeS (dn + 1) 191 (vX13_judgeS_191 g j) := by
  unfold vX13_judgeS_191
  refine s_aload_n hZ.1 dX13_judgeS_191 rfl ?_
  refine s_aload_n hZ.1 dX13_judgeS_192 rfl ?_
  refine yg13_77 dX13_judgeS_193 zw4198 ?_
  refine s_iload_n hZ.1 dX13_judgeS_196 rfl ?_
  refine s_iald (tt := 0) rfl dX13_judgeS_197 ?_
  refine s_aload_n hZ.1 dX13_judgeS_198 rfl ?_
  refine s_aload_n hZ.1 dX13_judgeS_199 rfl ?_
  refine yg13_77 dX13_judgeS_200 zw4198 ?_
  refine s_iload_n hZ.1 dX13_judgeS_203 rfl ?_
  refine s_iald (tt := 0) rfl dX13_judgeS_204 ?_
  refine s_callV hZ.1 (q13_ok hZ 200 1 _ _ rfl) (Nat.succ_le_succ (Nat.le_trans (Nat.le_of_ble_eq_true rfl) hd)) vy_X13_judge zcl13 zw3398 zw274 (Or.inl zw3396) dX13_judgeS_205 ?_
  refine s_ldc2 dX13_judgeS_208 zw3066 (by decide +kernel) ?_
  refine s_callV hZ.1 (Met_X13_wanted hZ) (Nat.succ_le_succ (Nat.le_trans (Nat.le_of_ble_eq_true rfl) hd)) vy_X13_wanted zcl13 zw3473 zw292 (Or.inl zw3471) dX13_judgeS_211 ?_
  refine s_aload_n hZ.1 dX13_judgeS_214 rfl ?_
  refine s_aload_n hZ.1 dX13_judgeS_215 rfl ?_
  refine yg13_78 dX13_judgeS_216 zw4199 ?_
  refine s_iload_n hZ.1 dX13_judgeS_219 rfl ?_
  refine s_iald (tt := 0) rfl dX13_judgeS_220 ?_
  refine s_callV hZ.1 (hg 0 _ _ rfl) (Nat.le_refl _) vy_X13_judgeS zcl13 zw3485 zw295 (Or.inl zw3483) dX13_judgeS_221 ?_
  refine s_aload_n hZ.1 dX13_judgeS_224 rfl ?_
  refine s_iload_n hZ.1 dX13_judgeS_225 rfl ?_
  refine yp13_114 hZ.1 dX13_judgeS_226 zw4234 ?_
  refine s_aload_n hZ.1 dX13_judgeS_229 rfl ?_
  refine yg13_79 dX13_judgeS_230 zw4200 ?_
  exact (wX13_judgeS_233 hZ hg hd j hj)
noncomputable def vX13_judgeS_156 (g : Nat → List Nat → rx_H → Option (Nat × rx_H)) (j : Nat → rx_K) : rx_K := o_ld rx_isR 0 (o_getf 13 82 (o_ld rx_isI 1 (o_ld rx_isR 0 (o_getf 13 114 (o_ast 0 (fun v => v) rx_isI (o_ld rx_isR 0 (o_ld rx_isR 0 (o_getf 13 74 (o_ld rx_isI 1 (o_ald 1 (o_ld rx_isR 0 (o_getf 13 76 (o_ld rx_isI 1 (o_ald 1 (o_ld rx_isR 0 (o_getf 13 72 (o_ld rx_isI 1 (o_ald 0 (o_callV 3 13 FX13_local ((vX13_judgeS_378 g j)))))))))))))))))))))
set_option maxRecDepth 20000 in
theorem wX13_judgeS_156 {dn : Nat} {g : Nat → List Nat → rx_H → Option (Nat × rx_H)} (hZ : zO b e D A X) (hg : ∀ i y M, vl14[i]? = some (y, M) → rx_Met (zV b e D A X) dn y M (g i)) (hd : 375 ≤ dn) (j : Nat → rx_K) (hj : ∀ k pc, [67][k]? = some pc → rx_OK (zV b e D A X) mX13_judgeS (dn + 1) pc (j k)) : rx_OK (zV b e D A X) mX13_judgeS (dn + 1) 156 (vX13_judgeS_156 g j) := by
  unfold vX13_judgeS_156
  refine s_aload_n hZ.1 dX13_judgeS_156 rfl ?_
  refine yg13_82 dX13_judgeS_157 zw4203 ?_
  refine s_iload_n hZ.1 dX13_judgeS_160 rfl ?_
  refine s_aload_n hZ.1 dX13_judgeS_161 rfl ?_
  refine yg13_114 dX13_judgeS_162 zw4234 ?_
  refine s_iast hZ.1 (tt := 0) rfl dX13_judgeS_165 ?_
  refine s_aload_n hZ.1 dX13_judgeS_166 rfl ?_
  refine s_aload_n hZ.1 dX13_judgeS_167 rfl ?_
  refine yg13_74 dX13_judgeS_168 zw4195 ?_
  refine s_iload_n hZ.1 dX13_judgeS_171 rfl ?_
  refine s_lald (tt := 1) rfl dX13_judgeS_172 ?_
  refine s_aload_n hZ.1 dX13_judgeS_173 rfl ?_
  refine yg13_76 dX13_judgeS_174 zw4197 ?_
  refine s_iload_n hZ.1 dX13_judgeS_177 rfl ?_
  refine s_lald (tt := 1) rfl dX13_judgeS_178 ?_
  refine s_aload_n hZ.1 dX13_judgeS_179 rfl ?_
  refine yg13_72 dX13_judgeS_180 zw4193 ?_
  refine s_iload_n hZ.1 dX13_judgeS_183 rfl ?_
  refine s_iald (tt := 0) rfl dX13_judgeS_184 ?_
  refine s_callV hZ.1 (Met_X13_local hZ) (Nat.succ_le_succ (Nat.le_trans (Nat.le_of_ble_eq_true rfl) hd)) vy_X13_local zcl13 zw3477 zw293 (Or.inl zw3475) dX13_judgeS_185 ?_
  exact s_goto dX13_judgeS_188 (by decide) (wX13_judgeS_378 hZ hg hd j hj)
noncomputable def vX13_judgeS_130 (g : Nat → List Nat → rx_H → Option (Nat × rx_H)) (j : Nat → rx_K) : rx_K := o_ld rx_isR 0 (o_ld rx_isR 0 (o_getf 13 77 (o_ld rx_isI 1 (o_ald 0 (o_ld rx_isR 0 (o_ld rx_isR 0 (o_getf 13 77 (o_ld rx_isI 1 (o_ald 0 (o_callV 1 13 (q13 200 1) (o_ld rx_isR 0 (o_getf 13 76 (o_ld rx_isI 1 (o_ald 1 (o_callV 3 13 FX13_wanted ((vX13_judgeS_156 g j)))))))))))))))))
set_option maxRecDepth 20000 in
theorem wX13_judgeS_130 {dn : Nat} {g : Nat → List Nat → rx_H → Option (Nat × rx_H)} (hZ : zO b e D A X) (hg : ∀ i y M, vl14[i]? = some (y, M) → rx_Met (zV b e D A X) dn y M (g i)) (hd : 375 ≤ dn) (j : Nat → rx_K) (hj : ∀ k pc, [67][k]? = some pc → rx_OK (zV b e D A X) mX13_judgeS (dn + 1) pc (j k)) : rx_OK (zV b e D A X) mX13_judgeS (dn + 1) 130 (vX13_judgeS_130 g j) := by
  unfold vX13_judgeS_130
  refine s_aload_n hZ.1 dX13_judgeS_130 rfl ?_
  refine s_aload_n hZ.1 dX13_judgeS_131 rfl ?_
  refine yg13_77 dX13_judgeS_132 zw4198 ?_
  refine s_iload_n hZ.1 dX13_judgeS_135 rfl ?_
  refine s_iald (tt := 0) rfl dX13_judgeS_136 ?_
  refine s_aload_n hZ.1 dX13_judgeS_137 rfl ?_
  refine s_aload_n hZ.1 dX13_judgeS_138 rfl ?_
  refine yg13_77 dX13_judgeS_139 zw4198 ?_
  refine s_iload_n hZ.1 dX13_judgeS_142 rfl ?_
  refine s_iald (tt := 0) rfl dX13_judgeS_143 ?_
  refine s_callV hZ.1 (q13_ok hZ 200 1 _ _ rfl) (Nat.succ_le_succ (Nat.le_trans (Nat.le_of_ble_eq_true rfl) hd)) vy_X13_judge zcl13 zw3398 zw274 (Or.inl zw3396) dX13_judgeS_144 ?_
  refine s_aload_n hZ.1 dX13_judgeS_147 rfl ?_
  refine yg13_76 dX13_judgeS_148 zw4197 ?_
  refine s_iload_n hZ.1 dX13_judgeS_151 rfl ?_
  refine s_lald (tt := 1) rfl dX13_judgeS_152 ?_
  refine s_callV hZ.1 (Met_X13_wanted hZ) (Nat.succ_le_succ (Nat.le_trans (Nat.le_of_ble_eq_true rfl) hd)) vy_X13_wanted zcl13 zw3473 zw292 (Or.inl zw3471) dX13_judgeS_153 ?_
  exact (wX13_judgeS_156 hZ hg hd j hj)
noncomputable def vX13_judgeS_103 (g : Nat → List Nat → rx_H → Option (Nat × rx_H)) (j : Nat → rx_K) : rx_K := o_ld rx_isR 0 (o_ld rx_isR 0 (o_getf 13 76 (o_ld rx_isI 1 (o_ald 1 (o_ld rx_isR 0 (o_getf 13 73 (o_ld rx_isI 1 (o_ald 0 (o_ld rx_isR 0 (o_getf 13 109 (o_callV 3 13 FX13_type (o_ld rx_isR 0 (o_getf 13 20 (o_c1 rx_eq (vX13_judgeS_130 g j) (vX13_judgeS_156 g j)))))))))))))))
set_option maxRecDepth 20000 in
theorem wX13_judgeS_103 {dn : Nat} {g : Nat → List Nat → rx_H → Option (Nat × rx_H)} (hZ : zO b e D A X) (hg : ∀ i y M, vl14[i]? = some (y, M) → rx_Met (zV b e D A X) dn y M (g i)) (hd : 375 ≤ dn) (j : Nat → rx_K) (hj : ∀ k pc, [67][k]? = some pc → rx_OK (zV b e D A X) mX13_judgeS (dn + 1) pc (j k)) : rx_OK (zV b e D A X) mX13_judgeS (dn + 1) 103 (vX13_judgeS_103 g j) := by
  unfold vX13_judgeS_103
  refine s_aload_n hZ.1 dX13_judgeS_103 rfl ?_
  refine s_aload_n hZ.1 dX13_judgeS_104 rfl ?_
  refine yg13_76 dX13_judgeS_105 zw4197 ?_
  refine s_iload_n hZ.1 dX13_judgeS_108 rfl ?_
  refine s_lald (tt := 1) rfl dX13_judgeS_109 ?_
  refine s_aload_n hZ.1 dX13_judgeS_110 rfl ?_
  refine yg13_73 dX13_judgeS_111 zw4194 ?_
  refine s_iload_n hZ.1 dX13_judgeS_114 rfl ?_
  refine s_iald (tt := 0) rfl dX13_judgeS_115 ?_
  refine s_aload_n hZ.1 dX13_judgeS_116 rfl ?_
  refine yg13_109 dX13_judgeS_117 zw4229 ?_
  refine s_callV hZ.1 (Met_X13_type hZ) (Nat.succ_le_succ (Nat.le_trans (Nat.le_of_ble_eq_true rfl) hd)) vy_X13_type zcl13 zw3236 zw237 (Or.inl zw3234) dX13_judgeS_120 ?_
  refine s_aload_n hZ.1 dX13_judgeS_123 rfl ?_
  refine yg13_20 dX13_judgeS_124 zw4141 ?_
  exact s_if_ne dX13_judgeS_127 (by decide) (wX13_judgeS_156 hZ hg hd j hj) (wX13_judgeS_130 hZ hg hd j hj)
noncomputable def vX13_judgeS_95 (g : Nat → List Nat → rx_H → Option (Nat × rx_H)) (j : Nat → rx_K) : rx_K := o_ld rx_isR 0 (o_ld rx_isI 2 (o_putf rx_isI 13 114 ((vX13_judgeS_378 g j))))
set_option maxRecDepth 20000 in
theorem wX13_judgeS_95 {dn : Nat} {g : Nat → List Nat → rx_H → Option (Nat × rx_H)} (hZ : zO b e D A X) (hg : ∀ i y M, vl14[i]? = some (y, M) → rx_Met (zV b e D A X) dn y M (g i)) (hd : 375 ≤ dn) (j : Nat → rx_K) (hj : ∀ k pc, [67][k]? = some pc → rx_OK (zV b e D A X) mX13_judgeS (dn + 1) pc (j k)) : rx_OK (zV b e D A X) mX13_judgeS (dn + 1) 95 (vX13_judgeS_95 g j) := by
  unfold vX13_judgeS_95
  refine s_aload_n hZ.1 dX13_judgeS_95 rfl ?_
  refine s_iload_n hZ.1 dX13_judgeS_96 rfl ?_
  refine yp13_114 hZ.1 dX13_judgeS_97 zw4234 ?_
  exact s_goto dX13_judgeS_100 (by decide) (wX13_judgeS_378 hZ hg hd j hj)
noncomputable def vX13_judgeS_80 (g : Nat → List Nat → rx_H → Option (Nat × rx_H)) (j : Nat → rx_K) : rx_K := o_ld rx_isR 0 (o_ld rx_isI 3 (o_callV 1 13 (g 0) (o_ld rx_isR 0 (o_getf 13 80 (o_ld rx_isI 3 (o_ald 0 (o_st rx_isI 3 ((j 0)))))))))
set_option maxRecDepth 20000 in
theorem wX13_judgeS_80 {dn : Nat} {g : Nat → List Nat → rx_H → Option (Nat × rx_H)} (hZ : zO b e D A X) (hg : ∀ i y M, vl14[i]? = some (y, M) → rx_Met (zV b e D A X) dn y M (g i)) (hd : 375 ≤ dn) (j : Nat → rx_K) (hj : ∀ k pc, [67][k]? = some pc → rx_OK (zV b e D A X) mX13_judgeS (dn + 1) pc (j k)) : rx_OK (zV b e D A X) mX13_judgeS (dn + 1) 80 (vX13_judgeS_80 g j) := by
  unfold vX13_judgeS_80
  refine s_aload_n hZ.1 dX13_judgeS_80 rfl ?_
  refine s_iload_n hZ.1 dX13_judgeS_81 rfl ?_
  refine s_callV hZ.1 (hg 0 _ _ rfl) (Nat.le_refl _) vy_X13_judgeS zcl13 zw3485 zw295 (Or.inl zw3483) dX13_judgeS_82 ?_
  refine s_aload_n hZ.1 dX13_judgeS_85 rfl ?_
  refine yg13_80 dX13_judgeS_86 zw4201 ?_
  refine s_iload_n hZ.1 dX13_judgeS_89 rfl ?_
  refine s_iald (tt := 0) rfl dX13_judgeS_90 ?_
  refine s_istore_n hZ.1 dX13_judgeS_91 rfl (Nat.le_of_ble_eq_true rfl) ?_
  exact s_goto dX13_judgeS_92 (by decide) (hj 0 67 rfl)
noncomputable def vX13_judgeS_73 (g : Nat → List Nat → rx_H → Option (Nat × rx_H)) (j : Nat → rx_K) : rx_K := o_ld rx_isR 0 (o_getf 13 20 (o_c1 rx_eq (vX13_judgeS_80 g j) (vX13_judgeS_95 g j)))
set_option maxRecDepth 20000 in
theorem wX13_judgeS_73 {dn : Nat} {g : Nat → List Nat → rx_H → Option (Nat × rx_H)} (hZ : zO b e D A X) (hg : ∀ i y M, vl14[i]? = some (y, M) → rx_Met (zV b e D A X) dn y M (g i)) (hd : 375 ≤ dn) (j : Nat → rx_K) (hj : ∀ k pc, [67][k]? = some pc → rx_OK (zV b e D A X) mX13_judgeS (dn + 1) pc (j k)) : rx_OK (zV b e D A X) mX13_judgeS (dn + 1) 73 (vX13_judgeS_73 g j) := by
  unfold vX13_judgeS_73
  refine s_aload_n hZ.1 dX13_judgeS_73 rfl ?_
  refine yg13_20 dX13_judgeS_74 zw4141 ?_
  exact s_if_ne dX13_judgeS_77 (by decide) (wX13_judgeS_95 hZ hg hd j hj) (wX13_judgeS_80 hZ hg hd j hj)
noncomputable def vX13_judgeS_67 (g : Nat → List Nat → rx_H → Option (Nat × rx_H)) (j : Nat → rx_K) : rx_K := o_ld rx_isI 3 (o_const 34359738352 (o_c2 rx_eq (vX13_judgeS_95 g j) (vX13_judgeS_73 g j)))
set_option maxRecDepth 20000 in
theorem wX13_judgeS_67 {dn : Nat} {g : Nat → List Nat → rx_H → Option (Nat × rx_H)} (hZ : zO b e D A X) (hg : ∀ i y M, vl14[i]? = some (y, M) → rx_Met (zV b e D A X) dn y M (g i)) (hd : 375 ≤ dn) (j : Nat → rx_K) (hj : ∀ k pc, [67][k]? = some pc → rx_OK (zV b e D A X) mX13_judgeS (dn + 1) pc (j k)) : rx_OK (zV b e D A X) mX13_judgeS (dn + 1) 67 (vX13_judgeS_67 g j) := by
  unfold vX13_judgeS_67
  refine s_iload_n hZ.1 dX13_judgeS_67 rfl ?_
  refine s_bipush dX13_judgeS_68 (by decide +kernel) ?_
  exact s_icmp_eq dX13_judgeS_70 (by decide) (wX13_judgeS_95 hZ hg hd j hj) (wX13_judgeS_73 hZ hg hd j hj)
noncomputable def vX13_judgeS_60 (g : Nat → List Nat → rx_H → Option (Nat × rx_H)) (j : Nat → rx_K) : rx_K := o_ld rx_isR 0 (o_getf 13 77 (o_ld rx_isI 1 (o_ald 0 (o_st rx_isI 3 ((vX13_judgeS_67 g j))))))
set_option maxRecDepth 20000 in
theorem wX13_judgeS_60 {dn : Nat} {g : Nat → List Nat → rx_H → Option (Nat × rx_H)} (hZ : zO b e D A X) (hg : ∀ i y M, vl14[i]? = some (y, M) → rx_Met (zV b e D A X) dn y M (g i)) (hd : 375 ≤ dn) (j : Nat → rx_K) (hj : ∀ k pc, [67][k]? = some pc → rx_OK (zV b e D A X) mX13_judgeS (dn + 1) pc (j k)) : rx_OK (zV b e D A X) mX13_judgeS (dn + 1) 60 (vX13_judgeS_60 g j) := by
  unfold vX13_judgeS_60
  refine s_aload_n hZ.1 dX13_judgeS_60 rfl ?_
  refine yg13_77 dX13_judgeS_61 zw4198 ?_
  refine s_iload_n hZ.1 dX13_judgeS_64 rfl ?_
  refine s_iald (tt := 0) rfl dX13_judgeS_65 ?_
  refine s_istore_n hZ.1 dX13_judgeS_66 rfl (Nat.le_of_ble_eq_true rfl) ?_
  exact (wX13_judgeS_67 hZ hg hd j hj)
noncomputable def vX13_judgeS_8 (g : Nat → List Nat → rx_H → Option (Nat × rx_H)) (j : Nat → rx_K) : rx_K := o_ld rx_isR 0 (o_getf 13 114 (o_st rx_isI 2 (o_ld rx_isR 0 (o_getf 13 70 (o_ld rx_isI 1 (o_ald 0 (o_sw 20 [60, 103, 191, 191, 373, 373, 258] 373 (rx_pk [(60, (vX13_judgeS_60 g j)), (103, (vX13_judgeS_103 g j)), (191, (vX13_judgeS_191 g j)), (258, (vX13_judgeS_258 g j)), (373, (vX13_judgeS_373 g j))]))))))))
set_option maxRecDepth 20000 in
theorem wX13_judgeS_8 {dn : Nat} {g : Nat → List Nat → rx_H → Option (Nat × rx_H)} (hZ : zO b e D A X) (hg : ∀ i y M, vl14[i]? = some (y, M) → rx_Met (zV b e D A X) dn y M (g i)) (hd : 375 ≤ dn) (j : Nat → rx_K) (hj : ∀ k pc, [67][k]? = some pc → rx_OK (zV b e D A X) mX13_judgeS (dn + 1) pc (j k)) : rx_OK (zV b e D A X) mX13_judgeS (dn + 1) 8 (vX13_judgeS_8 g j) := by
  unfold vX13_judgeS_8
  refine s_aload_n hZ.1 dX13_judgeS_8 rfl ?_
  refine yg13_114 dX13_judgeS_9 zw4234 ?_
  refine s_istore_n hZ.1 dX13_judgeS_12 rfl (Nat.le_of_ble_eq_true rfl) ?_
  refine s_aload_n hZ.1 dX13_judgeS_13 rfl ?_
  refine yg13_70 dX13_judgeS_14 zw4191 ?_
  refine s_iload_n hZ.1 dX13_judgeS_17 rfl ?_
  refine s_iald (tt := 0) rfl dX13_judgeS_18 ?_
  exact s_sw dX13_judgeS_19 (by decide) (by decide) (by decide) (by decide) (by decide) (fun b _ => (rx_pk_ok (List.forall_mem_cons.mpr ⟨(wX13_judgeS_60 hZ hg hd j hj), List.forall_mem_cons.mpr ⟨(wX13_judgeS_103 hZ hg hd j hj), List.forall_mem_cons.mpr ⟨(wX13_judgeS_191 hZ hg hd j hj), List.forall_mem_cons.mpr ⟨(wX13_judgeS_258 hZ hg hd j hj), List.forall_mem_cons.mpr ⟨(wX13_judgeS_373 hZ hg hd j hj), fun _ h => absurd h List.not_mem_nil⟩⟩⟩⟩⟩)) b)
noncomputable def vX13_judgeS_7 (g : Nat → List Nat → rx_H → Option (Nat × rx_H)) (j : Nat → rx_K) : rx_K := o_ret0
set_option maxRecDepth 20000 in
theorem wX13_judgeS_7 {dn : Nat} {g : Nat → List Nat → rx_H → Option (Nat × rx_H)} (hZ : zO b e D A X) (hg : ∀ i y M, vl14[i]? = some (y, M) → rx_Met (zV b e D A X) dn y M (g i)) (hd : 375 ≤ dn) (j : Nat → rx_K) (hj : ∀ k pc, [67][k]? = some pc → rx_OK (zV b e D A X) mX13_judgeS (dn + 1) pc (j k)) : rx_OK (zV b e D A X) mX13_judgeS (dn + 1) 7 (vX13_judgeS_7 g j) := by
  unfold vX13_judgeS_7
  exact s_vret rfl dX13_judgeS_7
noncomputable def vX13_judgeS_0 (g : Nat → List Nat → rx_H → Option (Nat × rx_H)) (j : Nat → rx_K) : rx_K := o_ld rx_isR 0 (o_getf 13 20 (o_c1 rx_eq (vX13_judgeS_8 g j) (vX13_judgeS_7 g j)))
set_option maxRecDepth 20000 in
theorem wX13_judgeS_0 {dn : Nat} {g : Nat → List Nat → rx_H → Option (Nat × rx_H)} (hZ : zO b e D A X) (hg : ∀ i y M, vl14[i]? = some (y, M) → rx_Met (zV b e D A X) dn y M (g i)) (hd : 375 ≤ dn) (j : Nat → rx_K) (hj : ∀ k pc, [67][k]? = some pc → rx_OK (zV b e D A X) mX13_judgeS (dn + 1) pc (j k)) : rx_OK (zV b e D A X) mX13_judgeS (dn + 1) 0 (vX13_judgeS_0 g j) := by
  unfold vX13_judgeS_0
  refine s_aload_n hZ.1 dX13_judgeS_0 rfl ?_
  refine yg13_20 dX13_judgeS_1 zw4141 ?_
  exact s_if_eq dX13_judgeS_4 (by decide) (wX13_judgeS_8 hZ hg hd j hj) (wX13_judgeS_7 hZ hg hd j hj)
noncomputable def vhX13_judgeS (g : Nat → List Nat → rx_H → Option (Nat × rx_H)) (j : Nat → rx_K) : List rx_K := [vX13_judgeS_67 g j]
theorem vlX13_judgeS {dn : Nat} {g : Nat → List Nat → rx_H → Option (Nat × rx_H)} (hZ : zO b e D A X) (hg : ∀ i y M, vl14[i]? = some (y, M) → rx_Met (zV b e D A X) dn y M (g i)) (hd : 375 ≤ dn) : ∀ n k pc, [67][k]? = some pc → rx_OK (zV b e D A X) mX13_judgeS (dn + 1) pc (rx_J (vhX13_judgeS g) n k) := rx_loop fun j hj k pc h => by
  match k, h with
  | 0, h =>
    have e9 := Option.some.inj (show some 67 = some pc from h)
    subst e9
    exact wX13_judgeS_67 hZ hg hd j hj
  | _ + 1, h => exact absurd h (by simp)
noncomputable def FX13_judgeS (g : Nat → List Nat → rx_H → Option (Nat × rx_H)) : List Nat → rx_H → Option (Nat × rx_H) := rx_ent 4 (vX13_judgeS_0 g (rx_J (vhX13_judgeS g) 4000000000))
theorem Met_X13_judgeS {dn : Nat} {g : Nat → List Nat → rx_H → Option (Nat × rx_H)} (hZ : zO b e D A X) (hg : ∀ i y M, vl14[i]? = some (y, M) → rx_Met (zV b e D A X) dn y M (g i)) (hd : 375 ≤ dn) : rx_Met (zV b e D A X) (dn + 1) yX13_judgeS mX13_judgeS (FX13_judgeS g) := rx_entry hZ.1 (wX13_judgeS_0 hZ hg hd _ (vlX13_judgeS hZ hg hd 4000000000)) (by decide +kernel) rfl (fun h => by cases h)
noncomputable def q14 (n : Nat) : Nat → List Nat → rx_H → Option (Nat × rx_H) := Nat.rec (fun _ _ _ => none) (fun _ ih i => rx_nth [FX13_judgeS ih] i (fun _ _ => none)) n
theorem q14_ok (hZ : zO b e D A X) : ∀ n i y M, vl14[i]? = some (y, M) → rx_Met (zV b e D A X) (375 + n) y M (q14 n i)
  | 0 => fun i y M _ As h r h2 hf => by cases hf
  | n + 1 => fun i y M h => by
    match i, h with
    | 0, h => cases h; exact Met_X13_judgeS hZ (q14_ok hZ n) (Nat.le_add_right 375 n)
    | _ + 1, h => exact absurd h (by simp)
abbrev mX13_bodyOf : rx_M := (RX13, cX13_bodyOf, 4, none, false)
theorem vy_X13_bodyOf : rx_Y (zV b e D A X) yX13_bodyOf mX13_bodyOf 2 := ⟨zw3395, zw431, by decide, by decide +kernel, by decide +kernel, by decide +kernel⟩
noncomputable def vX13_bodyOf_278 (j : Nat → rx_K) : rx_K := o_ret0
set_option maxRecDepth 20000 in
theorem wX13_bodyOf_278 (hZ : zO b e D A X) (j : Nat → rx_K) (hj : ∀ k pc, [97][k]? = some pc → rx_OK (zV b e D A X) mX13_bodyOf 576 pc (j k)) : rx_OK (zV b e D A X) mX13_bodyOf 576 278 (vX13_bodyOf_278 j) := by
  unfold vX13_bodyOf_278
  exact s_vret rfl dX13_bodyOf_278
noncomputable def vX13_bodyOf_266 (j : Nat → rx_K) : rx_K := o_ld rx_isR 0 (o_const 136 (o_ld rx_isR 0 (o_getf 13 52 (o_ld rx_isI 2 (o_ald 0 (o_callV 2 13 FX13_fault ((vX13_bodyOf_278 j))))))))
set_option maxRecDepth 20000 in
theorem wX13_bodyOf_266 (hZ : zO b e D A X) (j : Nat → rx_K) (hj : ∀ k pc, [97][k]? = some pc → rx_OK (zV b e D A X) mX13_bodyOf 576 pc (j k)) : rx_OK (zV b e D A X) mX13_bodyOf 576 266 (vX13_bodyOf_266 j) := by
  unfold vX13_bodyOf_266
  refine s_aload_n hZ.1 dX13_bodyOf_266 rfl ?_
  refine s_bipush dX13_bodyOf_267 (by decide +kernel) ?_
  refine s_aload_n hZ.1 dX13_bodyOf_269 rfl ?_
  refine yg13_52 dX13_bodyOf_270 zw4173 ?_
  refine s_iload_n hZ.1 dX13_bodyOf_273 rfl ?_
  refine s_iald (tt := 0) rfl dX13_bodyOf_274 ?_
  refine s_callV hZ.1 (Met_X13_fault hZ) (Nat.le_of_ble_eq_true rfl) vy_X13_fault zcl13 zw3004 zw190 (Or.inl zw3002) dX13_bodyOf_275 ?_
  exact (wX13_bodyOf_278 hZ j hj)
noncomputable def vX13_bodyOf_253 (j : Nat → rx_K) : rx_K := o_ld rx_isR 0 (o_ld rx_isR 0 (o_getf 13 61 (o_ld rx_isI 2 (o_ald 0 (o_callV 1 13 (q12 200 0) (o_c1 rx_eq (vX13_bodyOf_278 j) (vX13_bodyOf_266 j)))))))
set_option maxRecDepth 20000 in
theorem wX13_bodyOf_253 (hZ : zO b e D A X) (j : Nat → rx_K) (hj : ∀ k pc, [97][k]? = some pc → rx_OK (zV b e D A X) mX13_bodyOf 576 pc (j k)) : rx_OK (zV b e D A X) mX13_bodyOf 576 253 (vX13_bodyOf_253 j) := by
  unfold vX13_bodyOf_253
  refine s_aload_n hZ.1 dX13_bodyOf_253 rfl ?_
  refine s_aload_n hZ.1 dX13_bodyOf_254 rfl ?_
  refine yg13_61 dX13_bodyOf_255 zw4182 ?_
  refine s_iload_n hZ.1 dX13_bodyOf_258 rfl ?_
  refine s_iald (tt := 0) rfl dX13_bodyOf_259 ?_
  refine s_callV hZ.1 (q12_ok hZ 200 0 _ _ rfl) (Nat.le_of_ble_eq_true rfl) vy_X13_canEnd zcl13 zw3501 zw299 (Or.inl zw3499) dX13_bodyOf_260 ?_
  exact s_if_eq dX13_bodyOf_263 (by decide) (wX13_bodyOf_278 hZ j hj) (wX13_bodyOf_266 hZ j hj)
noncomputable def vX13_bodyOf_242 (j : Nat → rx_K) : rx_K := o_ld rx_isR 0 (o_getf 13 53 (o_ld rx_isI 2 (o_ald 1 (o_const 9 (o_bc (fun x y => lg_cmp x y) (o_c1 rx_eq (vX13_bodyOf_278 j) (vX13_bodyOf_253 j)))))))
set_option maxRecDepth 20000 in
theorem wX13_bodyOf_242 (hZ : zO b e D A X) (j : Nat → rx_K) (hj : ∀ k pc, [97][k]? = some pc → rx_OK (zV b e D A X) mX13_bodyOf 576 pc (j k)) : rx_OK (zV b e D A X) mX13_bodyOf 576 242 (vX13_bodyOf_242 j) := by
  unfold vX13_bodyOf_242
  refine s_aload_n hZ.1 dX13_bodyOf_242 rfl ?_
  refine yg13_53 dX13_bodyOf_243 zw4174 ?_
  refine s_iload_n hZ.1 dX13_bodyOf_246 rfl ?_
  refine s_lald (tt := 1) rfl dX13_bodyOf_247 ?_
  refine s_lconst dX13_bodyOf_248 (by decide +kernel) ?_
  refine s_lcmp dX13_bodyOf_249 ?_
  exact s_if_eq dX13_bodyOf_250 (by decide) (wX13_bodyOf_278 hZ j hj) (wX13_bodyOf_253 hZ j hj)
noncomputable def vX13_bodyOf_231 (j : Nat → rx_K) : rx_K := o_ld rx_isR 0 (o_getf 13 61 (o_ld rx_isI 2 (o_ald 0 (o_const 34359738352 (o_c2 rx_eq (vX13_bodyOf_278 j) (vX13_bodyOf_242 j))))))
set_option maxRecDepth 20000 in
theorem wX13_bodyOf_231 (hZ : zO b e D A X) (j : Nat → rx_K) (hj : ∀ k pc, [97][k]? = some pc → rx_OK (zV b e D A X) mX13_bodyOf 576 pc (j k)) : rx_OK (zV b e D A X) mX13_bodyOf 576 231 (vX13_bodyOf_231 j) := by
  unfold vX13_bodyOf_231
  refine s_aload_n hZ.1 dX13_bodyOf_231 rfl ?_
  refine yg13_61 dX13_bodyOf_232 zw4182 ?_
  refine s_iload_n hZ.1 dX13_bodyOf_235 rfl ?_
  refine s_iald (tt := 0) rfl dX13_bodyOf_236 ?_
  refine s_bipush dX13_bodyOf_237 (by decide +kernel) ?_
  exact s_icmp_eq dX13_bodyOf_239 (by decide) (wX13_bodyOf_278 hZ j hj) (wX13_bodyOf_242 hZ j hj)
noncomputable def vX13_bodyOf_221 (j : Nat → rx_K) : rx_K := o_ld rx_isR 0 (o_getf 13 42 (o_ld rx_isI 2 (o_ald 0 (o_const 8 (o_c2 rx_eq (vX13_bodyOf_231 j) (vX13_bodyOf_278 j))))))
set_option maxRecDepth 20000 in
theorem wX13_bodyOf_221 (hZ : zO b e D A X) (j : Nat → rx_K) (hj : ∀ k pc, [97][k]? = some pc → rx_OK (zV b e D A X) mX13_bodyOf 576 pc (j k)) : rx_OK (zV b e D A X) mX13_bodyOf 576 221 (vX13_bodyOf_221 j) := by
  unfold vX13_bodyOf_221
  refine s_aload_n hZ.1 dX13_bodyOf_221 rfl ?_
  refine yg13_42 dX13_bodyOf_222 zw4163 ?_
  refine s_iload_n hZ.1 dX13_bodyOf_225 rfl ?_
  refine s_iald (tt := 0) rfl dX13_bodyOf_226 ?_
  refine s_iconst dX13_bodyOf_227 (by decide +kernel) ?_
  exact s_icmp_ne dX13_bodyOf_228 (by decide) (wX13_bodyOf_278 hZ j hj) (wX13_bodyOf_231 hZ j hj)
noncomputable def vX13_bodyOf_214 (j : Nat → rx_K) : rx_K := o_ld rx_isR 0 (o_getf 13 20 (o_c1 rx_eq (vX13_bodyOf_221 j) (vX13_bodyOf_278 j)))
set_option maxRecDepth 20000 in
theorem wX13_bodyOf_214 (hZ : zO b e D A X) (j : Nat → rx_K) (hj : ∀ k pc, [97][k]? = some pc → rx_OK (zV b e D A X) mX13_bodyOf 576 pc (j k)) : rx_OK (zV b e D A X) mX13_bodyOf 576 214 (vX13_bodyOf_214 j) := by
  unfold vX13_bodyOf_214
  refine s_aload_n hZ.1 dX13_bodyOf_214 rfl ?_
  refine yg13_20 dX13_bodyOf_215 zw4141 ?_
  exact s_if_ne dX13_bodyOf_218 (by decide) (wX13_bodyOf_278 hZ j hj) (wX13_bodyOf_221 hZ j hj)
noncomputable def vX13_bodyOf_204 (j : Nat → rx_K) : rx_K := o_ld rx_isR 0 (o_ld rx_isR 0 (o_getf 13 61 (o_ld rx_isI 2 (o_ald 0 (o_callV 1 13 (q14 200 0) ((vX13_bodyOf_214 j)))))))
set_option maxRecDepth 20000 in
theorem wX13_bodyOf_204 (hZ : zO b e D A X) (j : Nat → rx_K) (hj : ∀ k pc, [97][k]? = some pc → rx_OK (zV b e D A X) mX13_bodyOf 576 pc (j k)) : rx_OK (zV b e D A X) mX13_bodyOf 576 204 (vX13_bodyOf_204 j) := by
  unfold vX13_bodyOf_204
  refine s_aload_n hZ.1 dX13_bodyOf_204 rfl ?_
  refine s_aload_n hZ.1 dX13_bodyOf_205 rfl ?_
  refine yg13_61 dX13_bodyOf_206 zw4182 ?_
  refine s_iload_n hZ.1 dX13_bodyOf_209 rfl ?_
  refine s_iald (tt := 0) rfl dX13_bodyOf_210 ?_
  refine s_callV hZ.1 (q14_ok hZ 200 0 _ _ rfl) (Nat.le_of_ble_eq_true rfl) vy_X13_judgeS zcl13 zw3485 zw295 (Or.inl zw3483) dX13_bodyOf_211 ?_
  exact (wX13_bodyOf_214 hZ j hj)
noncomputable def vX13_bodyOf_193 (j : Nat → rx_K) : rx_K := o_ld rx_isR 0 (o_getf 13 61 (o_ld rx_isI 2 (o_ald 0 (o_const 34359738352 (o_c2 rx_eq (vX13_bodyOf_214 j) (vX13_bodyOf_204 j))))))
set_option maxRecDepth 20000 in
theorem wX13_bodyOf_193 (hZ : zO b e D A X) (j : Nat → rx_K) (hj : ∀ k pc, [97][k]? = some pc → rx_OK (zV b e D A X) mX13_bodyOf 576 pc (j k)) : rx_OK (zV b e D A X) mX13_bodyOf 576 193 (vX13_bodyOf_193 j) := by
  unfold vX13_bodyOf_193
  refine s_aload_n hZ.1 dX13_bodyOf_193 rfl ?_
  refine yg13_61 dX13_bodyOf_194 zw4182 ?_
  refine s_iload_n hZ.1 dX13_bodyOf_197 rfl ?_
  refine s_iald (tt := 0) rfl dX13_bodyOf_198 ?_
  refine s_bipush dX13_bodyOf_199 (by decide +kernel) ?_
  exact s_icmp_eq dX13_bodyOf_201 (by decide) (wX13_bodyOf_214 hZ j hj) (wX13_bodyOf_204 hZ j hj)
noncomputable def vX13_bodyOf_181 (j : Nat → rx_K) : rx_K := o_ld rx_isR 0 (o_const 144 (o_ld rx_isR 0 (o_getf 13 52 (o_ld rx_isI 2 (o_ald 0 (o_callV 2 13 FX13_fault ((vX13_bodyOf_193 j))))))))
set_option maxRecDepth 20000 in
theorem wX13_bodyOf_181 (hZ : zO b e D A X) (j : Nat → rx_K) (hj : ∀ k pc, [97][k]? = some pc → rx_OK (zV b e D A X) mX13_bodyOf 576 pc (j k)) : rx_OK (zV b e D A X) mX13_bodyOf 576 181 (vX13_bodyOf_181 j) := by
  unfold vX13_bodyOf_181
  refine s_aload_n hZ.1 dX13_bodyOf_181 rfl ?_
  refine s_bipush dX13_bodyOf_182 (by decide +kernel) ?_
  refine s_aload_n hZ.1 dX13_bodyOf_184 rfl ?_
  refine yg13_52 dX13_bodyOf_185 zw4173 ?_
  refine s_iload_n hZ.1 dX13_bodyOf_188 rfl ?_
  refine s_iald (tt := 0) rfl dX13_bodyOf_189 ?_
  refine s_callV hZ.1 (Met_X13_fault hZ) (Nat.le_of_ble_eq_true rfl) vy_X13_fault zcl13 zw3004 zw190 (Or.inl zw3002) dX13_bodyOf_190 ?_
  exact (wX13_bodyOf_193 hZ j hj)
noncomputable def vX13_bodyOf_165 (j : Nat → rx_K) : rx_K := o_ld rx_isR 0 (o_ld rx_isR 0 (o_ld rx_isI 1 (o_callV 1 13 FX13_parent (o_const 34359738352 (o_callV 2 13 FX13_meantMaker (o_const 34359738352 (o_c2 rx_eq (vX13_bodyOf_181 j) (vX13_bodyOf_193 j))))))))
set_option maxRecDepth 20000 in
theorem wX13_bodyOf_165 (hZ : zO b e D A X) (j : Nat → rx_K) (hj : ∀ k pc, [97][k]? = some pc → rx_OK (zV b e D A X) mX13_bodyOf 576 pc (j k)) : rx_OK (zV b e D A X) mX13_bodyOf 576 165 (vX13_bodyOf_165 j) := by
  unfold vX13_bodyOf_165
  refine s_aload_n hZ.1 dX13_bodyOf_165 rfl ?_
  refine s_aload_n hZ.1 dX13_bodyOf_166 rfl ?_
  refine s_iload_n hZ.1 dX13_bodyOf_167 rfl ?_
  refine s_callV hZ.1 (Met_X13_parent hZ) (Nat.le_of_ble_eq_true rfl) vy_X13_parent zcl13 zw3220 zw233 (Or.inl zw3218) dX13_bodyOf_168 ?_
  refine s_bipush dX13_bodyOf_171 (by decide +kernel) ?_
  refine s_callV hZ.1 (Met_X13_meantMaker hZ) (Nat.le_of_ble_eq_true rfl) vy_X13_meantMaker zcl13 zw3454 zw288 (Or.inl zw3452) dX13_bodyOf_173 ?_
  refine s_bipush dX13_bodyOf_176 (by decide +kernel) ?_
  exact s_icmp_ne dX13_bodyOf_178 (by decide) (wX13_bodyOf_193 hZ j hj) (wX13_bodyOf_181 hZ j hj)
noncomputable def vX13_bodyOf_157 (j : Nat → rx_K) : rx_K := o_ld rx_isR 0 (o_ld rx_isI 2 (o_callV 1 13 FX13_beginsBySuper (o_c1 rx_eq (vX13_bodyOf_165 j) (vX13_bodyOf_193 j))))
set_option maxRecDepth 20000 in
theorem wX13_bodyOf_157 (hZ : zO b e D A X) (j : Nat → rx_K) (hj : ∀ k pc, [97][k]? = some pc → rx_OK (zV b e D A X) mX13_bodyOf 576 pc (j k)) : rx_OK (zV b e D A X) mX13_bodyOf 576 157 (vX13_bodyOf_157 j) := by
  unfold vX13_bodyOf_157
  refine s_aload_n hZ.1 dX13_bodyOf_157 rfl ?_
  refine s_iload_n hZ.1 dX13_bodyOf_158 rfl ?_
  refine s_callV hZ.1 (Met_X13_beginsBySuper hZ) (Nat.le_of_ble_eq_true rfl) vy_X13_beginsBySuper zcl13 zw3481 zw294 (Or.inl zw3479) dX13_bodyOf_159 ?_
  exact s_if_ne dX13_bodyOf_162 (by decide) (wX13_bodyOf_193 hZ j hj) (wX13_bodyOf_165 hZ j hj)
noncomputable def vX13_bodyOf_147 (j : Nat → rx_K) : rx_K := o_ld rx_isR 0 (o_getf 13 42 (o_ld rx_isI 2 (o_ald 0 (o_const 16 (o_c2 rx_eq (vX13_bodyOf_157 j) (vX13_bodyOf_193 j))))))
set_option maxRecDepth 20000 in
theorem wX13_bodyOf_147 (hZ : zO b e D A X) (j : Nat → rx_K) (hj : ∀ k pc, [97][k]? = some pc → rx_OK (zV b e D A X) mX13_bodyOf 576 pc (j k)) : rx_OK (zV b e D A X) mX13_bodyOf 576 147 (vX13_bodyOf_147 j) := by
  unfold vX13_bodyOf_147
  refine s_aload_n hZ.1 dX13_bodyOf_147 rfl ?_
  refine yg13_42 dX13_bodyOf_148 zw4163 ?_
  refine s_iload_n hZ.1 dX13_bodyOf_151 rfl ?_
  refine s_iald (tt := 0) rfl dX13_bodyOf_152 ?_
  refine s_iconst dX13_bodyOf_153 (by decide +kernel) ?_
  exact s_icmp_ne dX13_bodyOf_154 (by decide) (wX13_bodyOf_193 hZ j hj) (wX13_bodyOf_157 hZ j hj)
noncomputable def vX13_bodyOf_137 (j : Nat → rx_K) : rx_K := o_ald 0 (o_callV 3 13 FX13_local (o_inc 3 (1) ((j 0))))
set_option maxRecDepth 20000 in
theorem wX13_bodyOf_137 (hZ : zO b e D A X) (j : Nat → rx_K) (hj : ∀ k pc, [97][k]? = some pc → rx_OK (zV b e D A X) mX13_bodyOf 576 pc (j k)) : rx_OK (zV b e D A X) mX13_bodyOf 576 137 (vX13_bodyOf_137 j) := by
  unfold vX13_bodyOf_137
  refine s_iald (tt := 0) rfl dX13_bodyOf_137 ?_
  refine s_callV hZ.1 (Met_X13_local hZ) (Nat.le_of_ble_eq_true rfl) vy_X13_local zcl13 zw3477 zw293 (Or.inl zw3475) dX13_bodyOf_138 ?_
  refine s_iinc hZ.1 dX13_bodyOf_141 (Nat.le_of_ble_eq_true rfl) ?_
  exact s_goto dX13_bodyOf_144 (by decide) (hj 0 97 rfl)
noncomputable def vX13_bodyOf_107 (j : Nat → rx_K) : rx_K := o_ld rx_isR 0 (o_ld rx_isR 0 (o_getf 13 58 (o_const 32 (o_ld rx_isI 2 (o_bi (fun x y => x * y) (o_ld rx_isI 3 (o_bi (fun x y => x + y) (o_ald 1 (o_ld rx_isR 0 (o_getf 13 56 (o_const 32 (o_ld rx_isI 2 (o_bi (fun x y => x * y) (o_ld rx_isI 3 (o_bi (fun x y => x + y) (o_ald 1 (o_ld rx_isR 0 (o_getf 13 59 (o_const 32 (o_ld rx_isI 2 (o_bi (fun x y => x * y) (o_ld rx_isI 3 (o_bi (fun x y => x + y) ((vX13_bodyOf_137 j)))))))))))))))))))))))))
set_option maxRecDepth 20000 in
theorem wX13_bodyOf_107 (hZ : zO b e D A X) (j : Nat → rx_K) (hj : ∀ k pc, [97][k]? = some pc → rx_OK (zV b e D A X) mX13_bodyOf 576 pc (j k)) : rx_OK (zV b e D A X) mX13_bodyOf 576 107 (vX13_bodyOf_107 j) := by
  unfold vX13_bodyOf_107
  refine s_aload_n hZ.1 dX13_bodyOf_107 rfl ?_
  refine s_aload_n hZ.1 dX13_bodyOf_108 rfl ?_
  refine yg13_58 dX13_bodyOf_109 zw4179 ?_
  refine s_iconst dX13_bodyOf_112 (by decide +kernel) ?_
  refine s_iload_n hZ.1 dX13_bodyOf_113 rfl ?_
  refine s_imul dX13_bodyOf_114 ?_
  refine s_iload_n hZ.1 dX13_bodyOf_115 rfl ?_
  refine s_iadd dX13_bodyOf_116 ?_
  refine s_lald (tt := 1) rfl dX13_bodyOf_117 ?_
  refine s_aload_n hZ.1 dX13_bodyOf_118 rfl ?_
  refine yg13_56 dX13_bodyOf_119 zw4177 ?_
  refine s_iconst dX13_bodyOf_122 (by decide +kernel) ?_
  refine s_iload_n hZ.1 dX13_bodyOf_123 rfl ?_
  refine s_imul dX13_bodyOf_124 ?_
  refine s_iload_n hZ.1 dX13_bodyOf_125 rfl ?_
  refine s_iadd dX13_bodyOf_126 ?_
  refine s_lald (tt := 1) rfl dX13_bodyOf_127 ?_
  refine s_aload_n hZ.1 dX13_bodyOf_128 rfl ?_
  refine yg13_59 dX13_bodyOf_129 zw4180 ?_
  refine s_iconst dX13_bodyOf_132 (by decide +kernel) ?_
  refine s_iload_n hZ.1 dX13_bodyOf_133 rfl ?_
  refine s_imul dX13_bodyOf_134 ?_
  refine s_iload_n hZ.1 dX13_bodyOf_135 rfl ?_
  refine s_iadd dX13_bodyOf_136 ?_
  exact (wX13_bodyOf_137 hZ j hj)
noncomputable def vX13_bodyOf_97 (j : Nat → rx_K) : rx_K := o_ld rx_isI 3 (o_ld rx_isR 0 (o_getf 13 55 (o_ld rx_isI 2 (o_ald 0 (o_c2 rx_lt (vX13_bodyOf_107 j) (vX13_bodyOf_147 j))))))
set_option maxRecDepth 20000 in
theorem wX13_bodyOf_97 (hZ : zO b e D A X) (j : Nat → rx_K) (hj : ∀ k pc, [97][k]? = some pc → rx_OK (zV b e D A X) mX13_bodyOf 576 pc (j k)) : rx_OK (zV b e D A X) mX13_bodyOf 576 97 (vX13_bodyOf_97 j) := by
  unfold vX13_bodyOf_97
  refine s_iload_n hZ.1 dX13_bodyOf_97 rfl ?_
  refine s_aload_n hZ.1 dX13_bodyOf_98 rfl ?_
  refine yg13_55 dX13_bodyOf_99 zw4176 ?_
  refine s_iload_n hZ.1 dX13_bodyOf_102 rfl ?_
  refine s_iald (tt := 0) rfl dX13_bodyOf_103 ?_
  exact s_icmp_ge dX13_bodyOf_104 (by decide) (wX13_bodyOf_147 hZ j hj) (wX13_bodyOf_107 hZ j hj)
noncomputable def vX13_bodyOf_95 (j : Nat → rx_K) : rx_K := o_const 0 (o_st rx_isI 3 ((vX13_bodyOf_97 j)))
set_option maxRecDepth 20000 in
theorem wX13_bodyOf_95 (hZ : zO b e D A X) (j : Nat → rx_K) (hj : ∀ k pc, [97][k]? = some pc → rx_OK (zV b e D A X) mX13_bodyOf 576 pc (j k)) : rx_OK (zV b e D A X) mX13_bodyOf 576 95 (vX13_bodyOf_95 j) := by
  unfold vX13_bodyOf_95
  refine s_iconst dX13_bodyOf_95 (by decide +kernel) ?_
  refine s_istore_n hZ.1 dX13_bodyOf_96 rfl (Nat.le_of_ble_eq_true rfl) ?_
  exact (wX13_bodyOf_97 hZ j hj)
noncomputable def vX13_bodyOf_94 (j : Nat → rx_K) : rx_K := o_ret0
set_option maxRecDepth 20000 in
theorem wX13_bodyOf_94 (hZ : zO b e D A X) (j : Nat → rx_K) (hj : ∀ k pc, [97][k]? = some pc → rx_OK (zV b e D A X) mX13_bodyOf 576 pc (j k)) : rx_OK (zV b e D A X) mX13_bodyOf 576 94 (vX13_bodyOf_94 j) := by
  unfold vX13_bodyOf_94
  exact s_vret rfl dX13_bodyOf_94
noncomputable def vX13_bodyOf_68 (j : Nat → rx_K) : rx_K := o_ld rx_isR 0 (o_ld rx_isR 0 (o_getf 13 60 (o_ld rx_isI 2 (o_ald 0 (o_ld rx_isR 0 (o_ld rx_isR 0 (o_getf 13 60 (o_ld rx_isI 2 (o_ald 0 (o_callV 1 13 (q13 200 1) (o_ld rx_isR 0 (o_getf 13 53 (o_ld rx_isI 2 (o_ald 1 (o_callV 3 13 FX13_wanted ((vX13_bodyOf_94 j)))))))))))))))))
set_option maxRecDepth 20000 in
theorem wX13_bodyOf_68 (hZ : zO b e D A X) (j : Nat → rx_K) (hj : ∀ k pc, [97][k]? = some pc → rx_OK (zV b e D A X) mX13_bodyOf 576 pc (j k)) : rx_OK (zV b e D A X) mX13_bodyOf 576 68 (vX13_bodyOf_68 j) := by
  unfold vX13_bodyOf_68
  refine s_aload_n hZ.1 dX13_bodyOf_68 rfl ?_
  refine s_aload_n hZ.1 dX13_bodyOf_69 rfl ?_
  refine yg13_60 dX13_bodyOf_70 zw4181 ?_
  refine s_iload_n hZ.1 dX13_bodyOf_73 rfl ?_
  refine s_iald (tt := 0) rfl dX13_bodyOf_74 ?_
  refine s_aload_n hZ.1 dX13_bodyOf_75 rfl ?_
  refine s_aload_n hZ.1 dX13_bodyOf_76 rfl ?_
  refine yg13_60 dX13_bodyOf_77 zw4181 ?_
  refine s_iload_n hZ.1 dX13_bodyOf_80 rfl ?_
  refine s_iald (tt := 0) rfl dX13_bodyOf_81 ?_
  refine s_callV hZ.1 (q13_ok hZ 200 1 _ _ rfl) (Nat.le_of_ble_eq_true rfl) vy_X13_judge zcl13 zw3398 zw274 (Or.inl zw3396) dX13_bodyOf_82 ?_
  refine s_aload_n hZ.1 dX13_bodyOf_85 rfl ?_
  refine yg13_53 dX13_bodyOf_86 zw4174 ?_
  refine s_iload_n hZ.1 dX13_bodyOf_89 rfl ?_
  refine s_lald (tt := 1) rfl dX13_bodyOf_90 ?_
  refine s_callV hZ.1 (Met_X13_wanted hZ) (Nat.le_of_ble_eq_true rfl) vy_X13_wanted zcl13 zw3473 zw292 (Or.inl zw3471) dX13_bodyOf_91 ?_
  exact (wX13_bodyOf_94 hZ j hj)
noncomputable def vX13_bodyOf_57 (j : Nat → rx_K) : rx_K := o_ld rx_isR 0 (o_getf 13 60 (o_ld rx_isI 2 (o_ald 0 (o_const 34359738352 (o_c2 rx_eq (vX13_bodyOf_94 j) (vX13_bodyOf_68 j))))))
set_option maxRecDepth 20000 in
theorem wX13_bodyOf_57 (hZ : zO b e D A X) (j : Nat → rx_K) (hj : ∀ k pc, [97][k]? = some pc → rx_OK (zV b e D A X) mX13_bodyOf 576 pc (j k)) : rx_OK (zV b e D A X) mX13_bodyOf 576 57 (vX13_bodyOf_57 j) := by
  unfold vX13_bodyOf_57
  refine s_aload_n hZ.1 dX13_bodyOf_57 rfl ?_
  refine yg13_60 dX13_bodyOf_58 zw4181 ?_
  refine s_iload_n hZ.1 dX13_bodyOf_61 rfl ?_
  refine s_iald (tt := 0) rfl dX13_bodyOf_62 ?_
  refine s_bipush dX13_bodyOf_63 (by decide +kernel) ?_
  exact s_icmp_eq dX13_bodyOf_65 (by decide) (wX13_bodyOf_94 hZ j hj) (wX13_bodyOf_68 hZ j hj)
noncomputable def vX13_bodyOf_35 (j : Nat → rx_K) : rx_K := o_putf rx_isZ 13 111 (o_ld rx_isR 0 (o_const 0 (o_putf rx_isI 13 114 (o_ld rx_isR 0 (o_const 0 (o_putf rx_isI 13 108 (o_ld rx_isR 0 (o_getf 13 42 (o_ld rx_isI 2 (o_ald 0 (o_c1 rx_eq (vX13_bodyOf_57 j) (vX13_bodyOf_95 j))))))))))))
set_option maxRecDepth 20000 in
theorem wX13_bodyOf_35 (hZ : zO b e D A X) (j : Nat → rx_K) (hj : ∀ k pc, [97][k]? = some pc → rx_OK (zV b e D A X) mX13_bodyOf 576 pc (j k)) : rx_OK (zV b e D A X) mX13_bodyOf 576 35 (vX13_bodyOf_35 j) := by
  unfold vX13_bodyOf_35
  refine yp13_111 hZ.1 dX13_bodyOf_35 zw4231 ?_
  refine s_aload_n hZ.1 dX13_bodyOf_38 rfl ?_
  refine s_iconst dX13_bodyOf_39 (by decide +kernel) ?_
  refine yp13_114 hZ.1 dX13_bodyOf_40 zw4234 ?_
  refine s_aload_n hZ.1 dX13_bodyOf_43 rfl ?_
  refine s_iconst dX13_bodyOf_44 (by decide +kernel) ?_
  refine yp13_108 hZ.1 dX13_bodyOf_45 zw4228 ?_
  refine s_aload_n hZ.1 dX13_bodyOf_48 rfl ?_
  refine yg13_42 dX13_bodyOf_49 zw4163 ?_
  refine s_iload_n hZ.1 dX13_bodyOf_52 rfl ?_
  refine s_iald (tt := 0) rfl dX13_bodyOf_53 ?_
  exact s_if_ne dX13_bodyOf_54 (by decide) (wX13_bodyOf_95 hZ j hj) (wX13_bodyOf_57 hZ j hj)
noncomputable def vX13_bodyOf_34 (j : Nat → rx_K) : rx_K := o_const 0 ((vX13_bodyOf_35 j))
set_option maxRecDepth 20000 in
theorem wX13_bodyOf_34 (hZ : zO b e D A X) (j : Nat → rx_K) (hj : ∀ k pc, [97][k]? = some pc → rx_OK (zV b e D A X) mX13_bodyOf 576 pc (j k)) : rx_OK (zV b e D A X) mX13_bodyOf 576 34 (vX13_bodyOf_34 j) := by
  unfold vX13_bodyOf_34
  refine s_iconst dX13_bodyOf_34 (by decide +kernel) ?_
  exact (wX13_bodyOf_35 hZ j hj)
noncomputable def vX13_bodyOf_30 (j : Nat → rx_K) : rx_K := o_const 8 ((vX13_bodyOf_35 j))
set_option maxRecDepth 20000 in
theorem wX13_bodyOf_30 (hZ : zO b e D A X) (j : Nat → rx_K) (hj : ∀ k pc, [97][k]? = some pc → rx_OK (zV b e D A X) mX13_bodyOf 576 pc (j k)) : rx_OK (zV b e D A X) mX13_bodyOf 576 30 (vX13_bodyOf_30 j) := by
  unfold vX13_bodyOf_30
  refine s_iconst dX13_bodyOf_30 (by decide +kernel) ?_
  exact s_goto dX13_bodyOf_31 (by decide) (wX13_bodyOf_35 hZ j hj)
noncomputable def vX13_bodyOf_20 (j : Nat → rx_K) : rx_K := o_ld rx_isR 0 (o_getf 13 42 (o_ld rx_isI 2 (o_ald 0 (o_const 24 (o_c2 rx_eq (vX13_bodyOf_30 j) (vX13_bodyOf_34 j))))))
set_option maxRecDepth 20000 in
theorem wX13_bodyOf_20 (hZ : zO b e D A X) (j : Nat → rx_K) (hj : ∀ k pc, [97][k]? = some pc → rx_OK (zV b e D A X) mX13_bodyOf 576 pc (j k)) : rx_OK (zV b e D A X) mX13_bodyOf 576 20 (vX13_bodyOf_20 j) := by
  unfold vX13_bodyOf_20
  refine s_aload_n hZ.1 dX13_bodyOf_20 rfl ?_
  refine yg13_42 dX13_bodyOf_21 zw4163 ?_
  refine s_iload_n hZ.1 dX13_bodyOf_24 rfl ?_
  refine s_iald (tt := 0) rfl dX13_bodyOf_25 ?_
  refine s_iconst dX13_bodyOf_26 (by decide +kernel) ?_
  exact s_icmp_ne dX13_bodyOf_27 (by decide) (wX13_bodyOf_34 hZ j hj) (wX13_bodyOf_30 hZ j hj)
noncomputable def vX13_bodyOf_0 (j : Nat → rx_K) : rx_K := o_ld rx_isR 0 (o_ld rx_isI 1 (o_putf rx_isI 13 109 (o_ld rx_isR 0 (o_ld rx_isI 2 (o_putf rx_isI 13 110 (o_ld rx_isR 0 (o_ld rx_isR 0 (o_getf 13 45 (o_ld rx_isI 2 (o_ald 3 (o_c1 rx_eq (vX13_bodyOf_20 j) (vX13_bodyOf_30 j))))))))))))
set_option maxRecDepth 20000 in
theorem wX13_bodyOf_0 (hZ : zO b e D A X) (j : Nat → rx_K) (hj : ∀ k pc, [97][k]? = some pc → rx_OK (zV b e D A X) mX13_bodyOf 576 pc (j k)) : rx_OK (zV b e D A X) mX13_bodyOf 576 0 (vX13_bodyOf_0 j) := by
  unfold vX13_bodyOf_0
  refine s_aload_n hZ.1 dX13_bodyOf_0 rfl ?_
  refine s_iload_n hZ.1 dX13_bodyOf_1 rfl ?_
  refine yp13_109 hZ.1 dX13_bodyOf_2 zw4229 ?_
  refine s_aload_n hZ.1 dX13_bodyOf_5 rfl ?_
  refine s_iload_n hZ.1 dX13_bodyOf_6 rfl ?_
  refine yp13_110 hZ.1 dX13_bodyOf_7 zw4230 ?_
  refine s_aload_n hZ.1 dX13_bodyOf_10 rfl ?_
  refine s_aload_n hZ.1 dX13_bodyOf_11 rfl ?_
  refine yg13_45 dX13_bodyOf_12 zw4166 ?_
  refine s_iload_n hZ.1 dX13_bodyOf_15 rfl ?_
  refine s_zald (tt := 3) rfl dX13_bodyOf_16 ?_
  exact s_if_ne dX13_bodyOf_17 (by decide) (wX13_bodyOf_30 hZ j hj) (wX13_bodyOf_20 hZ j hj)
noncomputable def vhX13_bodyOf (j : Nat → rx_K) : List rx_K := [vX13_bodyOf_97 j]
theorem vlX13_bodyOf (hZ : zO b e D A X) : ∀ n k pc, [97][k]? = some pc → rx_OK (zV b e D A X) mX13_bodyOf 576 pc (rx_J (vhX13_bodyOf) n k) := rx_loop fun j hj k pc h => by
  match k, h with
  | 0, h =>
    have e9 := Option.some.inj (show some 97 = some pc from h)
    subst e9
    exact wX13_bodyOf_97 hZ j hj
  | _ + 1, h => exact absurd h (by simp)
noncomputable def FX13_bodyOf : List Nat → rx_H → Option (Nat × rx_H) := rx_ent 4 (vX13_bodyOf_0 (rx_J (vhX13_bodyOf) 4000000000))
theorem Met_X13_bodyOf (hZ : zO b e D A X) : rx_Met (zV b e D A X) 576 yX13_bodyOf mX13_bodyOf (FX13_bodyOf) := rx_entry hZ.1 (wX13_bodyOf_0 hZ _ (vlX13_bodyOf hZ 4000000000)) (by decide +kernel) rfl (fun h => by cases h)
abbrev mX13_bodies : rx_M := (RX13, cX13_bodies, 4, none, false)
theorem vy_X13_bodies : rx_Y (zV b e D A X) yX13_bodies mX13_bodies 0 := ⟨zw3391, zw431, by decide, by decide +kernel, by decide +kernel, by decide +kernel⟩
noncomputable def vX13_bodies_88 (j : Nat → rx_K) : rx_K := o_ret0
set_option maxRecDepth 20000 in
theorem wX13_bodies_88 (hZ : zO b e D A X) (j : Nat → rx_K) (hj : ∀ k pc, [2, 34][k]? = some pc → rx_OK (zV b e D A X) mX13_bodies 577 pc (j k)) : rx_OK (zV b e D A X) mX13_bodies 577 88 (vX13_bodies_88 j) := by
  unfold vX13_bodies_88
  exact s_vret rfl dX13_bodies_88
noncomputable def vX13_bodies_82 (j : Nat → rx_K) : rx_K := o_inc 1 (1) ((j 0))
set_option maxRecDepth 20000 in
theorem wX13_bodies_82 (hZ : zO b e D A X) (j : Nat → rx_K) (hj : ∀ k pc, [2, 34][k]? = some pc → rx_OK (zV b e D A X) mX13_bodies 577 pc (j k)) : rx_OK (zV b e D A X) mX13_bodies 577 82 (vX13_bodies_82 j) := by
  unfold vX13_bodies_82
  refine s_iinc hZ.1 dX13_bodies_82 (Nat.le_of_ble_eq_true rfl) ?_
  exact s_goto dX13_bodies_85 (by decide) (hj 0 2 rfl)
noncomputable def vX13_bodies_76 (j : Nat → rx_K) : rx_K := o_inc 3 (1) ((j 1))
set_option maxRecDepth 20000 in
theorem wX13_bodies_76 (hZ : zO b e D A X) (j : Nat → rx_K) (hj : ∀ k pc, [2, 34][k]? = some pc → rx_OK (zV b e D A X) mX13_bodies 577 pc (j k)) : rx_OK (zV b e D A X) mX13_bodies 577 76 (vX13_bodies_76 j) := by
  unfold vX13_bodies_76
  refine s_iinc hZ.1 dX13_bodies_76 (Nat.le_of_ble_eq_true rfl) ?_
  exact s_goto dX13_bodies_79 (by decide) (hj 1 34 rfl)
noncomputable def vX13_bodies_65 (j : Nat → rx_K) : rx_K := o_ld rx_isR 0 (o_ld rx_isI 2 (o_ld rx_isI 2 (o_const 272 (o_bi (fun x y => x * y) (o_ld rx_isI 3 (o_bi (fun x y => x + y) (o_callV 2 13 FX13_bodyOf ((vX13_bodies_76 j)))))))))
set_option maxRecDepth 20000 in
theorem wX13_bodies_65 (hZ : zO b e D A X) (j : Nat → rx_K) (hj : ∀ k pc, [2, 34][k]? = some pc → rx_OK (zV b e D A X) mX13_bodies 577 pc (j k)) : rx_OK (zV b e D A X) mX13_bodies 577 65 (vX13_bodies_65 j) := by
  unfold vX13_bodies_65
  refine s_aload_n hZ.1 dX13_bodies_65 rfl ?_
  refine s_iload_n hZ.1 dX13_bodies_66 rfl ?_
  refine s_iload_n hZ.1 dX13_bodies_67 rfl ?_
  refine s_bipush dX13_bodies_68 (by decide +kernel) ?_
  refine s_imul dX13_bodies_70 ?_
  refine s_iload_n hZ.1 dX13_bodies_71 rfl ?_
  refine s_iadd dX13_bodies_72 ?_
  refine s_callV hZ.1 (Met_X13_bodyOf hZ) (Nat.le_of_ble_eq_true rfl) vy_X13_bodyOf zcl13 zw3394 zw273 (Or.inl zw3392) dX13_bodies_73 ?_
  exact (wX13_bodies_76 hZ j hj)
noncomputable def vX13_bodies_51 (j : Nat → rx_K) : rx_K := o_ld rx_isR 0 (o_getf 13 49 (o_ld rx_isI 2 (o_const 272 (o_bi (fun x y => x * y) (o_ld rx_isI 3 (o_bi (fun x y => x + y) (o_ald 3 (o_c1 rx_eq (vX13_bodies_65 j) (vX13_bodies_76 j)))))))))
set_option maxRecDepth 20000 in
theorem wX13_bodies_51 (hZ : zO b e D A X) (j : Nat → rx_K) (hj : ∀ k pc, [2, 34][k]? = some pc → rx_OK (zV b e D A X) mX13_bodies 577 pc (j k)) : rx_OK (zV b e D A X) mX13_bodies 577 51 (vX13_bodies_51 j) := by
  unfold vX13_bodies_51
  refine s_aload_n hZ.1 dX13_bodies_51 rfl ?_
  refine yg13_49 dX13_bodies_52 zw4170 ?_
  refine s_iload_n hZ.1 dX13_bodies_55 rfl ?_
  refine s_bipush dX13_bodies_56 (by decide +kernel) ?_
  refine s_imul dX13_bodies_58 ?_
  refine s_iload_n hZ.1 dX13_bodies_59 rfl ?_
  refine s_iadd dX13_bodies_60 ?_
  refine s_zald (tt := 3) rfl dX13_bodies_61 ?_
  exact s_if_ne dX13_bodies_62 (by decide) (wX13_bodies_76 hZ j hj) (wX13_bodies_65 hZ j hj)
noncomputable def vX13_bodies_44 (j : Nat → rx_K) : rx_K := o_ld rx_isR 0 (o_getf 13 20 (o_c1 rx_eq (vX13_bodies_51 j) (vX13_bodies_82 j)))
set_option maxRecDepth 20000 in
theorem wX13_bodies_44 (hZ : zO b e D A X) (j : Nat → rx_K) (hj : ∀ k pc, [2, 34][k]? = some pc → rx_OK (zV b e D A X) mX13_bodies 577 pc (j k)) : rx_OK (zV b e D A X) mX13_bodies 577 44 (vX13_bodies_44 j) := by
  unfold vX13_bodies_44
  refine s_aload_n hZ.1 dX13_bodies_44 rfl ?_
  refine yg13_20 dX13_bodies_45 zw4141 ?_
  exact s_if_ne dX13_bodies_48 (by decide) (wX13_bodies_82 hZ j hj) (wX13_bodies_51 hZ j hj)
noncomputable def vX13_bodies_34 (j : Nat → rx_K) : rx_K := o_ld rx_isI 3 (o_ld rx_isR 0 (o_getf 13 41 (o_ld rx_isI 2 (o_ald 0 (o_c2 rx_lt (vX13_bodies_44 j) (vX13_bodies_82 j))))))
set_option maxRecDepth 20000 in
theorem wX13_bodies_34 (hZ : zO b e D A X) (j : Nat → rx_K) (hj : ∀ k pc, [2, 34][k]? = some pc → rx_OK (zV b e D A X) mX13_bodies 577 pc (j k)) : rx_OK (zV b e D A X) mX13_bodies 577 34 (vX13_bodies_34 j) := by
  unfold vX13_bodies_34
  refine s_iload_n hZ.1 dX13_bodies_34 rfl ?_
  refine s_aload_n hZ.1 dX13_bodies_35 rfl ?_
  refine yg13_41 dX13_bodies_36 zw4162 ?_
  refine s_iload_n hZ.1 dX13_bodies_39 rfl ?_
  refine s_iald (tt := 0) rfl dX13_bodies_40 ?_
  exact s_icmp_ge dX13_bodies_41 (by decide) (wX13_bodies_82 hZ j hj) (wX13_bodies_44 hZ j hj)
noncomputable def vX13_bodies_22 (j : Nat → rx_K) : rx_K := o_ld rx_isR 0 (o_getf 13 19 (o_const 96 (o_bi (fun x y => x * y) (o_ld rx_isI 1 (o_bi (fun x y => x + y) (o_st rx_isI 2 (o_const 0 (o_st rx_isI 3 ((vX13_bodies_34 j))))))))))
set_option maxRecDepth 20000 in
theorem wX13_bodies_22 (hZ : zO b e D A X) (j : Nat → rx_K) (hj : ∀ k pc, [2, 34][k]? = some pc → rx_OK (zV b e D A X) mX13_bodies 577 pc (j k)) : rx_OK (zV b e D A X) mX13_bodies 577 22 (vX13_bodies_22 j) := by
  unfold vX13_bodies_22
  refine s_aload_n hZ.1 dX13_bodies_22 rfl ?_
  refine yg13_19 dX13_bodies_23 zw4140 ?_
  refine s_bipush dX13_bodies_26 (by decide +kernel) ?_
  refine s_imul dX13_bodies_28 ?_
  refine s_iload_n hZ.1 dX13_bodies_29 rfl ?_
  refine s_iadd dX13_bodies_30 ?_
  refine s_istore_n hZ.1 dX13_bodies_31 rfl (Nat.le_of_ble_eq_true rfl) ?_
  refine s_iconst dX13_bodies_32 (by decide +kernel) ?_
  refine s_istore_n hZ.1 dX13_bodies_33 rfl (Nat.le_of_ble_eq_true rfl) ?_
  exact (wX13_bodies_34 hZ j hj)
noncomputable def vX13_bodies_15 (j : Nat → rx_K) : rx_K := o_ld rx_isR 0 (o_getf 13 20 (o_c1 rx_eq (vX13_bodies_22 j) (vX13_bodies_88 j)))
set_option maxRecDepth 20000 in
theorem wX13_bodies_15 (hZ : zO b e D A X) (j : Nat → rx_K) (hj : ∀ k pc, [2, 34][k]? = some pc → rx_OK (zV b e D A X) mX13_bodies 577 pc (j k)) : rx_OK (zV b e D A X) mX13_bodies 577 15 (vX13_bodies_15 j) := by
  unfold vX13_bodies_15
  refine s_aload_n hZ.1 dX13_bodies_15 rfl ?_
  refine yg13_20 dX13_bodies_16 zw4141 ?_
  exact s_if_ne dX13_bodies_19 (by decide) (wX13_bodies_88 hZ j hj) (wX13_bodies_22 hZ j hj)
noncomputable def vX13_bodies_2 (j : Nat → rx_K) : rx_K := o_ld rx_isI 1 (o_ld rx_isR 0 (o_getf 13 23 (o_ld rx_isR 0 (o_getf 13 19 (o_ald 0 (o_c2 rx_lt (vX13_bodies_15 j) (vX13_bodies_88 j)))))))
set_option maxRecDepth 20000 in
theorem wX13_bodies_2 (hZ : zO b e D A X) (j : Nat → rx_K) (hj : ∀ k pc, [2, 34][k]? = some pc → rx_OK (zV b e D A X) mX13_bodies 577 pc (j k)) : rx_OK (zV b e D A X) mX13_bodies 577 2 (vX13_bodies_2 j) := by
  unfold vX13_bodies_2
  refine s_iload_n hZ.1 dX13_bodies_2 rfl ?_
  refine s_aload_n hZ.1 dX13_bodies_3 rfl ?_
  refine yg13_23 dX13_bodies_4 zw4144 ?_
  refine s_aload_n hZ.1 dX13_bodies_7 rfl ?_
  refine yg13_19 dX13_bodies_8 zw4140 ?_
  refine s_iald (tt := 0) rfl dX13_bodies_11 ?_
  exact s_icmp_ge dX13_bodies_12 (by decide) (wX13_bodies_88 hZ j hj) (wX13_bodies_15 hZ j hj)
noncomputable def vX13_bodies_0 (j : Nat → rx_K) : rx_K := o_const 0 (o_st rx_isI 1 ((vX13_bodies_2 j)))
set_option maxRecDepth 20000 in
theorem wX13_bodies_0 (hZ : zO b e D A X) (j : Nat → rx_K) (hj : ∀ k pc, [2, 34][k]? = some pc → rx_OK (zV b e D A X) mX13_bodies 577 pc (j k)) : rx_OK (zV b e D A X) mX13_bodies 577 0 (vX13_bodies_0 j) := by
  unfold vX13_bodies_0
  refine s_iconst dX13_bodies_0 (by decide +kernel) ?_
  refine s_istore_n hZ.1 dX13_bodies_1 rfl (Nat.le_of_ble_eq_true rfl) ?_
  exact (wX13_bodies_2 hZ j hj)
noncomputable def vhX13_bodies (j : Nat → rx_K) : List rx_K := [vX13_bodies_2 j, vX13_bodies_34 j]
theorem vlX13_bodies (hZ : zO b e D A X) : ∀ n k pc, [2, 34][k]? = some pc → rx_OK (zV b e D A X) mX13_bodies 577 pc (rx_J (vhX13_bodies) n k) := rx_loop fun j hj k pc h => by
  match k, h with
  | 0, h =>
    have e9 := Option.some.inj (show some 2 = some pc from h)
    subst e9
    exact wX13_bodies_2 hZ j hj
  | 1, h =>
    have e9 := Option.some.inj (show some 34 = some pc from h)
    subst e9
    exact wX13_bodies_34 hZ j hj
  | _ + 2, h => exact absurd h (by simp)
noncomputable def FX13_bodies : List Nat → rx_H → Option (Nat × rx_H) := rx_ent 4 (vX13_bodies_0 (rx_J (vhX13_bodies) 4000000000))
theorem Met_X13_bodies (hZ : zO b e D A X) : rx_Met (zV b e D A X) 577 yX13_bodies mX13_bodies (FX13_bodies) := rx_entry hZ.1 (wX13_bodies_0 hZ _ (vlX13_bodies hZ 4000000000)) (by decide +kernel) rfl (fun h => by cases h)
abbrev mX13_nextUse : rx_M := (RX13, cX13_nextUse, 9, (some .int), false)
theorem vy_X13_nextUse : rx_Y (zV b e D A X) yX13_nextUse mX13_nextUse 4 := ⟨zw3518, zw431, by decide, by decide +kernel, by decide +kernel, by decide +kernel⟩
noncomputable def vX13_nextUse_82 : rx_K := o_getf 13 127 (o_ld rx_isI 8 (o_const 0 (o_ast 0 (fun v => v) rx_isI (o_ld rx_isI 8 (o_ret1 rx_isI)))))
set_option maxRecDepth 20000 in
theorem wX13_nextUse_82 (hZ : zO b e D A X) : rx_OK (zV b e D A X) mX13_nextUse 0 82 vX13_nextUse_82 := by
  unfold vX13_nextUse_82
  refine yg13_127 dX13_nextUse_82 zw4247 ?_
  refine s_iload hZ.1 dX13_nextUse_85 ?_
  refine s_iconst dX13_nextUse_87 (by decide +kernel) ?_
  refine s_iast hZ.1 (tt := 0) rfl dX13_nextUse_88 ?_
  refine s_iload hZ.1 dX13_nextUse_89 ?_
  exact s_iret hZ.1 rfl dX13_nextUse_91
noncomputable def vX13_nextUse_43 : rx_K := o_ld rx_isI 8 (o_ld rx_isL 2 (o_ast 1 (fun v => v) rx_isL (o_ld rx_isR 0 (o_getf 13 122 (o_ld rx_isI 8 (o_ld rx_isL 4 (o_ast 1 (fun v => v) rx_isL (o_ld rx_isR 0 (o_getf 13 123 (o_ld rx_isI 8 (o_ld rx_isL 6 (o_ast 1 (fun v => v) rx_isL (o_ld rx_isR 0 (o_getf 13 124 (o_ld rx_isI 8 (o_const 0 (o_ast 0 (fun v => v) rx_isI (o_ld rx_isR 0 (o_getf 13 126 (o_ld rx_isI 8 (o_const 1 (o_ast 1 (fun v => v) rx_isL (o_ld rx_isR 0 (vX13_nextUse_82))))))))))))))))))))))))
set_option maxRecDepth 20000 in
theorem wX13_nextUse_43 (hZ : zO b e D A X) : rx_OK (zV b e D A X) mX13_nextUse 0 43 vX13_nextUse_43 := by
  unfold vX13_nextUse_43
  refine s_iload hZ.1 dX13_nextUse_43 ?_
  refine s_lload_n hZ.1 dX13_nextUse_45 rfl ?_
  refine s_last (tt := 1) rfl dX13_nextUse_46 ?_
  refine s_aload_n hZ.1 dX13_nextUse_47 rfl ?_
  refine yg13_122 dX13_nextUse_48 zw4242 ?_
  refine s_iload hZ.1 dX13_nextUse_51 ?_
  refine s_lload hZ.1 dX13_nextUse_53 ?_
  refine s_last (tt := 1) rfl dX13_nextUse_55 ?_
  refine s_aload_n hZ.1 dX13_nextUse_56 rfl ?_
  refine yg13_123 dX13_nextUse_57 zw4243 ?_
  refine s_iload hZ.1 dX13_nextUse_60 ?_
  refine s_lload hZ.1 dX13_nextUse_62 ?_
  refine s_last (tt := 1) rfl dX13_nextUse_64 ?_
  refine s_aload_n hZ.1 dX13_nextUse_65 rfl ?_
  refine yg13_124 dX13_nextUse_66 zw4244 ?_
  refine s_iload hZ.1 dX13_nextUse_69 ?_
  refine s_iconst dX13_nextUse_71 (by decide +kernel) ?_
  refine s_iast hZ.1 (tt := 0) rfl dX13_nextUse_72 ?_
  refine s_aload_n hZ.1 dX13_nextUse_73 rfl ?_
  refine yg13_126 dX13_nextUse_74 zw4246 ?_
  refine s_iload hZ.1 dX13_nextUse_77 ?_
  refine s_lconst dX13_nextUse_79 (by decide +kernel) ?_
  refine s_last (tt := 1) rfl dX13_nextUse_80 ?_
  refine s_aload_n hZ.1 dX13_nextUse_81 rfl ?_
  exact (wX13_nextUse_82 hZ)
noncomputable def vX13_nextUse_0 : rx_K := o_ld rx_isR 0 (o_getf 13 19 (o_const 14400 (o_bi (fun x y => x * y) (o_ld rx_isR 0 (o_getf 13 118 (o_ld rx_isR 0 (o_getf 13 19 (o_ald 0 (o_bi (fun x y => x + y) (o_st rx_isI 8 (o_ld rx_isR 0 (o_getf 13 119 (o_ld rx_isI 8 (o_ld rx_isI 1 (o_ast 0 (fun v => v) rx_isI (o_ld rx_isR 0 (o_getf 13 120 (o_ld rx_isI 8 (o_ld rx_isR 0 (o_getf 13 109 (o_ast 0 (fun v => v) rx_isI (o_ld rx_isR 0 (o_getf 13 121 (vX13_nextUse_43))))))))))))))))))))))))
set_option maxRecDepth 20000 in
theorem wX13_nextUse_0 (hZ : zO b e D A X) : rx_OK (zV b e D A X) mX13_nextUse 0 0 vX13_nextUse_0 := by
  unfold vX13_nextUse_0
  refine s_aload_n hZ.1 dX13_nextUse_0 rfl ?_
  refine yg13_19 dX13_nextUse_1 zw4140 ?_
  refine s_sipush dX13_nextUse_4 (by decide +kernel) ?_
  refine s_imul dX13_nextUse_7 ?_
  refine s_aload_n hZ.1 dX13_nextUse_8 rfl ?_
  refine yg13_118 dX13_nextUse_9 zw4238 ?_
  refine s_aload_n hZ.1 dX13_nextUse_12 rfl ?_
  refine yg13_19 dX13_nextUse_13 zw4140 ?_
  refine s_iald (tt := 0) rfl dX13_nextUse_16 ?_
  refine s_iadd dX13_nextUse_17 ?_
  refine s_istore hZ.1 dX13_nextUse_18 (Nat.le_of_ble_eq_true rfl) ?_
  refine s_aload_n hZ.1 dX13_nextUse_20 rfl ?_
  refine yg13_119 dX13_nextUse_21 zw4239 ?_
  refine s_iload hZ.1 dX13_nextUse_24 ?_
  refine s_iload_n hZ.1 dX13_nextUse_26 rfl ?_
  refine s_iast hZ.1 (tt := 0) rfl dX13_nextUse_27 ?_
  refine s_aload_n hZ.1 dX13_nextUse_28 rfl ?_
  refine yg13_120 dX13_nextUse_29 zw4240 ?_
  refine s_iload hZ.1 dX13_nextUse_32 ?_
  refine s_aload_n hZ.1 dX13_nextUse_34 rfl ?_
  refine yg13_109 dX13_nextUse_35 zw4229 ?_
  refine s_iast hZ.1 (tt := 0) rfl dX13_nextUse_38 ?_
  refine s_aload_n hZ.1 dX13_nextUse_39 rfl ?_
  refine yg13_121 dX13_nextUse_40 zw4241 ?_
  exact (wX13_nextUse_43 hZ)
noncomputable def FX13_nextUse : List Nat → rx_H → Option (Nat × rx_H) := rx_ent 9 vX13_nextUse_0
theorem Met_X13_nextUse (hZ : zO b e D A X) : rx_Met (zV b e D A X) 0 yX13_nextUse mX13_nextUse (FX13_nextUse) := rx_entry hZ.1 (wX13_nextUse_0 hZ) (by decide +kernel) rfl (fun h => by cases h)
abbrev mX13_keepUse : rx_M := (RX13, cX13_keepUse, 5, (some .int), false)
theorem vy_X13_keepUse : rx_Y (zV b e D A X) yX13_keepUse mX13_keepUse 1 := ⟨zw3522, zw431, by decide, by decide +kernel, by decide +kernel, by decide +kernel⟩
noncomputable def vX13_keepUse_212 (j : Nat → rx_K) : rx_K := o_ld rx_isR 0 (o_getf 13 118 (o_ld rx_isR 0 (o_getf 13 19 (o_dup2 (o_ald 0 (o_const 8 (o_bi (fun x y => x + y) (o_ast 0 (fun v => v) rx_isI (o_ld rx_isI 1 (o_ret1 rx_isI))))))))))
set_option maxRecDepth 20000 in
theorem wX13_keepUse_212 (hZ : zO b e D A X) (j : Nat → rx_K) (hj : ∀ k pc, [4, 147][k]? = some pc → rx_OK (zV b e D A X) mX13_keepUse 0 pc (j k)) : rx_OK (zV b e D A X) mX13_keepUse 0 212 (vX13_keepUse_212 j) := by
  unfold vX13_keepUse_212
  refine s_aload_n hZ.1 dX13_keepUse_212 rfl ?_
  refine yg13_118 dX13_keepUse_213 zw4238 ?_
  refine s_aload_n hZ.1 dX13_keepUse_216 rfl ?_
  refine yg13_19 dX13_keepUse_217 zw4140 ?_
  refine s_dup2 hZ.1 dX13_keepUse_220 ?_
  refine s_iald (tt := 0) rfl dX13_keepUse_221 ?_
  refine s_iconst dX13_keepUse_222 (by decide +kernel) ?_
  refine s_iadd dX13_keepUse_223 ?_
  refine s_iast hZ.1 (tt := 0) rfl dX13_keepUse_224 ?_
  refine s_iload_n hZ.1 dX13_keepUse_225 rfl ?_
  exact s_iret hZ.1 rfl dX13_keepUse_226
noncomputable def vX13_keepUse_206 (j : Nat → rx_K) : rx_K := o_inc 2 (-1) ((j 0))
set_option maxRecDepth 20000 in
theorem wX13_keepUse_206 (hZ : zO b e D A X) (j : Nat → rx_K) (hj : ∀ k pc, [4, 147][k]? = some pc → rx_OK (zV b e D A X) mX13_keepUse 0 pc (j k)) : rx_OK (zV b e D A X) mX13_keepUse 0 206 (vX13_keepUse_206 j) := by
  unfold vX13_keepUse_206
  refine s_iinc hZ.1 dX13_keepUse_206 (Nat.le_of_ble_eq_true rfl) ?_
  exact s_goto dX13_keepUse_209 (by decide) (hj 0 4 rfl)
noncomputable def vX13_keepUse_204 (j : Nat → rx_K) : rx_K := o_ld rx_isI 2 (o_ret1 rx_isI)
set_option maxRecDepth 20000 in
theorem wX13_keepUse_204 (hZ : zO b e D A X) (j : Nat → rx_K) (hj : ∀ k pc, [4, 147][k]? = some pc → rx_OK (zV b e D A X) mX13_keepUse 0 pc (j k)) : rx_OK (zV b e D A X) mX13_keepUse 0 204 (vX13_keepUse_204 j) := by
  unfold vX13_keepUse_204
  refine s_iload_n hZ.1 dX13_keepUse_204 rfl ?_
  exact s_iret hZ.1 rfl dX13_keepUse_205
noncomputable def vX13_keepUse_200 (j : Nat → rx_K) : rx_K := o_ld rx_isI 3 (o_c1 rx_eq (vX13_keepUse_206 j) (vX13_keepUse_204 j))
set_option maxRecDepth 20000 in
theorem wX13_keepUse_200 (hZ : zO b e D A X) (j : Nat → rx_K) (hj : ∀ k pc, [4, 147][k]? = some pc → rx_OK (zV b e D A X) mX13_keepUse 0 pc (j k)) : rx_OK (zV b e D A X) mX13_keepUse 0 200 (vX13_keepUse_200 j) := by
  unfold vX13_keepUse_200
  refine s_iload_n hZ.1 dX13_keepUse_200 rfl ?_
  exact s_if_eq dX13_keepUse_201 (by decide) (wX13_keepUse_206 hZ j hj) (wX13_keepUse_204 hZ j hj)
noncomputable def vX13_keepUse_193 (j : Nat → rx_K) : rx_K := o_st rx_isI 3 (o_inc 4 (1) ((j 1)))
set_option maxRecDepth 20000 in
theorem wX13_keepUse_193 (hZ : zO b e D A X) (j : Nat → rx_K) (hj : ∀ k pc, [4, 147][k]? = some pc → rx_OK (zV b e D A X) mX13_keepUse 0 pc (j k)) : rx_OK (zV b e D A X) mX13_keepUse 0 193 (vX13_keepUse_193 j) := by
  unfold vX13_keepUse_193
  refine s_istore_n hZ.1 dX13_keepUse_193 rfl (Nat.le_of_ble_eq_true rfl) ?_
  refine s_iinc hZ.1 dX13_keepUse_194 (Nat.le_of_ble_eq_true rfl) ?_
  exact s_goto dX13_keepUse_197 (by decide) (hj 1 147 rfl)
noncomputable def vX13_keepUse_192 (j : Nat → rx_K) : rx_K := o_const 0 ((vX13_keepUse_193 j))
set_option maxRecDepth 20000 in
theorem wX13_keepUse_192 (hZ : zO b e D A X) (j : Nat → rx_K) (hj : ∀ k pc, [4, 147][k]? = some pc → rx_OK (zV b e D A X) mX13_keepUse 0 pc (j k)) : rx_OK (zV b e D A X) mX13_keepUse 0 192 (vX13_keepUse_192 j) := by
  unfold vX13_keepUse_192
  refine s_iconst dX13_keepUse_192 (by decide +kernel) ?_
  exact (wX13_keepUse_193 hZ j hj)
noncomputable def vX13_keepUse_188 (j : Nat → rx_K) : rx_K := o_const 8 ((vX13_keepUse_193 j))
set_option maxRecDepth 20000 in
theorem wX13_keepUse_188 (hZ : zO b e D A X) (j : Nat → rx_K) (hj : ∀ k pc, [4, 147][k]? = some pc → rx_OK (zV b e D A X) mX13_keepUse 0 pc (j k)) : rx_OK (zV b e D A X) mX13_keepUse 0 188 (vX13_keepUse_188 j) := by
  unfold vX13_keepUse_188
  refine s_iconst dX13_keepUse_188 (by decide +kernel) ?_
  exact s_goto dX13_keepUse_189 (by decide) (wX13_keepUse_193 hZ j hj)
noncomputable def vX13_keepUse_162 (j : Nat → rx_K) : rx_K := o_ld rx_isR 0 (o_getf 13 125 (o_const 32 (o_ld rx_isI 2 (o_bi (fun x y => x * y) (o_ld rx_isI 4 (o_bi (fun x y => x + y) (o_ald 1 (o_ld rx_isR 0 (o_getf 13 125 (o_const 32 (o_ld rx_isI 1 (o_bi (fun x y => x * y) (o_ld rx_isI 4 (o_bi (fun x y => x + y) (o_ald 1 (o_bc (fun x y => lg_cmp x y) (o_c1 rx_eq (vX13_keepUse_188 j) (vX13_keepUse_192 j))))))))))))))))))
set_option maxRecDepth 20000 in
theorem wX13_keepUse_162 (hZ : zO b e D A X) (j : Nat → rx_K) (hj : ∀ k pc, [4, 147][k]? = some pc → rx_OK (zV b e D A X) mX13_keepUse 0 pc (j k)) : rx_OK (zV b e D A X) mX13_keepUse 0 162 (vX13_keepUse_162 j) := by
  unfold vX13_keepUse_162
  refine s_aload_n hZ.1 dX13_keepUse_162 rfl ?_
  refine yg13_125 dX13_keepUse_163 zw4245 ?_
  refine s_iconst dX13_keepUse_166 (by decide +kernel) ?_
  refine s_iload_n hZ.1 dX13_keepUse_167 rfl ?_
  refine s_imul dX13_keepUse_168 ?_
  refine s_iload hZ.1 dX13_keepUse_169 ?_
  refine s_iadd dX13_keepUse_171 ?_
  refine s_lald (tt := 1) rfl dX13_keepUse_172 ?_
  refine s_aload_n hZ.1 dX13_keepUse_173 rfl ?_
  refine yg13_125 dX13_keepUse_174 zw4245 ?_
  refine s_iconst dX13_keepUse_177 (by decide +kernel) ?_
  refine s_iload_n hZ.1 dX13_keepUse_178 rfl ?_
  refine s_imul dX13_keepUse_179 ?_
  refine s_iload hZ.1 dX13_keepUse_180 ?_
  refine s_iadd dX13_keepUse_182 ?_
  refine s_lald (tt := 1) rfl dX13_keepUse_183 ?_
  refine s_lcmp dX13_keepUse_184 ?_
  exact s_if_ne dX13_keepUse_185 (by decide) (wX13_keepUse_192 hZ j hj) (wX13_keepUse_188 hZ j hj)
noncomputable def vX13_keepUse_158 (j : Nat → rx_K) : rx_K := o_ld rx_isI 3 (o_c1 rx_eq (vX13_keepUse_200 j) (vX13_keepUse_162 j))
set_option maxRecDepth 20000 in
theorem wX13_keepUse_158 (hZ : zO b e D A X) (j : Nat → rx_K) (hj : ∀ k pc, [4, 147][k]? = some pc → rx_OK (zV b e D A X) mX13_keepUse 0 pc (j k)) : rx_OK (zV b e D A X) mX13_keepUse 0 158 (vX13_keepUse_158 j) := by
  unfold vX13_keepUse_158
  refine s_iload_n hZ.1 dX13_keepUse_158 rfl ?_
  exact s_if_eq dX13_keepUse_159 (by decide) (wX13_keepUse_200 hZ j hj) (wX13_keepUse_162 hZ j hj)
noncomputable def vX13_keepUse_147 (j : Nat → rx_K) : rx_K := o_ld rx_isI 4 (o_ld rx_isR 0 (o_getf 13 124 (o_ld rx_isI 1 (o_ald 0 (o_c2 rx_lt (vX13_keepUse_158 j) (vX13_keepUse_200 j))))))
set_option maxRecDepth 20000 in
theorem wX13_keepUse_147 (hZ : zO b e D A X) (j : Nat → rx_K) (hj : ∀ k pc, [4, 147][k]? = some pc → rx_OK (zV b e D A X) mX13_keepUse 0 pc (j k)) : rx_OK (zV b e D A X) mX13_keepUse 0 147 (vX13_keepUse_147 j) := by
  unfold vX13_keepUse_147
  refine s_iload hZ.1 dX13_keepUse_147 ?_
  refine s_aload_n hZ.1 dX13_keepUse_149 rfl ?_
  refine yg13_124 dX13_keepUse_150 zw4244 ?_
  refine s_iload_n hZ.1 dX13_keepUse_153 rfl ?_
  refine s_iald (tt := 0) rfl dX13_keepUse_154 ?_
  exact s_icmp_ge dX13_keepUse_155 (by decide) (wX13_keepUse_200 hZ j hj) (wX13_keepUse_158 hZ j hj)
noncomputable def vX13_keepUse_143 (j : Nat → rx_K) : rx_K := o_st rx_isI 3 (o_const 0 (o_st rx_isI 4 ((vX13_keepUse_147 j))))
set_option maxRecDepth 20000 in
theorem wX13_keepUse_143 (hZ : zO b e D A X) (j : Nat → rx_K) (hj : ∀ k pc, [4, 147][k]? = some pc → rx_OK (zV b e D A X) mX13_keepUse 0 pc (j k)) : rx_OK (zV b e D A X) mX13_keepUse 0 143 (vX13_keepUse_143 j) := by
  unfold vX13_keepUse_143
  refine s_istore_n hZ.1 dX13_keepUse_143 rfl (Nat.le_of_ble_eq_true rfl) ?_
  refine s_iconst dX13_keepUse_144 (by decide +kernel) ?_
  refine s_istore hZ.1 dX13_keepUse_145 (Nat.le_of_ble_eq_true rfl) ?_
  exact (wX13_keepUse_147 hZ j hj)
noncomputable def vX13_keepUse_142 (j : Nat → rx_K) : rx_K := o_const 0 ((vX13_keepUse_143 j))
set_option maxRecDepth 20000 in
theorem wX13_keepUse_142 (hZ : zO b e D A X) (j : Nat → rx_K) (hj : ∀ k pc, [4, 147][k]? = some pc → rx_OK (zV b e D A X) mX13_keepUse 0 pc (j k)) : rx_OK (zV b e D A X) mX13_keepUse 0 142 (vX13_keepUse_142 j) := by
  unfold vX13_keepUse_142
  refine s_iconst dX13_keepUse_142 (by decide +kernel) ?_
  exact (wX13_keepUse_143 hZ j hj)
noncomputable def vX13_keepUse_138 (j : Nat → rx_K) : rx_K := o_const 8 ((vX13_keepUse_143 j))
set_option maxRecDepth 20000 in
theorem wX13_keepUse_138 (hZ : zO b e D A X) (j : Nat → rx_K) (hj : ∀ k pc, [4, 147][k]? = some pc → rx_OK (zV b e D A X) mX13_keepUse 0 pc (j k)) : rx_OK (zV b e D A X) mX13_keepUse 0 138 (vX13_keepUse_138 j) := by
  unfold vX13_keepUse_138
  refine s_iconst dX13_keepUse_138 (by decide +kernel) ?_
  exact s_goto dX13_keepUse_139 (by decide) (wX13_keepUse_143 hZ j hj)
noncomputable def vX13_keepUse_123 (j : Nat → rx_K) : rx_K := o_ld rx_isR 0 (o_getf 13 124 (o_ld rx_isI 2 (o_ald 0 (o_ld rx_isR 0 (o_getf 13 124 (o_ld rx_isI 1 (o_ald 0 (o_c2 rx_eq (vX13_keepUse_138 j) (vX13_keepUse_142 j)))))))))
set_option maxRecDepth 20000 in
theorem wX13_keepUse_123 (hZ : zO b e D A X) (j : Nat → rx_K) (hj : ∀ k pc, [4, 147][k]? = some pc → rx_OK (zV b e D A X) mX13_keepUse 0 pc (j k)) : rx_OK (zV b e D A X) mX13_keepUse 0 123 (vX13_keepUse_123 j) := by
  unfold vX13_keepUse_123
  refine s_aload_n hZ.1 dX13_keepUse_123 rfl ?_
  refine yg13_124 dX13_keepUse_124 zw4244 ?_
  refine s_iload_n hZ.1 dX13_keepUse_127 rfl ?_
  refine s_iald (tt := 0) rfl dX13_keepUse_128 ?_
  refine s_aload_n hZ.1 dX13_keepUse_129 rfl ?_
  refine yg13_124 dX13_keepUse_130 zw4244 ?_
  refine s_iload_n hZ.1 dX13_keepUse_133 rfl ?_
  refine s_iald (tt := 0) rfl dX13_keepUse_134 ?_
  exact s_icmp_ne dX13_keepUse_135 (by decide) (wX13_keepUse_142 hZ j hj) (wX13_keepUse_138 hZ j hj)
noncomputable def vX13_keepUse_108 (j : Nat → rx_K) : rx_K := o_ld rx_isR 0 (o_getf 13 127 (o_ld rx_isI 2 (o_ald 0 (o_ld rx_isR 0 (o_getf 13 127 (o_ld rx_isI 1 (o_ald 0 (o_c2 rx_eq (vX13_keepUse_123 j) (vX13_keepUse_142 j)))))))))
set_option maxRecDepth 20000 in
theorem wX13_keepUse_108 (hZ : zO b e D A X) (j : Nat → rx_K) (hj : ∀ k pc, [4, 147][k]? = some pc → rx_OK (zV b e D A X) mX13_keepUse 0 pc (j k)) : rx_OK (zV b e D A X) mX13_keepUse 0 108 (vX13_keepUse_108 j) := by
  unfold vX13_keepUse_108
  refine s_aload_n hZ.1 dX13_keepUse_108 rfl ?_
  refine yg13_127 dX13_keepUse_109 zw4247 ?_
  refine s_iload_n hZ.1 dX13_keepUse_112 rfl ?_
  refine s_iald (tt := 0) rfl dX13_keepUse_113 ?_
  refine s_aload_n hZ.1 dX13_keepUse_114 rfl ?_
  refine yg13_127 dX13_keepUse_115 zw4247 ?_
  refine s_iload_n hZ.1 dX13_keepUse_118 rfl ?_
  refine s_iald (tt := 0) rfl dX13_keepUse_119 ?_
  exact s_icmp_ne dX13_keepUse_120 (by decide) (wX13_keepUse_142 hZ j hj) (wX13_keepUse_123 hZ j hj)
noncomputable def vX13_keepUse_92 (j : Nat → rx_K) : rx_K := o_ld rx_isR 0 (o_getf 13 126 (o_ld rx_isI 2 (o_ald 1 (o_ld rx_isR 0 (o_getf 13 126 (o_ld rx_isI 1 (o_ald 1 (o_bc (fun x y => lg_cmp x y) (o_c1 rx_eq (vX13_keepUse_108 j) (vX13_keepUse_142 j))))))))))
set_option maxRecDepth 20000 in
theorem wX13_keepUse_92 (hZ : zO b e D A X) (j : Nat → rx_K) (hj : ∀ k pc, [4, 147][k]? = some pc → rx_OK (zV b e D A X) mX13_keepUse 0 pc (j k)) : rx_OK (zV b e D A X) mX13_keepUse 0 92 (vX13_keepUse_92 j) := by
  unfold vX13_keepUse_92
  refine s_aload_n hZ.1 dX13_keepUse_92 rfl ?_
  refine yg13_126 dX13_keepUse_93 zw4246 ?_
  refine s_iload_n hZ.1 dX13_keepUse_96 rfl ?_
  refine s_lald (tt := 1) rfl dX13_keepUse_97 ?_
  refine s_aload_n hZ.1 dX13_keepUse_98 rfl ?_
  refine yg13_126 dX13_keepUse_99 zw4246 ?_
  refine s_iload_n hZ.1 dX13_keepUse_102 rfl ?_
  refine s_lald (tt := 1) rfl dX13_keepUse_103 ?_
  refine s_lcmp dX13_keepUse_104 ?_
  exact s_if_ne dX13_keepUse_105 (by decide) (wX13_keepUse_142 hZ j hj) (wX13_keepUse_108 hZ j hj)
noncomputable def vX13_keepUse_76 (j : Nat → rx_K) : rx_K := o_ld rx_isR 0 (o_getf 13 123 (o_ld rx_isI 2 (o_ald 1 (o_ld rx_isR 0 (o_getf 13 123 (o_ld rx_isI 1 (o_ald 1 (o_bc (fun x y => lg_cmp x y) (o_c1 rx_eq (vX13_keepUse_92 j) (vX13_keepUse_142 j))))))))))
set_option maxRecDepth 20000 in
theorem wX13_keepUse_76 (hZ : zO b e D A X) (j : Nat → rx_K) (hj : ∀ k pc, [4, 147][k]? = some pc → rx_OK (zV b e D A X) mX13_keepUse 0 pc (j k)) : rx_OK (zV b e D A X) mX13_keepUse 0 76 (vX13_keepUse_76 j) := by
  unfold vX13_keepUse_76
  refine s_aload_n hZ.1 dX13_keepUse_76 rfl ?_
  refine yg13_123 dX13_keepUse_77 zw4243 ?_
  refine s_iload_n hZ.1 dX13_keepUse_80 rfl ?_
  refine s_lald (tt := 1) rfl dX13_keepUse_81 ?_
  refine s_aload_n hZ.1 dX13_keepUse_82 rfl ?_
  refine yg13_123 dX13_keepUse_83 zw4243 ?_
  refine s_iload_n hZ.1 dX13_keepUse_86 rfl ?_
  refine s_lald (tt := 1) rfl dX13_keepUse_87 ?_
  refine s_lcmp dX13_keepUse_88 ?_
  exact s_if_ne dX13_keepUse_89 (by decide) (wX13_keepUse_142 hZ j hj) (wX13_keepUse_92 hZ j hj)
noncomputable def vX13_keepUse_60 (j : Nat → rx_K) : rx_K := o_ld rx_isR 0 (o_getf 13 122 (o_ld rx_isI 2 (o_ald 1 (o_ld rx_isR 0 (o_getf 13 122 (o_ld rx_isI 1 (o_ald 1 (o_bc (fun x y => lg_cmp x y) (o_c1 rx_eq (vX13_keepUse_76 j) (vX13_keepUse_142 j))))))))))
set_option maxRecDepth 20000 in
theorem wX13_keepUse_60 (hZ : zO b e D A X) (j : Nat → rx_K) (hj : ∀ k pc, [4, 147][k]? = some pc → rx_OK (zV b e D A X) mX13_keepUse 0 pc (j k)) : rx_OK (zV b e D A X) mX13_keepUse 0 60 (vX13_keepUse_60 j) := by
  unfold vX13_keepUse_60
  refine s_aload_n hZ.1 dX13_keepUse_60 rfl ?_
  refine yg13_122 dX13_keepUse_61 zw4242 ?_
  refine s_iload_n hZ.1 dX13_keepUse_64 rfl ?_
  refine s_lald (tt := 1) rfl dX13_keepUse_65 ?_
  refine s_aload_n hZ.1 dX13_keepUse_66 rfl ?_
  refine yg13_122 dX13_keepUse_67 zw4242 ?_
  refine s_iload_n hZ.1 dX13_keepUse_70 rfl ?_
  refine s_lald (tt := 1) rfl dX13_keepUse_71 ?_
  refine s_lcmp dX13_keepUse_72 ?_
  exact s_if_ne dX13_keepUse_73 (by decide) (wX13_keepUse_142 hZ j hj) (wX13_keepUse_76 hZ j hj)
noncomputable def vX13_keepUse_44 (j : Nat → rx_K) : rx_K := o_ld rx_isR 0 (o_getf 13 121 (o_ld rx_isI 2 (o_ald 1 (o_ld rx_isR 0 (o_getf 13 121 (o_ld rx_isI 1 (o_ald 1 (o_bc (fun x y => lg_cmp x y) (o_c1 rx_eq (vX13_keepUse_60 j) (vX13_keepUse_142 j))))))))))
set_option maxRecDepth 20000 in
theorem wX13_keepUse_44 (hZ : zO b e D A X) (j : Nat → rx_K) (hj : ∀ k pc, [4, 147][k]? = some pc → rx_OK (zV b e D A X) mX13_keepUse 0 pc (j k)) : rx_OK (zV b e D A X) mX13_keepUse 0 44 (vX13_keepUse_44 j) := by
  unfold vX13_keepUse_44
  refine s_aload_n hZ.1 dX13_keepUse_44 rfl ?_
  refine yg13_121 dX13_keepUse_45 zw4241 ?_
  refine s_iload_n hZ.1 dX13_keepUse_48 rfl ?_
  refine s_lald (tt := 1) rfl dX13_keepUse_49 ?_
  refine s_aload_n hZ.1 dX13_keepUse_50 rfl ?_
  refine yg13_121 dX13_keepUse_51 zw4241 ?_
  refine s_iload_n hZ.1 dX13_keepUse_54 rfl ?_
  refine s_lald (tt := 1) rfl dX13_keepUse_55 ?_
  refine s_lcmp dX13_keepUse_56 ?_
  exact s_if_ne dX13_keepUse_57 (by decide) (wX13_keepUse_142 hZ j hj) (wX13_keepUse_60 hZ j hj)
noncomputable def vX13_keepUse_29 (j : Nat → rx_K) : rx_K := o_ld rx_isR 0 (o_getf 13 119 (o_ld rx_isI 2 (o_ald 0 (o_ld rx_isR 0 (o_getf 13 119 (o_ld rx_isI 1 (o_ald 0 (o_c2 rx_eq (vX13_keepUse_44 j) (vX13_keepUse_142 j)))))))))
set_option maxRecDepth 20000 in
theorem wX13_keepUse_29 (hZ : zO b e D A X) (j : Nat → rx_K) (hj : ∀ k pc, [4, 147][k]? = some pc → rx_OK (zV b e D A X) mX13_keepUse 0 pc (j k)) : rx_OK (zV b e D A X) mX13_keepUse 0 29 (vX13_keepUse_29 j) := by
  unfold vX13_keepUse_29
  refine s_aload_n hZ.1 dX13_keepUse_29 rfl ?_
  refine yg13_119 dX13_keepUse_30 zw4239 ?_
  refine s_iload_n hZ.1 dX13_keepUse_33 rfl ?_
  refine s_iald (tt := 0) rfl dX13_keepUse_34 ?_
  refine s_aload_n hZ.1 dX13_keepUse_35 rfl ?_
  refine yg13_119 dX13_keepUse_36 zw4239 ?_
  refine s_iload_n hZ.1 dX13_keepUse_39 rfl ?_
  refine s_iald (tt := 0) rfl dX13_keepUse_40 ?_
  exact s_icmp_ne dX13_keepUse_41 (by decide) (wX13_keepUse_142 hZ j hj) (wX13_keepUse_44 hZ j hj)
noncomputable def vX13_keepUse_16 (j : Nat → rx_K) : rx_K := o_ld rx_isR 0 (o_getf 13 120 (o_ld rx_isI 2 (o_ald 0 (o_ld rx_isR 0 (o_getf 13 109 (o_c2 rx_eq (vX13_keepUse_29 j) (vX13_keepUse_212 j)))))))
set_option maxRecDepth 20000 in
theorem wX13_keepUse_16 (hZ : zO b e D A X) (j : Nat → rx_K) (hj : ∀ k pc, [4, 147][k]? = some pc → rx_OK (zV b e D A X) mX13_keepUse 0 pc (j k)) : rx_OK (zV b e D A X) mX13_keepUse 0 16 (vX13_keepUse_16 j) := by
  unfold vX13_keepUse_16
  refine s_aload_n hZ.1 dX13_keepUse_16 rfl ?_
  refine yg13_120 dX13_keepUse_17 zw4240 ?_
  refine s_iload_n hZ.1 dX13_keepUse_20 rfl ?_
  refine s_iald (tt := 0) rfl dX13_keepUse_21 ?_
  refine s_aload_n hZ.1 dX13_keepUse_22 rfl ?_
  refine yg13_109 dX13_keepUse_23 zw4229 ?_
  exact s_icmp_ne dX13_keepUse_26 (by decide) (wX13_keepUse_212 hZ j hj) (wX13_keepUse_29 hZ j hj)
noncomputable def vX13_keepUse_4 (j : Nat → rx_K) : rx_K := o_ld rx_isI 2 (o_ld rx_isR 0 (o_getf 13 19 (o_const 14400 (o_bi (fun x y => x * y) (o_c2 rx_lt (vX13_keepUse_212 j) (vX13_keepUse_16 j))))))
set_option maxRecDepth 20000 in
theorem wX13_keepUse_4 (hZ : zO b e D A X) (j : Nat → rx_K) (hj : ∀ k pc, [4, 147][k]? = some pc → rx_OK (zV b e D A X) mX13_keepUse 0 pc (j k)) : rx_OK (zV b e D A X) mX13_keepUse 0 4 (vX13_keepUse_4 j) := by
  unfold vX13_keepUse_4
  refine s_iload_n hZ.1 dX13_keepUse_4 rfl ?_
  refine s_aload_n hZ.1 dX13_keepUse_5 rfl ?_
  refine yg13_19 dX13_keepUse_6 zw4140 ?_
  refine s_sipush dX13_keepUse_9 (by decide +kernel) ?_
  refine s_imul dX13_keepUse_12 ?_
  exact s_icmp_lt dX13_keepUse_13 (by decide) (wX13_keepUse_212 hZ j hj) (wX13_keepUse_16 hZ j hj)
noncomputable def vX13_keepUse_0 (j : Nat → rx_K) : rx_K := o_ld rx_isI 1 (o_const 8 (o_bi (fun x y => x - y) (o_st rx_isI 2 ((vX13_keepUse_4 j)))))
set_option maxRecDepth 20000 in
theorem wX13_keepUse_0 (hZ : zO b e D A X) (j : Nat → rx_K) (hj : ∀ k pc, [4, 147][k]? = some pc → rx_OK (zV b e D A X) mX13_keepUse 0 pc (j k)) : rx_OK (zV b e D A X) mX13_keepUse 0 0 (vX13_keepUse_0 j) := by
  unfold vX13_keepUse_0
  refine s_iload_n hZ.1 dX13_keepUse_0 rfl ?_
  refine s_iconst dX13_keepUse_1 (by decide +kernel) ?_
  refine s_isub dX13_keepUse_2 ?_
  refine s_istore_n hZ.1 dX13_keepUse_3 rfl (Nat.le_of_ble_eq_true rfl) ?_
  exact (wX13_keepUse_4 hZ j hj)
noncomputable def vhX13_keepUse (j : Nat → rx_K) : List rx_K := [vX13_keepUse_4 j, vX13_keepUse_147 j]
theorem vlX13_keepUse (hZ : zO b e D A X) : ∀ n k pc, [4, 147][k]? = some pc → rx_OK (zV b e D A X) mX13_keepUse 0 pc (rx_J (vhX13_keepUse) n k) := rx_loop fun j hj k pc h => by
  match k, h with
  | 0, h =>
    have e9 := Option.some.inj (show some 4 = some pc from h)
    subst e9
    exact wX13_keepUse_4 hZ j hj
  | 1, h =>
    have e9 := Option.some.inj (show some 147 = some pc from h)
    subst e9
    exact wX13_keepUse_147 hZ j hj
  | _ + 2, h => exact absurd h (by simp)
noncomputable def FX13_keepUse : List Nat → rx_H → Option (Nat × rx_H) := rx_ent 5 (vX13_keepUse_0 (rx_J (vhX13_keepUse) 4000000000))
theorem Met_X13_keepUse (hZ : zO b e D A X) : rx_Met (zV b e D A X) 0 yX13_keepUse mX13_keepUse (FX13_keepUse) := rx_entry hZ.1 (wX13_keepUse_0 hZ _ (vlX13_keepUse hZ 4000000000)) (by decide +kernel) rfl (fun h => by cases h)
abbrev mX13_useFor : rx_M := (RX13, cX13_useFor, 8, (some .int), false)
theorem vy_X13_useFor : rx_Y (zV b e D A X) yX13_useFor mX13_useFor 4 := ⟨zw3514, zw431, by decide, by decide +kernel, by decide +kernel, by decide +kernel⟩
noncomputable def vX13_useFor_0 : rx_K := o_ld rx_isR 0 (o_ld rx_isR 0 (o_ld rx_isI 1 (o_ld rx_isL 2 (o_ld rx_isL 4 (o_ld rx_isL 6 (o_callV 4 13 FX13_nextUse (o_callV 1 13 FX13_keepUse (o_ret1 rx_isI))))))))
set_option maxRecDepth 20000 in
theorem wX13_useFor_0 (hZ : zO b e D A X) : rx_OK (zV b e D A X) mX13_useFor 1 0 vX13_useFor_0 := by
  unfold vX13_useFor_0
  refine s_aload_n hZ.1 dX13_useFor_0 rfl ?_
  refine s_aload_n hZ.1 dX13_useFor_1 rfl ?_
  refine s_iload_n hZ.1 dX13_useFor_2 rfl ?_
  refine s_lload_n hZ.1 dX13_useFor_3 rfl ?_
  refine s_lload hZ.1 dX13_useFor_4 ?_
  refine s_lload hZ.1 dX13_useFor_6 ?_
  refine s_callV hZ.1 (Met_X13_nextUse hZ) (Nat.le_of_ble_eq_true rfl) vy_X13_nextUse zcl13 zw3517 zw303 (Or.inl zw3515) dX13_useFor_8 ?_
  refine s_callV hZ.1 (Met_X13_keepUse hZ) (Nat.le_of_ble_eq_true rfl) vy_X13_keepUse zcl13 zw3521 zw304 (Or.inl zw3519) dX13_useFor_11 ?_
  exact s_iret hZ.1 rfl dX13_useFor_14
noncomputable def FX13_useFor : List Nat → rx_H → Option (Nat × rx_H) := rx_ent 8 vX13_useFor_0
theorem Met_X13_useFor (hZ : zO b e D A X) : rx_Met (zV b e D A X) 1 yX13_useFor mX13_useFor (FX13_useFor) := rx_entry hZ.1 (wX13_useFor_0 hZ) (by decide +kernel) rfl (fun h => by cases h)
end ZM55

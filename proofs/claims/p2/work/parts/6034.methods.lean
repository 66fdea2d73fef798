section ZM34
variable {b : Nat} {e : Nat → Value} {D : va_G} {A : Nat → ClassId} {X : State → Prop}
abbrev mX12_weave : rx_M := (RX12, cX12_weave, 15, (some .int), false)
theorem vy_X12_weave : rx_Y (zV b e D A X) yX12_weave mX12_weave 3 := ⟨zw2693, zw413, by decide, by decide +kernel, by decide +kernel, by decide +kernel⟩
noncomputable def vX12_weave_384 (j : Nat → rx_K) : rx_K := o_getf 1 9 (o_const 0 (o_ld rx_isR 6 (o_getf 1 9 (o_const 0 (o_ld rx_isR 5 (o_getf 1 9 (o_alen 0 (o_copy 0 rx_isI (o_ld rx_isR 0 (o_ld rx_isR 6 (o_ld rx_isI 1 (o_callV 2 12 FX12_keep (o_ret1 rx_isI)))))))))))))
set_option maxRecDepth 20000 in
theorem wX12_weave_384 (hZ : zO b e D A X) (j : Nat → rx_K) (hj : ∀ k pc, [115, 163][k]? = some pc → rx_OK (zV b e D A X) mX12_weave 4 pc (j k)) : rx_OK (zV b e D A X) mX12_weave 4 384 (vX12_weave_384 j) := by
  unfold vX12_weave_384
  refine yg1_9 dX12_weave_384 zw1143 ?_
  refine s_iconst dX12_weave_387 (by decide +kernel) ?_
  refine s_aload hZ.1 dX12_weave_388 ?_
  refine yg1_9 dX12_weave_390 zw1143 ?_
  refine s_iconst dX12_weave_393 (by decide +kernel) ?_
  refine s_aload hZ.1 dX12_weave_394 ?_
  refine yg1_9 dX12_weave_396 zw1143 ?_
  refine s_alen (tt := 0) rfl dX12_weave_399 ?_
  refine s_copy hZ.1 (tt := 0) (ty := .int) rfl rfl (fun c h => Or.inl (rx_isI_v hZ.1 h).2) rfl (by decide) zw1690 zw1692 zw1691 zw433 dX12_weave_400 ?_
  refine s_aload_n hZ.1 dX12_weave_403 rfl ?_
  refine s_aload hZ.1 dX12_weave_404 ?_
  refine s_iload_n hZ.1 dX12_weave_406 rfl ?_
  refine s_callV hZ.1 (Met_X12_keep hZ) (Nat.le_of_ble_eq_true rfl) vy_X12_keep zcl12 zw2338 zw111 (Or.inl zw2336) dX12_weave_407 ?_
  exact s_iret hZ.1 rfl dX12_weave_410
noncomputable def vX12_weave_331 (j : Nat → rx_K) : rx_K := o_ld rx_isR 5 (o_getf 1 6 (o_const 0 (o_ld rx_isR 6 (o_getf 1 6 (o_const 0 (o_ld rx_isR 5 (o_getf 1 7 (o_copy 2 (rx_chk .byte) (o_ld rx_isR 6 (o_ld rx_isR 5 (o_getf 1 7 (o_putf rx_isI 1 7 (o_ld rx_isR 5 (o_getf 1 8 (o_const 0 (o_ld rx_isR 6 (o_getf 1 8 (o_const 0 (o_ld rx_isR 5 (o_getf 1 8 (o_alen 0 (o_copy 0 rx_isI (o_ld rx_isR 5 ((vX12_weave_384 j)))))))))))))))))))))))))
set_option maxRecDepth 20000 in
theorem wX12_weave_331 (hZ : zO b e D A X) (j : Nat → rx_K) (hj : ∀ k pc, [115, 163][k]? = some pc → rx_OK (zV b e D A X) mX12_weave 4 pc (j k)) : rx_OK (zV b e D A X) mX12_weave 4 331 (vX12_weave_331 j) := by
  unfold vX12_weave_331
  refine s_aload hZ.1 dX12_weave_331 ?_
  refine yg1_6 dX12_weave_333 zw1131 ?_
  refine s_iconst dX12_weave_336 (by decide +kernel) ?_
  refine s_aload hZ.1 dX12_weave_337 ?_
  refine yg1_6 dX12_weave_339 zw1131 ?_
  refine s_iconst dX12_weave_342 (by decide +kernel) ?_
  refine s_aload hZ.1 dX12_weave_343 ?_
  refine yg1_7 dX12_weave_345 zw1135 ?_
  refine s_copy hZ.1 (tt := 2) (ty := .byte) rfl rfl (fun c h => Or.inl ⟨_, rx_v_0 (z_chkY8 h)⟩) rfl (by decide) zw1690 zw1692 zw1691 zw433 dX12_weave_348 ?_
  refine s_aload hZ.1 dX12_weave_351 ?_
  refine s_aload hZ.1 dX12_weave_353 ?_
  refine yg1_7 dX12_weave_355 zw1135 ?_
  refine yp1_7 hZ.1 dX12_weave_358 zw1135 ?_
  refine s_aload hZ.1 dX12_weave_361 ?_
  refine yg1_8 dX12_weave_363 zw1139 ?_
  refine s_iconst dX12_weave_366 (by decide +kernel) ?_
  refine s_aload hZ.1 dX12_weave_367 ?_
  refine yg1_8 dX12_weave_369 zw1139 ?_
  refine s_iconst dX12_weave_372 (by decide +kernel) ?_
  refine s_aload hZ.1 dX12_weave_373 ?_
  refine yg1_8 dX12_weave_375 zw1139 ?_
  refine s_alen (tt := 0) rfl dX12_weave_378 ?_
  refine s_copy hZ.1 (tt := 0) (ty := .int) rfl rfl (fun c h => Or.inl (rx_isI_v hZ.1 h).2) rfl (by decide) zw1690 zw1692 zw1691 zw433 dX12_weave_379 ?_
  refine s_aload hZ.1 dX12_weave_382 ?_
  exact (wX12_weave_384 hZ j hj)
noncomputable def vX12_weave_330 (j : Nat → rx_K) : rx_K := o_ret1 rx_isI
set_option maxRecDepth 20000 in
theorem wX12_weave_330 (hZ : zO b e D A X) (j : Nat → rx_K) (hj : ∀ k pc, [115, 163][k]? = some pc → rx_OK (zV b e D A X) mX12_weave 4 pc (j k)) : rx_OK (zV b e D A X) mX12_weave 4 330 (vX12_weave_330 j) := by
  unfold vX12_weave_330
  exact s_iret hZ.1 rfl dX12_weave_330
noncomputable def vX12_weave_328 (j : Nat → rx_K) : rx_K := o_const 34359738344 ((vX12_weave_330 j))
set_option maxRecDepth 20000 in
theorem wX12_weave_328 (hZ : zO b e D A X) (j : Nat → rx_K) (hj : ∀ k pc, [115, 163][k]? = some pc → rx_OK (zV b e D A X) mX12_weave 4 pc (j k)) : rx_OK (zV b e D A X) mX12_weave 4 328 (vX12_weave_328 j) := by
  unfold vX12_weave_328
  refine s_bipush dX12_weave_328 (by decide +kernel) ?_
  exact (wX12_weave_330 hZ j hj)
noncomputable def vX12_weave_323 (j : Nat → rx_K) : rx_K := o_const 34359738352 ((vX12_weave_330 j))
set_option maxRecDepth 20000 in
theorem wX12_weave_323 (hZ : zO b e D A X) (j : Nat → rx_K) (hj : ∀ k pc, [115, 163][k]? = some pc → rx_OK (zV b e D A X) mX12_weave 4 pc (j k)) : rx_OK (zV b e D A X) mX12_weave 4 323 (vX12_weave_323 j) := by
  unfold vX12_weave_323
  refine s_bipush dX12_weave_323 (by decide +kernel) ?_
  exact s_goto dX12_weave_325 (by decide) (wX12_weave_330 hZ j hj)
noncomputable def vX12_weave_318 (j : Nat → rx_K) : rx_K := o_ld rx_isI 7 (o_c1 rx_eq (vX12_weave_323 j) (vX12_weave_328 j))
set_option maxRecDepth 20000 in
theorem wX12_weave_318 (hZ : zO b e D A X) (j : Nat → rx_K) (hj : ∀ k pc, [115, 163][k]? = some pc → rx_OK (zV b e D A X) mX12_weave 4 pc (j k)) : rx_OK (zV b e D A X) mX12_weave 4 318 (vX12_weave_318 j) := by
  unfold vX12_weave_318
  refine s_iload hZ.1 dX12_weave_318 ?_
  exact s_if_ne dX12_weave_320 (by decide) (wX12_weave_328 hZ j hj) (wX12_weave_323 hZ j hj)
noncomputable def vX12_weave_313 (j : Nat → rx_K) : rx_K := o_ld rx_isI 8 (o_c1 rx_eq (vX12_weave_331 j) (vX12_weave_318 j))
set_option maxRecDepth 20000 in
theorem wX12_weave_313 (hZ : zO b e D A X) (j : Nat → rx_K) (hj : ∀ k pc, [115, 163][k]? = some pc → rx_OK (zV b e D A X) mX12_weave 4 pc (j k)) : rx_OK (zV b e D A X) mX12_weave 4 313 (vX12_weave_313 j) := by
  unfold vX12_weave_313
  refine s_iload hZ.1 dX12_weave_313 ?_
  exact s_if_eq dX12_weave_315 (by decide) (wX12_weave_331 hZ j hj) (wX12_weave_318 hZ j hj)
noncomputable def vX12_weave_308 (j : Nat → rx_K) : rx_K := o_ld rx_isI 7 (o_c1 rx_eq (vX12_weave_318 j) (vX12_weave_313 j))
set_option maxRecDepth 20000 in
theorem wX12_weave_308 (hZ : zO b e D A X) (j : Nat → rx_K) (hj : ∀ k pc, [115, 163][k]? = some pc → rx_OK (zV b e D A X) mX12_weave 4 pc (j k)) : rx_OK (zV b e D A X) mX12_weave 4 308 (vX12_weave_308 j) := by
  unfold vX12_weave_308
  refine s_iload hZ.1 dX12_weave_308 ?_
  exact s_if_eq dX12_weave_310 (by decide) (wX12_weave_318 hZ j hj) (wX12_weave_313 hZ j hj)
noncomputable def vX12_weave_302 (j : Nat → rx_K) : rx_K := o_inc 9 (1) ((j 0))
set_option maxRecDepth 20000 in
theorem wX12_weave_302 (hZ : zO b e D A X) (j : Nat → rx_K) (hj : ∀ k pc, [115, 163][k]? = some pc → rx_OK (zV b e D A X) mX12_weave 4 pc (j k)) : rx_OK (zV b e D A X) mX12_weave 4 302 (vX12_weave_302 j) := by
  unfold vX12_weave_302
  refine s_iinc hZ.1 dX12_weave_302 (Nat.le_of_ble_eq_true rfl) ?_
  exact s_goto dX12_weave_305 (by decide) (hj 0 115 rfl)
noncomputable def vX12_weave_296 (j : Nat → rx_K) : rx_K := o_inc 12 (1) ((j 1))
set_option maxRecDepth 20000 in
theorem wX12_weave_296 (hZ : zO b e D A X) (j : Nat → rx_K) (hj : ∀ k pc, [115, 163][k]? = some pc → rx_OK (zV b e D A X) mX12_weave 4 pc (j k)) : rx_OK (zV b e D A X) mX12_weave 4 296 (vX12_weave_296 j) := by
  unfold vX12_weave_296
  refine s_iinc hZ.1 dX12_weave_296 (Nat.le_of_ble_eq_true rfl) ?_
  exact s_goto dX12_weave_299 (by decide) (hj 1 163 rfl)
noncomputable def vX12_weave_273 (j : Nat → rx_K) : rx_K := o_ld rx_isR 0 (o_getf 12 11 (o_ld rx_isR 6 (o_ld rx_isR 10 (o_ld rx_isR 14 (o_ld rx_isR 13 (o_getf 7 8 (o_callS 4 FX4_addBridge (o_ld rx_isR 14 (o_callV 2 3 FX3_addWoven ((vX12_weave_296 j)))))))))))
set_option maxRecDepth 20000 in
theorem wX12_weave_273 (hZ : zO b e D A X) (j : Nat → rx_K) (hj : ∀ k pc, [115, 163][k]? = some pc → rx_OK (zV b e D A X) mX12_weave 4 pc (j k)) : rx_OK (zV b e D A X) mX12_weave 4 273 (vX12_weave_273 j) := by
  unfold vX12_weave_273
  refine s_aload_n hZ.1 dX12_weave_273 rfl ?_
  refine yg12_11 dX12_weave_274 zw1614 ?_
  refine s_aload hZ.1 dX12_weave_277 ?_
  refine s_aload hZ.1 dX12_weave_279 ?_
  refine s_aload hZ.1 dX12_weave_281 ?_
  refine s_aload hZ.1 dX12_weave_283 ?_
  refine yg7_8 dX12_weave_285 zw1020 ?_
  refine s_callS hZ.1 (Met_X4_addBridge hZ) (Nat.le_of_ble_eq_true rfl) vy_X4_addBridge zw2019 (Or.inl zw2712) dX12_weave_288 ?_
  refine s_aload hZ.1 dX12_weave_291 ?_
  refine s_callV hZ.1 (Met_X3_addWoven hZ) (Nat.le_of_ble_eq_true rfl) vy_X3_addWoven zcl3 zw2714 zw2715 (Or.inl zw2713) dX12_weave_293 ?_
  exact (wX12_weave_296 hZ j hj)
noncomputable def vX12_weave_265 (j : Nat → rx_K) : rx_K := o_bi (fun x y => x ||| y) (o_st rx_isI 8 (o_ld rx_isI 8 (o_c1 rx_eq (vX12_weave_273 j) (vX12_weave_296 j))))
set_option maxRecDepth 20000 in
theorem wX12_weave_265 (hZ : zO b e D A X) (j : Nat → rx_K) (hj : ∀ k pc, [115, 163][k]? = some pc → rx_OK (zV b e D A X) mX12_weave 4 pc (j k)) : rx_OK (zV b e D A X) mX12_weave 4 265 (vX12_weave_265 j) := by
  unfold vX12_weave_265
  refine s_ior dX12_weave_265 ?_
  refine s_istore hZ.1 dX12_weave_266 (Nat.le_of_ble_eq_true rfl) ?_
  refine s_iload hZ.1 dX12_weave_268 ?_
  exact s_if_ne dX12_weave_270 (by decide) (wX12_weave_296 hZ j hj) (wX12_weave_273 hZ j hj)
noncomputable def vX12_weave_264 (j : Nat → rx_K) : rx_K := o_const 0 ((vX12_weave_265 j))
set_option maxRecDepth 20000 in
theorem wX12_weave_264 (hZ : zO b e D A X) (j : Nat → rx_K) (hj : ∀ k pc, [115, 163][k]? = some pc → rx_OK (zV b e D A X) mX12_weave 4 pc (j k)) : rx_OK (zV b e D A X) mX12_weave 4 264 (vX12_weave_264 j) := by
  unfold vX12_weave_264
  refine s_iconst dX12_weave_264 (by decide +kernel) ?_
  exact (wX12_weave_265 hZ j hj)
noncomputable def vX12_weave_260 (j : Nat → rx_K) : rx_K := o_const 8 ((vX12_weave_265 j))
set_option maxRecDepth 20000 in
theorem wX12_weave_260 (hZ : zO b e D A X) (j : Nat → rx_K) (hj : ∀ k pc, [115, 163][k]? = some pc → rx_OK (zV b e D A X) mX12_weave 4 pc (j k)) : rx_OK (zV b e D A X) mX12_weave 4 260 (vX12_weave_260 j) := by
  unfold vX12_weave_260
  refine s_iconst dX12_weave_260 (by decide +kernel) ?_
  exact s_goto dX12_weave_261 (by decide) (wX12_weave_265 hZ j hj)
noncomputable def vX12_weave_245 (j : Nat → rx_K) : rx_K := o_inc 7 (1) (o_ld rx_isI 8 (o_ld rx_isR 10 (o_callV 0 10 FX10_bridges (o_const 96 (o_c2 rx_lt (vX12_weave_264 j) (vX12_weave_260 j))))))
set_option maxRecDepth 20000 in
theorem wX12_weave_245 (hZ : zO b e D A X) (j : Nat → rx_K) (hj : ∀ k pc, [115, 163][k]? = some pc → rx_OK (zV b e D A X) mX12_weave 4 pc (j k)) : rx_OK (zV b e D A X) mX12_weave 4 245 (vX12_weave_245 j) := by
  unfold vX12_weave_245
  refine s_iinc hZ.1 dX12_weave_245 (Nat.le_of_ble_eq_true rfl) ?_
  refine s_iload hZ.1 dX12_weave_248 ?_
  refine s_aload hZ.1 dX12_weave_250 ?_
  refine s_callV hZ.1 (Met_X10_bridges hZ) (Nat.le_of_ble_eq_true rfl) vy_X10_bridges zcl10 zw2015 zw2016 (Or.inl zw2711) dX12_weave_252 ?_
  refine s_bipush dX12_weave_255 (by decide +kernel) ?_
  exact s_icmp_lt dX12_weave_257 (by decide) (wX12_weave_264 hZ j hj) (wX12_weave_260 hZ j hj)
noncomputable def vX12_weave_238 (j : Nat → rx_K) : rx_K := o_st rx_isR 14 (o_ld rx_isR 14 (o_nul (vX12_weave_296 j) (vX12_weave_245 j)))
set_option maxRecDepth 20000 in
theorem wX12_weave_238 (hZ : zO b e D A X) (j : Nat → rx_K) (hj : ∀ k pc, [115, 163][k]? = some pc → rx_OK (zV b e D A X) mX12_weave 4 pc (j k)) : rx_OK (zV b e D A X) mX12_weave 4 238 (vX12_weave_238 j) := by
  unfold vX12_weave_238
  refine s_astore hZ.1 dX12_weave_238 (Nat.le_of_ble_eq_true rfl) ?_
  refine s_aload hZ.1 dX12_weave_240 ?_
  exact s_ifnull dX12_weave_242 (by decide) (wX12_weave_296 hZ j hj) (wX12_weave_245 hZ j hj)
noncomputable def vX12_weave_237 (j : Nat → rx_K) : rx_K := o_const 3 ((vX12_weave_238 j))
set_option maxRecDepth 20000 in
theorem wX12_weave_237 (hZ : zO b e D A X) (j : Nat → rx_K) (hj : ∀ k pc, [115, 163][k]? = some pc → rx_OK (zV b e D A X) mX12_weave 4 pc (j k)) : rx_OK (zV b e D A X) mX12_weave 4 237 (vX12_weave_237 j) := by
  unfold vX12_weave_237
  refine s_null dX12_weave_237 ?_
  exact (wX12_weave_238 hZ j hj)
noncomputable def vX12_weave_226 (j : Nat → rx_K) : rx_K := o_ld rx_isR 0 (o_ld rx_isR 10 (o_ld rx_isR 13 (o_callV 2 12 FX12_healing ((vX12_weave_238 j)))))
set_option maxRecDepth 20000 in
theorem wX12_weave_226 (hZ : zO b e D A X) (j : Nat → rx_K) (hj : ∀ k pc, [115, 163][k]? = some pc → rx_OK (zV b e D A X) mX12_weave 4 pc (j k)) : rx_OK (zV b e D A X) mX12_weave 4 226 (vX12_weave_226 j) := by
  unfold vX12_weave_226
  refine s_aload_n hZ.1 dX12_weave_226 rfl ?_
  refine s_aload hZ.1 dX12_weave_227 ?_
  refine s_aload hZ.1 dX12_weave_229 ?_
  refine s_callV hZ.1 (Met_X12_healing hZ) (Nat.le_of_ble_eq_true rfl) vy_X12_healing zcl12 zw2706 zw154 (Or.inl zw2704) dX12_weave_231 ?_
  exact s_goto dX12_weave_234 (by decide) (wX12_weave_238 hZ j hj)
noncomputable def vX12_weave_218 (j : Nat → rx_K) : rx_K := o_ld rx_isR 13 (o_getf 7 1 (o_c1 rx_eq (vX12_weave_237 j) (vX12_weave_226 j)))
set_option maxRecDepth 20000 in
theorem wX12_weave_218 (hZ : zO b e D A X) (j : Nat → rx_K) (hj : ∀ k pc, [115, 163][k]? = some pc → rx_OK (zV b e D A X) mX12_weave 4 pc (j k)) : rx_OK (zV b e D A X) mX12_weave 4 218 (vX12_weave_218 j) := by
  unfold vX12_weave_218
  refine s_aload hZ.1 dX12_weave_218 ?_
  refine yg7_1 dX12_weave_220 zw960 ?_
  exact s_if_eq dX12_weave_223 (by decide) (wX12_weave_237 hZ j hj) (wX12_weave_226 hZ j hj)
noncomputable def vX12_weave_210 (j : Nat → rx_K) : rx_K := o_ld rx_isR 13 (o_getf 7 5 (o_c1 rx_eq (vX12_weave_218 j) (vX12_weave_237 j)))
set_option maxRecDepth 20000 in
theorem wX12_weave_210 (hZ : zO b e D A X) (j : Nat → rx_K) (hj : ∀ k pc, [115, 163][k]? = some pc → rx_OK (zV b e D A X) mX12_weave 4 pc (j k)) : rx_OK (zV b e D A X) mX12_weave 4 210 (vX12_weave_210 j) := by
  unfold vX12_weave_210
  refine s_aload hZ.1 dX12_weave_210 ?_
  refine yg7_5 dX12_weave_212 zw993 ?_
  exact s_if_ne dX12_weave_215 (by decide) (wX12_weave_237 hZ j hj) (wX12_weave_218 hZ j hj)
noncomputable def vX12_weave_191 (j : Nat → rx_K) : rx_K := o_ld rx_isR 11 (o_getf 10 14 (o_ld rx_isI 12 (o_ald 5 (o_st rx_isR 13 (o_ld rx_isR 13 (o_getf 7 0 (o_const 8 (o_c2 rx_eq (vX12_weave_210 j) (vX12_weave_237 j)))))))))
set_option maxRecDepth 20000 in
theorem wX12_weave_191 (hZ : zO b e D A X) (j : Nat → rx_K) (hj : ∀ k pc, [115, 163][k]? = some pc → rx_OK (zV b e D A X) mX12_weave 4 pc (j k)) : rx_OK (zV b e D A X) mX12_weave 4 191 (vX12_weave_191 j) := by
  unfold vX12_weave_191
  refine s_aload hZ.1 dX12_weave_191 ?_
  refine yg10_14 dX12_weave_193 zw865 ?_
  refine s_iload hZ.1 dX12_weave_196 ?_
  refine s_aald (tt := 5) rfl rfl dX12_weave_198 ?_
  refine s_astore hZ.1 dX12_weave_199 (Nat.le_of_ble_eq_true rfl) ?_
  refine s_aload hZ.1 dX12_weave_201 ?_
  refine yg7_0 dX12_weave_203 zw952 ?_
  refine s_iconst dX12_weave_206 (by decide +kernel) ?_
  exact s_icmp_ne dX12_weave_207 (by decide) (wX12_weave_237 hZ j hj) (wX12_weave_210 hZ j hj)
noncomputable def vX12_weave_181 (j : Nat → rx_K) : rx_K := o_ld rx_isI 12 (o_ld rx_isR 11 (o_getf 10 15 (o_c2 rx_lt (vX12_weave_191 j) (vX12_weave_302 j))))
set_option maxRecDepth 20000 in
theorem wX12_weave_181 (hZ : zO b e D A X) (j : Nat → rx_K) (hj : ∀ k pc, [115, 163][k]? = some pc → rx_OK (zV b e D A X) mX12_weave 4 pc (j k)) : rx_OK (zV b e D A X) mX12_weave 4 181 (vX12_weave_181 j) := by
  unfold vX12_weave_181
  refine s_iload hZ.1 dX12_weave_181 ?_
  refine s_aload hZ.1 dX12_weave_183 ?_
  refine yg10_15 dX12_weave_185 zw873 ?_
  exact s_icmp_ge dX12_weave_188 (by decide) (wX12_weave_302 hZ j hj) (wX12_weave_191 hZ j hj)
noncomputable def vX12_weave_168 (j : Nat → rx_K) : rx_K := o_ld rx_isR 11 (o_getf 10 4 (o_ld rx_isR 10 (o_getf 10 4 (o_c2 rx_eq (vX12_weave_181 j) (vX12_weave_302 j)))))
set_option maxRecDepth 20000 in
theorem wX12_weave_168 (hZ : zO b e D A X) (j : Nat → rx_K) (hj : ∀ k pc, [115, 163][k]? = some pc → rx_OK (zV b e D A X) mX12_weave 4 pc (j k)) : rx_OK (zV b e D A X) mX12_weave 4 168 (vX12_weave_168 j) := by
  unfold vX12_weave_168
  refine s_aload hZ.1 dX12_weave_168 ?_
  refine yg10_4 dX12_weave_170 zw798 ?_
  refine s_aload hZ.1 dX12_weave_173 ?_
  refine yg10_4 dX12_weave_175 zw798 ?_
  exact s_icmp_ne dX12_weave_178 (by decide) (wX12_weave_302 hZ j hj) (wX12_weave_181 hZ j hj)
noncomputable def vX12_weave_163 (j : Nat → rx_K) : rx_K := o_ld rx_isR 11 (o_nul (vX12_weave_302 j) (vX12_weave_168 j))
set_option maxRecDepth 20000 in
theorem wX12_weave_163 (hZ : zO b e D A X) (j : Nat → rx_K) (hj : ∀ k pc, [115, 163][k]? = some pc → rx_OK (zV b e D A X) mX12_weave 4 pc (j k)) : rx_OK (zV b e D A X) mX12_weave 4 163 (vX12_weave_163 j) := by
  unfold vX12_weave_163
  refine s_aload hZ.1 dX12_weave_163 ?_
  exact s_ifnull dX12_weave_165 (by decide) (wX12_weave_302 hZ j hj) (wX12_weave_168 hZ j hj)
noncomputable def vX12_weave_125 (j : Nat → rx_K) : rx_K := o_ld rx_isR 0 (o_getf 12 11 (o_ld rx_isR 6 (o_ld rx_isR 5 (o_ld rx_isI 9 (o_callV 3 3 FX3_copyRow (o_ld rx_isR 6 (o_getf 1 2 (o_ld rx_isI 9 (o_ald 4 (o_st rx_isR 10 (o_ld rx_isR 4 (o_ld rx_isR 10 (o_getf 10 1 (o_callV 1 1 FX1_named (o_st rx_isR 11 (o_const 0 (o_st rx_isI 12 ((vX12_weave_163 j)))))))))))))))))))
set_option maxRecDepth 20000 in
theorem wX12_weave_125 (hZ : zO b e D A X) (j : Nat → rx_K) (hj : ∀ k pc, [115, 163][k]? = some pc → rx_OK (zV b e D A X) mX12_weave 4 pc (j k)) : rx_OK (zV b e D A X) mX12_weave 4 125 (vX12_weave_125 j) := by
  unfold vX12_weave_125
  refine s_aload_n hZ.1 dX12_weave_125 rfl ?_
  refine yg12_11 dX12_weave_126 zw1614 ?_
  refine s_aload hZ.1 dX12_weave_129 ?_
  refine s_aload hZ.1 dX12_weave_131 ?_
  refine s_iload hZ.1 dX12_weave_133 ?_
  refine s_callV hZ.1 (Met_X3_copyRow hZ) (Nat.le_of_ble_eq_true rfl) vy_X3_copyRow zcl3 zw2696 zw2697 (Or.inl zw2695) dX12_weave_135 ?_
  refine s_aload hZ.1 dX12_weave_138 ?_
  refine yg1_2 dX12_weave_140 zw1119 ?_
  refine s_iload hZ.1 dX12_weave_143 ?_
  refine s_aald (tt := 4) rfl rfl dX12_weave_145 ?_
  refine s_astore hZ.1 dX12_weave_146 (Nat.le_of_ble_eq_true rfl) ?_
  refine s_aload hZ.1 dX12_weave_148 ?_
  refine s_aload hZ.1 dX12_weave_150 ?_
  refine yg10_1 dX12_weave_152 zw777 ?_
  refine s_callV hZ.1 (Met_X1_named hZ) (Nat.le_of_ble_eq_true rfl) vy_X1_named zcl1 zw1914 zw1915 (Or.inl zw2703) dX12_weave_155 ?_
  refine s_astore hZ.1 dX12_weave_158 (Nat.le_of_ble_eq_true rfl) ?_
  refine s_iconst dX12_weave_160 (by decide +kernel) ?_
  refine s_istore hZ.1 dX12_weave_161 (Nat.le_of_ble_eq_true rfl) ?_
  exact (wX12_weave_163 hZ j hj)
noncomputable def vX12_weave_115 (j : Nat → rx_K) : rx_K := o_ld rx_isI 9 (o_ld rx_isR 5 (o_getf 1 3 (o_c2 rx_lt (vX12_weave_125 j) (vX12_weave_308 j))))
set_option maxRecDepth 20000 in
theorem wX12_weave_115 (hZ : zO b e D A X) (j : Nat → rx_K) (hj : ∀ k pc, [115, 163][k]? = some pc → rx_OK (zV b e D A X) mX12_weave 4 pc (j k)) : rx_OK (zV b e D A X) mX12_weave 4 115 (vX12_weave_115 j) := by
  unfold vX12_weave_115
  refine s_iload hZ.1 dX12_weave_115 ?_
  refine s_aload hZ.1 dX12_weave_117 ?_
  refine yg1_3 dX12_weave_119 zw1126 ?_
  exact s_icmp_ge dX12_weave_122 (by decide) (wX12_weave_308 hZ j hj) (wX12_weave_125 hZ j hj)
noncomputable def vX12_weave_72 (j : Nat → rx_K) : rx_K := o_ld rx_isR 5 (o_getf 1 16 (o_const 0 (o_ld rx_isR 6 (o_getf 1 16 (o_const 0 (o_ld rx_isR 5 (o_getf 1 17 (o_copy 0 rx_isI (o_ld rx_isR 6 (o_ld rx_isR 5 (o_getf 1 17 (o_putf rx_isI 1 17 (o_const 0 (o_st rx_isI 7 (o_ld rx_isR 0 (o_ld rx_isI 1 (o_callV 1 12 FX12_isFull (o_st rx_isI 8 (o_const 0 (o_st rx_isI 9 ((vX12_weave_115 j))))))))))))))))))))))
set_option maxRecDepth 20000 in
theorem wX12_weave_72 (hZ : zO b e D A X) (j : Nat → rx_K) (hj : ∀ k pc, [115, 163][k]? = some pc → rx_OK (zV b e D A X) mX12_weave 4 pc (j k)) : rx_OK (zV b e D A X) mX12_weave 4 72 (vX12_weave_72 j) := by
  unfold vX12_weave_72
  refine s_aload hZ.1 dX12_weave_72 ?_
  refine yg1_16 dX12_weave_74 zw1170 ?_
  refine s_iconst dX12_weave_77 (by decide +kernel) ?_
  refine s_aload hZ.1 dX12_weave_78 ?_
  refine yg1_16 dX12_weave_80 zw1170 ?_
  refine s_iconst dX12_weave_83 (by decide +kernel) ?_
  refine s_aload hZ.1 dX12_weave_84 ?_
  refine yg1_17 dX12_weave_86 zw1174 ?_
  refine s_copy hZ.1 (tt := 0) (ty := .int) rfl rfl (fun c h => Or.inl (rx_isI_v hZ.1 h).2) rfl (by decide) zw1690 zw1692 zw1691 zw433 dX12_weave_89 ?_
  refine s_aload hZ.1 dX12_weave_92 ?_
  refine s_aload hZ.1 dX12_weave_94 ?_
  refine yg1_17 dX12_weave_96 zw1174 ?_
  refine yp1_17 hZ.1 dX12_weave_99 zw1174 ?_
  refine s_iconst dX12_weave_102 (by decide +kernel) ?_
  refine s_istore hZ.1 dX12_weave_103 (Nat.le_of_ble_eq_true rfl) ?_
  refine s_aload_n hZ.1 dX12_weave_105 rfl ?_
  refine s_iload_n hZ.1 dX12_weave_106 rfl ?_
  refine s_callV hZ.1 (Met_X12_isFull hZ) (Nat.le_of_ble_eq_true rfl) vy_X12_isFull zcl12 zw1714 zw7 (Or.inl zw1712) dX12_weave_107 ?_
  refine s_istore hZ.1 dX12_weave_110 (Nat.le_of_ble_eq_true rfl) ?_
  refine s_iconst dX12_weave_112 (by decide +kernel) ?_
  refine s_istore hZ.1 dX12_weave_113 (Nat.le_of_ble_eq_true rfl) ?_
  exact (wX12_weave_115 hZ j hj)
noncomputable def vX12_weave_28 (j : Nat → rx_K) : rx_K := o_ld rx_isR 0 (o_getf 12 6 (o_const 0 (o_ld rx_isR 0 (o_getf 12 7 (o_const 0 (o_const 40 (o_copy 0 rx_isI (o_ld rx_isR 0 (o_getf 12 7 (o_ld rx_isI 1 (o_ld rx_isI 3 (o_ast 0 (fun v => v) rx_isI (o_ld rx_isR 0 (o_ld rx_isR 0 (o_getf 12 14 (o_ld rx_isR 0 (o_getf 12 7 (o_callV 2 12 FX12_gather (o_ld rx_isR 0 (o_callV 0 12 FX12_unused (o_st rx_isR 6 (o_ld rx_isR 6 (o_callV 0 1 FX1_clear ((vX12_weave_72 j)))))))))))))))))))))))))
set_option maxRecDepth 20000 in
theorem wX12_weave_28 (hZ : zO b e D A X) (j : Nat → rx_K) (hj : ∀ k pc, [115, 163][k]? = some pc → rx_OK (zV b e D A X) mX12_weave 4 pc (j k)) : rx_OK (zV b e D A X) mX12_weave 4 28 (vX12_weave_28 j) := by
  unfold vX12_weave_28
  refine s_aload_n hZ.1 dX12_weave_28 rfl ?_
  refine yg12_6 dX12_weave_29 zw1609 ?_
  refine s_iconst dX12_weave_32 (by decide +kernel) ?_
  refine s_aload_n hZ.1 dX12_weave_33 rfl ?_
  refine yg12_7 dX12_weave_34 zw1610 ?_
  refine s_iconst dX12_weave_37 (by decide +kernel) ?_
  refine s_iconst dX12_weave_38 (by decide +kernel) ?_
  refine s_copy hZ.1 (tt := 0) (ty := .int) rfl rfl (fun c h => Or.inl (rx_isI_v hZ.1 h).2) rfl (by decide) zw1690 zw1692 zw1691 zw433 dX12_weave_39 ?_
  refine s_aload_n hZ.1 dX12_weave_42 rfl ?_
  refine yg12_7 dX12_weave_43 zw1610 ?_
  refine s_iload_n hZ.1 dX12_weave_46 rfl ?_
  refine s_iload_n hZ.1 dX12_weave_47 rfl ?_
  refine s_iast hZ.1 (tt := 0) rfl dX12_weave_48 ?_
  refine s_aload_n hZ.1 dX12_weave_49 rfl ?_
  refine s_aload_n hZ.1 dX12_weave_50 rfl ?_
  refine yg12_14 dX12_weave_51 zw1617 ?_
  refine s_aload_n hZ.1 dX12_weave_54 rfl ?_
  refine yg12_7 dX12_weave_55 zw1610 ?_
  refine s_callV hZ.1 (Met_X12_gather hZ) (Nat.le_of_ble_eq_true rfl) vy_X12_gather zcl12 zw1551 zw0 (Or.inl zw1549) dX12_weave_58 ?_
  refine s_aload_n hZ.1 dX12_weave_61 rfl ?_
  refine s_callV hZ.1 (Met_X12_unused hZ) (Nat.le_of_ble_eq_true rfl) vy_X12_unused zcl12 zw1685 zw6 (Or.inl zw1683) dX12_weave_62 ?_
  refine s_astore hZ.1 dX12_weave_65 (Nat.le_of_ble_eq_true rfl) ?_
  refine s_aload hZ.1 dX12_weave_67 ?_
  refine s_callV hZ.1 (Met_X1_clear hZ) (Nat.le_of_ble_eq_true rfl) vy_X1_clear zcl1 zw1721 zw1722 (Or.inl zw2694) dX12_weave_69 ?_
  exact (wX12_weave_72 hZ j hj)
noncomputable def vX12_weave_26 (j : Nat → rx_K) : rx_K := o_const 34359738360 (o_ret1 rx_isI)
set_option maxRecDepth 20000 in
theorem wX12_weave_26 (hZ : zO b e D A X) (j : Nat → rx_K) (hj : ∀ k pc, [115, 163][k]? = some pc → rx_OK (zV b e D A X) mX12_weave 4 pc (j k)) : rx_OK (zV b e D A X) mX12_weave 4 26 (vX12_weave_26 j) := by
  unfold vX12_weave_26
  refine s_iconst dX12_weave_26 (by decide +kernel) ?_
  exact s_iret hZ.1 rfl dX12_weave_27
noncomputable def vX12_weave_21 (j : Nat → rx_K) : rx_K := o_ld rx_isR 5 (o_nul (vX12_weave_26 j) (vX12_weave_28 j))
set_option maxRecDepth 20000 in
theorem wX12_weave_21 (hZ : zO b e D A X) (j : Nat → rx_K) (hj : ∀ k pc, [115, 163][k]? = some pc → rx_OK (zV b e D A X) mX12_weave 4 pc (j k)) : rx_OK (zV b e D A X) mX12_weave 4 21 (vX12_weave_21 j) := by
  unfold vX12_weave_21
  refine s_aload hZ.1 dX12_weave_21 ?_
  exact s_ifnonnull dX12_weave_23 (by decide) (wX12_weave_28 hZ j hj) (wX12_weave_26 hZ j hj)
noncomputable def vX12_weave_0 (j : Nat → rx_K) : rx_K := o_ld rx_isR 0 (o_ld rx_isI 1 (o_ld rx_isI 2 (o_callV 2 12 FX12_buildOf (o_st rx_isR 4 (o_ld rx_isR 0 (o_ld rx_isI 1 (o_ld rx_isI 3 (o_callV 2 12 FX12_buildOf (o_st rx_isR 5 (o_ld rx_isR 4 (o_nul (vX12_weave_26 j) (vX12_weave_21 j))))))))))))
set_option maxRecDepth 20000 in
theorem wX12_weave_0 (hZ : zO b e D A X) (j : Nat → rx_K) (hj : ∀ k pc, [115, 163][k]? = some pc → rx_OK (zV b e D A X) mX12_weave 4 pc (j k)) : rx_OK (zV b e D A X) mX12_weave 4 0 (vX12_weave_0 j) := by
  unfold vX12_weave_0
  refine s_aload_n hZ.1 dX12_weave_0 rfl ?_
  refine s_iload_n hZ.1 dX12_weave_1 rfl ?_
  refine s_iload_n hZ.1 dX12_weave_2 rfl ?_
  refine s_callV hZ.1 (Met_X12_buildOf hZ) (Nat.le_of_ble_eq_true rfl) vy_X12_buildOf zcl12 zw1559 zw1 (Or.inl zw1557) dX12_weave_3 ?_
  refine s_astore hZ.1 dX12_weave_6 (Nat.le_of_ble_eq_true rfl) ?_
  refine s_aload_n hZ.1 dX12_weave_8 rfl ?_
  refine s_iload_n hZ.1 dX12_weave_9 rfl ?_
  refine s_iload_n hZ.1 dX12_weave_10 rfl ?_
  refine s_callV hZ.1 (Met_X12_buildOf hZ) (Nat.le_of_ble_eq_true rfl) vy_X12_buildOf zcl12 zw1559 zw1 (Or.inl zw1557) dX12_weave_11 ?_
  refine s_astore hZ.1 dX12_weave_14 (Nat.le_of_ble_eq_true rfl) ?_
  refine s_aload hZ.1 dX12_weave_16 ?_
  exact s_ifnull dX12_weave_18 (by decide) (wX12_weave_26 hZ j hj) (wX12_weave_21 hZ j hj)
noncomputable def vhX12_weave (j : Nat → rx_K) : List rx_K := [vX12_weave_115 j, vX12_weave_163 j]
theorem vlX12_weave (hZ : zO b e D A X) : ∀ n k pc, [115, 163][k]? = some pc → rx_OK (zV b e D A X) mX12_weave 4 pc (rx_J (vhX12_weave) n k) := rx_loop fun j hj k pc h => by
  match k, h with
  | 0, h =>
    have e9 := Option.some.inj (show some 115 = some pc from h)
    subst e9
    exact wX12_weave_115 hZ j hj
  | 1, h =>
    have e9 := Option.some.inj (show some 163 = some pc from h)
    subst e9
    exact wX12_weave_163 hZ j hj
  | _ + 2, h => exact absurd h (by simp)
noncomputable def FX12_weave : List Nat → rx_H → Option (Nat × rx_H) := rx_ent 15 (vX12_weave_0 (rx_J (vhX12_weave) 4000000000))
theorem Met_X12_weave (hZ : zO b e D A X) : rx_Met (zV b e D A X) 4 yX12_weave mX12_weave (FX12_weave) := rx_entry hZ.1 (wX12_weave_0 hZ _ (vlX12_weave hZ 4000000000)) (by decide +kernel) rfl (fun h => by cases h)
abbrev mX12_fresh : rx_M := (RX12, cX12_fresh, 3, (some .int), false)
theorem vy_X12_fresh : rx_Y (zV b e D A X) yX12_fresh mX12_fresh 0 := ⟨zw2720, zw413, by decide, by decide +kernel, by decide +kernel, by decide +kernel⟩
noncomputable def vX12_fresh_43 (j : Nat → rx_K) : rx_K := o_ld rx_isR 0 (o_getf 12 20 (o_ld rx_isR 0 (o_getf 12 13 (o_callV 1 6 FX6_clear (o_ld rx_isI 1 (o_ret1 rx_isI))))))
set_option maxRecDepth 20000 in
theorem wX12_fresh_43 (hZ : zO b e D A X) (j : Nat → rx_K) (hj : ∀ k pc, [4][k]? = some pc → rx_OK (zV b e D A X) mX12_fresh 3 pc (j k)) : rx_OK (zV b e D A X) mX12_fresh 3 43 (vX12_fresh_43 j) := by
  unfold vX12_fresh_43
  refine s_aload_n hZ.1 dX12_fresh_43 rfl ?_
  refine yg12_20 dX12_fresh_44 zw1623 ?_
  refine s_aload_n hZ.1 dX12_fresh_47 rfl ?_
  refine yg12_13 dX12_fresh_48 zw1616 ?_
  refine s_callV hZ.1 (Met_X6_clear hZ) (Nat.le_of_ble_eq_true rfl) vy_X6_clear zcl6 zw1594 zw1595 (Or.inl zw1593) dX12_fresh_51 ?_
  refine s_iload_n hZ.1 dX12_fresh_54 rfl ?_
  exact s_iret hZ.1 rfl dX12_fresh_55
noncomputable def vX12_fresh_35 (j : Nat → rx_K) : rx_K := o_bi (fun x y => x + y) (o_st rx_isI 1 (o_inc 2 (1) ((j 0))))
set_option maxRecDepth 20000 in
theorem wX12_fresh_35 (hZ : zO b e D A X) (j : Nat → rx_K) (hj : ∀ k pc, [4][k]? = some pc → rx_OK (zV b e D A X) mX12_fresh 3 pc (j k)) : rx_OK (zV b e D A X) mX12_fresh 3 35 (vX12_fresh_35 j) := by
  unfold vX12_fresh_35
  refine s_iadd dX12_fresh_35 ?_
  refine s_istore_n hZ.1 dX12_fresh_36 rfl (Nat.le_of_ble_eq_true rfl) ?_
  refine s_iinc hZ.1 dX12_fresh_37 (Nat.le_of_ble_eq_true rfl) ?_
  exact s_goto dX12_fresh_40 (by decide) (hj 0 4 rfl)
noncomputable def vX12_fresh_34 (j : Nat → rx_K) : rx_K := o_const 0 ((vX12_fresh_35 j))
set_option maxRecDepth 20000 in
theorem wX12_fresh_34 (hZ : zO b e D A X) (j : Nat → rx_K) (hj : ∀ k pc, [4][k]? = some pc → rx_OK (zV b e D A X) mX12_fresh 3 pc (j k)) : rx_OK (zV b e D A X) mX12_fresh 3 34 (vX12_fresh_34 j) := by
  unfold vX12_fresh_34
  refine s_iconst dX12_fresh_34 (by decide +kernel) ?_
  exact (wX12_fresh_35 hZ j hj)
noncomputable def vX12_fresh_30 (j : Nat → rx_K) : rx_K := o_const 8 ((vX12_fresh_35 j))
set_option maxRecDepth 20000 in
theorem wX12_fresh_30 (hZ : zO b e D A X) (j : Nat → rx_K) (hj : ∀ k pc, [4][k]? = some pc → rx_OK (zV b e D A X) mX12_fresh 3 pc (j k)) : rx_OK (zV b e D A X) mX12_fresh 3 30 (vX12_fresh_30 j) := by
  unfold vX12_fresh_30
  refine s_iconst dX12_fresh_30 (by decide +kernel) ?_
  exact s_goto dX12_fresh_31 (by decide) (wX12_fresh_35 hZ j hj)
noncomputable def vX12_fresh_15 (j : Nat → rx_K) : rx_K := o_ld rx_isI 1 (o_ld rx_isR 0 (o_getf 12 20 (o_getf 6 1 (o_ld rx_isI 2 (o_callV 1 5 FX5_isLoaded (o_c1 rx_eq (vX12_fresh_34 j) (vX12_fresh_30 j)))))))
set_option maxRecDepth 20000 in
theorem wX12_fresh_15 (hZ : zO b e D A X) (j : Nat → rx_K) (hj : ∀ k pc, [4][k]? = some pc → rx_OK (zV b e D A X) mX12_fresh 3 pc (j k)) : rx_OK (zV b e D A X) mX12_fresh 3 15 (vX12_fresh_15 j) := by
  unfold vX12_fresh_15
  refine s_iload_n hZ.1 dX12_fresh_15 rfl ?_
  refine s_aload_n hZ.1 dX12_fresh_16 rfl ?_
  refine yg12_20 dX12_fresh_17 zw1623 ?_
  refine yg6_1 dX12_fresh_20 zw1475 ?_
  refine s_iload_n hZ.1 dX12_fresh_23 rfl ?_
  refine s_callV hZ.1 (Met_X5_isLoaded hZ) (Nat.le_of_ble_eq_true rfl) vy_X5_isLoaded zcl5 zw2722 zw2723 (Or.inl zw2721) dX12_fresh_24 ?_
  exact s_if_eq dX12_fresh_27 (by decide) (wX12_fresh_34 hZ j hj) (wX12_fresh_30 hZ j hj)
noncomputable def vX12_fresh_4 (j : Nat → rx_K) : rx_K := o_ld rx_isI 2 (o_ld rx_isR 0 (o_getf 12 13 (o_getf 11 2 (o_c2 rx_lt (vX12_fresh_15 j) (vX12_fresh_43 j)))))
set_option maxRecDepth 20000 in
theorem wX12_fresh_4 (hZ : zO b e D A X) (j : Nat → rx_K) (hj : ∀ k pc, [4][k]? = some pc → rx_OK (zV b e D A X) mX12_fresh 3 pc (j k)) : rx_OK (zV b e D A X) mX12_fresh 3 4 (vX12_fresh_4 j) := by
  unfold vX12_fresh_4
  refine s_iload_n hZ.1 dX12_fresh_4 rfl ?_
  refine s_aload_n hZ.1 dX12_fresh_5 rfl ?_
  refine yg12_13 dX12_fresh_6 zw1616 ?_
  refine yg11_2 dX12_fresh_9 zw1261 ?_
  exact s_icmp_ge dX12_fresh_12 (by decide) (wX12_fresh_43 hZ j hj) (wX12_fresh_15 hZ j hj)
noncomputable def vX12_fresh_0 (j : Nat → rx_K) : rx_K := o_const 0 (o_st rx_isI 1 (o_const 16 (o_st rx_isI 2 ((vX12_fresh_4 j)))))
set_option maxRecDepth 20000 in
theorem wX12_fresh_0 (hZ : zO b e D A X) (j : Nat → rx_K) (hj : ∀ k pc, [4][k]? = some pc → rx_OK (zV b e D A X) mX12_fresh 3 pc (j k)) : rx_OK (zV b e D A X) mX12_fresh 3 0 (vX12_fresh_0 j) := by
  unfold vX12_fresh_0
  refine s_iconst dX12_fresh_0 (by decide +kernel) ?_
  refine s_istore_n hZ.1 dX12_fresh_1 rfl (Nat.le_of_ble_eq_true rfl) ?_
  refine s_iconst dX12_fresh_2 (by decide +kernel) ?_
  refine s_istore_n hZ.1 dX12_fresh_3 rfl (Nat.le_of_ble_eq_true rfl) ?_
  exact (wX12_fresh_4 hZ j hj)
noncomputable def vhX12_fresh (j : Nat → rx_K) : List rx_K := [vX12_fresh_4 j]
theorem vlX12_fresh (hZ : zO b e D A X) : ∀ n k pc, [4][k]? = some pc → rx_OK (zV b e D A X) mX12_fresh 3 pc (rx_J (vhX12_fresh) n k) := rx_loop fun j hj k pc h => by
  match k, h with
  | 0, h =>
    have e9 := Option.some.inj (show some 4 = some pc from h)
    subst e9
    exact wX12_fresh_4 hZ j hj
  | _ + 1, h => exact absurd h (by simp)
noncomputable def FX12_fresh : List Nat → rx_H → Option (Nat × rx_H) := rx_ent 3 (vX12_fresh_0 (rx_J (vhX12_fresh) 4000000000))
theorem Met_X12_fresh (hZ : zO b e D A X) : rx_Met (zV b e D A X) 3 yX12_fresh mX12_fresh (FX12_fresh) := rx_entry hZ.1 (wX12_fresh_0 hZ _ (vlX12_fresh hZ 4000000000)) (by decide +kernel) rfl (fun h => by cases h)
abbrev mX12_touch : rx_M := (RX12, cX12_touch, 5, (some .int), false)
theorem vy_X12_touch : rx_Y (zV b e D A X) yX12_touch mX12_touch 3 := ⟨zw2728, zw413, by decide, by decide +kernel, by decide +kernel, by decide +kernel⟩
noncomputable def vX12_touch_61 : rx_K := o_ret1 rx_isI
set_option maxRecDepth 20000 in
theorem wX12_touch_61 (hZ : zO b e D A X) : rx_OK (zV b e D A X) mX12_touch 6 61 vX12_touch_61 := by
  unfold vX12_touch_61
  exact s_iret hZ.1 rfl dX12_touch_61
noncomputable def vX12_touch_34 : rx_K := o_ld rx_isR 0 (o_getf 12 20 (o_getf 6 1 (o_ld rx_isI 4 (o_ld rx_isI 3 (o_ld rx_isR 0 (o_getf 12 13 (o_getf 11 1 (o_ld rx_isI 4 (o_ald 4 (o_getf 10 16 (o_bi (fun x y => x - y) (o_callV 2 5 FX5_ask (vX12_touch_61)))))))))))))
set_option maxRecDepth 20000 in
theorem wX12_touch_34 (hZ : zO b e D A X) : rx_OK (zV b e D A X) mX12_touch 6 34 vX12_touch_34 := by
  unfold vX12_touch_34
  refine s_aload_n hZ.1 dX12_touch_34 rfl ?_
  refine yg12_20 dX12_touch_35 zw1623 ?_
  refine yg6_1 dX12_touch_38 zw1475 ?_
  refine s_iload hZ.1 dX12_touch_41 ?_
  refine s_iload_n hZ.1 dX12_touch_43 rfl ?_
  refine s_aload_n hZ.1 dX12_touch_44 rfl ?_
  refine yg12_13 dX12_touch_45 zw1616 ?_
  refine yg11_1 dX12_touch_48 zw1258 ?_
  refine s_iload hZ.1 dX12_touch_51 ?_
  refine s_aald (tt := 4) rfl rfl dX12_touch_53 ?_
  refine yg10_16 dX12_touch_54 zw878 ?_
  refine s_isub dX12_touch_57 ?_
  refine s_callV hZ.1 (Met_X5_ask hZ) (Nat.le_of_ble_eq_true rfl) vy_X5_ask zcl5 zw2481 zw2482 (Or.inl zw2480) dX12_touch_58 ?_
  exact (wX12_touch_61 hZ)
noncomputable def vX12_touch_29 : rx_K := o_const 34359738352 (vX12_touch_61)
set_option maxRecDepth 20000 in
theorem wX12_touch_29 (hZ : zO b e D A X) : rx_OK (zV b e D A X) mX12_touch 6 29 vX12_touch_29 := by
  unfold vX12_touch_29
  refine s_bipush dX12_touch_29 (by decide +kernel) ?_
  exact s_goto dX12_touch_31 (by decide) (wX12_touch_61 hZ)
noncomputable def vX12_touch_15 : rx_K := o_ld rx_isR 0 (o_ld rx_isI 1 (o_ld rx_isI 2 (o_ld rx_isI 3 (o_callV 3 12 FX12_whereUsed (o_st rx_isI 4 (o_ld rx_isI 4 (o_c1 rx_lt vX12_touch_29 vX12_touch_34)))))))
set_option maxRecDepth 20000 in
theorem wX12_touch_15 (hZ : zO b e D A X) : rx_OK (zV b e D A X) mX12_touch 6 15 vX12_touch_15 := by
  unfold vX12_touch_15
  refine s_aload_n hZ.1 dX12_touch_15 rfl ?_
  refine s_iload_n hZ.1 dX12_touch_16 rfl ?_
  refine s_iload_n hZ.1 dX12_touch_17 rfl ?_
  refine s_iload_n hZ.1 dX12_touch_18 rfl ?_
  refine s_callV hZ.1 (Met_X12_whereUsed hZ) (Nat.le_of_ble_eq_true rfl) vy_X12_whereUsed zcl12 zw2476 zw125 (Or.inl zw2474) dX12_touch_19 ?_
  refine s_istore hZ.1 dX12_touch_22 (Nat.le_of_ble_eq_true rfl) ?_
  refine s_iload hZ.1 dX12_touch_24 ?_
  exact s_if_ge dX12_touch_26 (by decide) (wX12_touch_34 hZ) (wX12_touch_29 hZ)
noncomputable def vX12_touch_13 : rx_K := o_const 34359738360 (o_ret1 rx_isI)
set_option maxRecDepth 20000 in
theorem wX12_touch_13 (hZ : zO b e D A X) : rx_OK (zV b e D A X) mX12_touch 6 13 vX12_touch_13 := by
  unfold vX12_touch_13
  refine s_iconst dX12_touch_13 (by decide +kernel) ?_
  exact s_iret hZ.1 rfl dX12_touch_14
noncomputable def vX12_touch_0 : rx_K := o_ld rx_isR 0 (o_ld rx_isI 1 (o_ld rx_isI 2 (o_callV 2 12 FX12_buildOf (o_ld rx_isI 3 (o_callS 2 FX12_hasUse (o_c1 rx_eq vX12_touch_13 vX12_touch_15))))))
set_option maxRecDepth 20000 in
theorem wX12_touch_0 (hZ : zO b e D A X) : rx_OK (zV b e D A X) mX12_touch 6 0 vX12_touch_0 := by
  unfold vX12_touch_0
  refine s_aload_n hZ.1 dX12_touch_0 rfl ?_
  refine s_iload_n hZ.1 dX12_touch_1 rfl ?_
  refine s_iload_n hZ.1 dX12_touch_2 rfl ?_
  refine s_callV hZ.1 (Met_X12_buildOf hZ) (Nat.le_of_ble_eq_true rfl) vy_X12_buildOf zcl12 zw1559 zw1 (Or.inl zw1557) dX12_touch_3 ?_
  refine s_iload_n hZ.1 dX12_touch_6 rfl ?_
  refine s_callS hZ.1 (Met_X12_hasUse hZ) (Nat.le_of_ble_eq_true rfl) vy_X12_hasUse zw2457 (Or.inl zw2456) dX12_touch_7 ?_
  exact s_if_ne dX12_touch_10 (by decide) (wX12_touch_15 hZ) (wX12_touch_13 hZ)
noncomputable def FX12_touch : List Nat → rx_H → Option (Nat × rx_H) := rx_ent 5 vX12_touch_0
theorem Met_X12_touch (hZ : zO b e D A X) : rx_Met (zV b e D A X) 6 yX12_touch mX12_touch (FX12_touch) := rx_entry hZ.1 (wX12_touch_0 hZ) (by decide +kernel) rfl (fun h => by cases h)
abbrev mX12_runnable : rx_M := (RX12, cX12_runnable, 5, (some (.object "LinkHouse$Member")), false)
theorem vy_X12_runnable : rx_Y (zV b e D A X) yX12_runnable mX12_runnable 2 := ⟨zw2739, zw413, by decide, by decide +kernel, by decide +kernel, by decide +kernel⟩
noncomputable def vX12_runnable_70 (j : Nat → rx_K) : rx_K := o_const 3 (o_ret1 rx_isR)
set_option maxRecDepth 20000 in
theorem wX12_runnable_70 (hZ : zO b e D A X) (j : Nat → rx_K) (hj : ∀ k pc, [2][k]? = some pc → rx_OK (zV b e D A X) mX12_runnable 0 pc (j k)) : rx_OK (zV b e D A X) mX12_runnable 0 70 (vX12_runnable_70 j) := by
  unfold vX12_runnable_70
  refine s_null dX12_runnable_70 ?_
  exact s_aret hZ.1 rfl (Or.inl ⟨_, rfl⟩) dX12_runnable_71
noncomputable def vX12_runnable_64 (j : Nat → rx_K) : rx_K := o_inc 3 (1) ((j 0))
set_option maxRecDepth 20000 in
theorem wX12_runnable_64 (hZ : zO b e D A X) (j : Nat → rx_K) (hj : ∀ k pc, [2][k]? = some pc → rx_OK (zV b e D A X) mX12_runnable 0 pc (j k)) : rx_OK (zV b e D A X) mX12_runnable 0 64 (vX12_runnable_64 j) := by
  unfold vX12_runnable_64
  refine s_iinc hZ.1 dX12_runnable_64 (Nat.le_of_ble_eq_true rfl) ?_
  exact s_goto dX12_runnable_67 (by decide) (hj 0 2 rfl)
noncomputable def vX12_runnable_61 (j : Nat → rx_K) : rx_K := o_ld rx_isR 4 (o_ret1 rx_isR)
set_option maxRecDepth 20000 in
theorem wX12_runnable_61 (hZ : zO b e D A X) (j : Nat → rx_K) (hj : ∀ k pc, [2][k]? = some pc → rx_OK (zV b e D A X) mX12_runnable 0 pc (j k)) : rx_OK (zV b e D A X) mX12_runnable 0 61 (vX12_runnable_61 j) := by
  unfold vX12_runnable_61
  refine s_aload hZ.1 dX12_runnable_61 ?_
  exact s_aret hZ.1 rfl (Or.inl ⟨_, rfl⟩) dX12_runnable_63
noncomputable def vX12_runnable_53 (j : Nat → rx_K) : rx_K := o_ld rx_isR 4 (o_getf 7 9 (o_c1 rx_eq (vX12_runnable_61 j) (vX12_runnable_64 j)))
set_option maxRecDepth 20000 in
theorem wX12_runnable_53 (hZ : zO b e D A X) (j : Nat → rx_K) (hj : ∀ k pc, [2][k]? = some pc → rx_OK (zV b e D A X) mX12_runnable 0 pc (j k)) : rx_OK (zV b e D A X) mX12_runnable 0 53 (vX12_runnable_53 j) := by
  unfold vX12_runnable_53
  refine s_aload hZ.1 dX12_runnable_53 ?_
  refine yg7_9 dX12_runnable_55 zw1028 ?_
  exact s_if_ne dX12_runnable_58 (by decide) (wX12_runnable_64 hZ j hj) (wX12_runnable_61 hZ j hj)
noncomputable def vX12_runnable_45 (j : Nat → rx_K) : rx_K := o_ld rx_isR 4 (o_getf 7 6 (o_c1 rx_eq (vX12_runnable_64 j) (vX12_runnable_53 j)))
set_option maxRecDepth 20000 in
theorem wX12_runnable_45 (hZ : zO b e D A X) (j : Nat → rx_K) (hj : ∀ k pc, [2][k]? = some pc → rx_OK (zV b e D A X) mX12_runnable 0 pc (j k)) : rx_OK (zV b e D A X) mX12_runnable 0 45 (vX12_runnable_45 j) := by
  unfold vX12_runnable_45
  refine s_aload hZ.1 dX12_runnable_45 ?_
  refine yg7_6 dX12_runnable_47 zw1001 ?_
  exact s_if_eq dX12_runnable_50 (by decide) (wX12_runnable_64 hZ j hj) (wX12_runnable_53 hZ j hj)
noncomputable def vX12_runnable_37 (j : Nat → rx_K) : rx_K := o_ld rx_isR 4 (o_getf 7 2 (o_c1 rx_eq (vX12_runnable_64 j) (vX12_runnable_45 j)))
set_option maxRecDepth 20000 in
theorem wX12_runnable_37 (hZ : zO b e D A X) (j : Nat → rx_K) (hj : ∀ k pc, [2][k]? = some pc → rx_OK (zV b e D A X) mX12_runnable 0 pc (j k)) : rx_OK (zV b e D A X) mX12_runnable 0 37 (vX12_runnable_37 j) := by
  unfold vX12_runnable_37
  refine s_aload hZ.1 dX12_runnable_37 ?_
  refine yg7_2 dX12_runnable_39 zw971 ?_
  exact s_if_eq dX12_runnable_42 (by decide) (wX12_runnable_64 hZ j hj) (wX12_runnable_45 hZ j hj)
noncomputable def vX12_runnable_27 (j : Nat → rx_K) : rx_K := o_ld rx_isR 4 (o_getf 7 7 (o_ld rx_isL 1 (o_bc (fun x y => lg_cmp x y) (o_c1 rx_eq (vX12_runnable_37 j) (vX12_runnable_64 j)))))
set_option maxRecDepth 20000 in
theorem wX12_runnable_27 (hZ : zO b e D A X) (j : Nat → rx_K) (hj : ∀ k pc, [2][k]? = some pc → rx_OK (zV b e D A X) mX12_runnable 0 pc (j k)) : rx_OK (zV b e D A X) mX12_runnable 0 27 (vX12_runnable_27 j) := by
  unfold vX12_runnable_27
  refine s_aload hZ.1 dX12_runnable_27 ?_
  refine yg7_7 dX12_runnable_29 zw1010 ?_
  refine s_lload_n hZ.1 dX12_runnable_32 rfl ?_
  refine s_lcmp dX12_runnable_33 ?_
  exact s_if_ne dX12_runnable_34 (by decide) (wX12_runnable_64 hZ j hj) (wX12_runnable_37 hZ j hj)
noncomputable def vX12_runnable_10 (j : Nat → rx_K) : rx_K := o_ld rx_isR 0 (o_getf 10 14 (o_ld rx_isI 3 (o_ald 5 (o_st rx_isR 4 (o_ld rx_isR 4 (o_getf 7 0 (o_const 8 (o_c2 rx_eq (vX12_runnable_27 j) (vX12_runnable_64 j)))))))))
set_option maxRecDepth 20000 in
theorem wX12_runnable_10 (hZ : zO b e D A X) (j : Nat → rx_K) (hj : ∀ k pc, [2][k]? = some pc → rx_OK (zV b e D A X) mX12_runnable 0 pc (j k)) : rx_OK (zV b e D A X) mX12_runnable 0 10 (vX12_runnable_10 j) := by
  unfold vX12_runnable_10
  refine s_aload_n hZ.1 dX12_runnable_10 rfl ?_
  refine yg10_14 dX12_runnable_11 zw865 ?_
  refine s_iload_n hZ.1 dX12_runnable_14 rfl ?_
  refine s_aald (tt := 5) rfl rfl dX12_runnable_15 ?_
  refine s_astore hZ.1 dX12_runnable_16 (Nat.le_of_ble_eq_true rfl) ?_
  refine s_aload hZ.1 dX12_runnable_18 ?_
  refine yg7_0 dX12_runnable_20 zw952 ?_
  refine s_iconst dX12_runnable_23 (by decide +kernel) ?_
  exact s_icmp_ne dX12_runnable_24 (by decide) (wX12_runnable_64 hZ j hj) (wX12_runnable_27 hZ j hj)
noncomputable def vX12_runnable_2 (j : Nat → rx_K) : rx_K := o_ld rx_isI 3 (o_ld rx_isR 0 (o_getf 10 15 (o_c2 rx_lt (vX12_runnable_10 j) (vX12_runnable_70 j))))
set_option maxRecDepth 20000 in
theorem wX12_runnable_2 (hZ : zO b e D A X) (j : Nat → rx_K) (hj : ∀ k pc, [2][k]? = some pc → rx_OK (zV b e D A X) mX12_runnable 0 pc (j k)) : rx_OK (zV b e D A X) mX12_runnable 0 2 (vX12_runnable_2 j) := by
  unfold vX12_runnable_2
  refine s_iload_n hZ.1 dX12_runnable_2 rfl ?_
  refine s_aload_n hZ.1 dX12_runnable_3 rfl ?_
  refine yg10_15 dX12_runnable_4 zw873 ?_
  exact s_icmp_ge dX12_runnable_7 (by decide) (wX12_runnable_70 hZ j hj) (wX12_runnable_10 hZ j hj)
noncomputable def vX12_runnable_0 (j : Nat → rx_K) : rx_K := o_const 0 (o_st rx_isI 3 ((vX12_runnable_2 j)))
set_option maxRecDepth 20000 in
theorem wX12_runnable_0 (hZ : zO b e D A X) (j : Nat → rx_K) (hj : ∀ k pc, [2][k]? = some pc → rx_OK (zV b e D A X) mX12_runnable 0 pc (j k)) : rx_OK (zV b e D A X) mX12_runnable 0 0 (vX12_runnable_0 j) := by
  unfold vX12_runnable_0
  refine s_iconst dX12_runnable_0 (by decide +kernel) ?_
  refine s_istore_n hZ.1 dX12_runnable_1 rfl (Nat.le_of_ble_eq_true rfl) ?_
  exact (wX12_runnable_2 hZ j hj)
noncomputable def vhX12_runnable (j : Nat → rx_K) : List rx_K := [vX12_runnable_2 j]
theorem vlX12_runnable (hZ : zO b e D A X) : ∀ n k pc, [2][k]? = some pc → rx_OK (zV b e D A X) mX12_runnable 0 pc (rx_J (vhX12_runnable) n k) := rx_loop fun j hj k pc h => by
  match k, h with
  | 0, h =>
    have e9 := Option.some.inj (show some 2 = some pc from h)
    subst e9
    exact wX12_runnable_2 hZ j hj
  | _ + 1, h => exact absurd h (by simp)
noncomputable def FX12_runnable : List Nat → rx_H → Option (Nat × rx_H) := rx_ent 5 (vX12_runnable_0 (rx_J (vhX12_runnable) 4000000000))
theorem Met_X12_runnable (hZ : zO b e D A X) : rx_Met (zV b e D A X) 0 yX12_runnable mX12_runnable (FX12_runnable) := rx_entry hZ.1 (wX12_runnable_0 hZ _ (vlX12_runnable hZ 4000000000)) (by decide +kernel) rfl (fun h => by cases h)
abbrev mX12_run : rx_M := (RX12, cX12_run, 5, (some .int), false)
theorem vy_X12_run : rx_Y (zV b e D A X) yX12_run mX12_run 0 := ⟨zw2732, zw413, by decide, by decide +kernel, by decide +kernel, by decide +kernel⟩
noncomputable def vX12_run_217 (j : Nat → rx_K) : rx_K := o_ret1 rx_isI
set_option maxRecDepth 20000 in
theorem wX12_run_217 (hZ : zO b e D A X) (j : Nat → rx_K) (hj : ∀ k pc, [95, 150][k]? = some pc → rx_OK (zV b e D A X) mX12_run 7 pc (j k)) : rx_OK (zV b e D A X) mX12_run 7 217 (vX12_run_217 j) := by
  unfold vX12_run_217
  exact s_iret hZ.1 rfl dX12_run_217
noncomputable def vX12_run_216 (j : Nat → rx_K) : rx_K := o_const 16 ((vX12_run_217 j))
set_option maxRecDepth 20000 in
theorem wX12_run_216 (hZ : zO b e D A X) (j : Nat → rx_K) (hj : ∀ k pc, [95, 150][k]? = some pc → rx_OK (zV b e D A X) mX12_run 7 pc (j k)) : rx_OK (zV b e D A X) mX12_run 7 216 (vX12_run_216 j) := by
  unfold vX12_run_216
  refine s_iconst dX12_run_216 (by decide +kernel) ?_
  exact (wX12_run_217 hZ j hj)
noncomputable def vX12_run_212 (j : Nat → rx_K) : rx_K := o_const 8 ((vX12_run_217 j))
set_option maxRecDepth 20000 in
theorem wX12_run_212 (hZ : zO b e D A X) (j : Nat → rx_K) (hj : ∀ k pc, [95, 150][k]? = some pc → rx_OK (zV b e D A X) mX12_run 7 pc (j k)) : rx_OK (zV b e D A X) mX12_run 7 212 (vX12_run_212 j) := by
  unfold vX12_run_212
  refine s_iconst dX12_run_212 (by decide +kernel) ?_
  exact s_goto dX12_run_213 (by decide) (wX12_run_217 hZ j hj)
noncomputable def vX12_run_202 (j : Nat → rx_K) : rx_K := o_ld rx_isR 0 (o_getf 12 20 (o_getf 6 18 (o_c1 rx_eq (vX12_run_212 j) (vX12_run_216 j))))
set_option maxRecDepth 20000 in
theorem wX12_run_202 (hZ : zO b e D A X) (j : Nat → rx_K) (hj : ∀ k pc, [95, 150][k]? = some pc → rx_OK (zV b e D A X) mX12_run 7 pc (j k)) : rx_OK (zV b e D A X) mX12_run 7 202 (vX12_run_202 j) := by
  unfold vX12_run_202
  refine s_aload_n hZ.1 dX12_run_202 rfl ?_
  refine yg12_20 dX12_run_203 zw1623 ?_
  refine yg6_18 dX12_run_206 zw1503 ?_
  exact s_if_ne dX12_run_209 (by decide) (wX12_run_216 hZ j hj) (wX12_run_212 hZ j hj)
noncomputable def vX12_run_191 (j : Nat → rx_K) : rx_K := o_const 34359738288 (o_ld rx_isR 0 (o_getf 12 20 (o_getf 6 17 (o_bi (fun x y => x - y) (o_ret1 rx_isI)))))
set_option maxRecDepth 20000 in
theorem wX12_run_191 (hZ : zO b e D A X) (j : Nat → rx_K) (hj : ∀ k pc, [95, 150][k]? = some pc → rx_OK (zV b e D A X) mX12_run 7 pc (j k)) : rx_OK (zV b e D A X) mX12_run 7 191 (vX12_run_191 j) := by
  unfold vX12_run_191
  refine s_bipush dX12_run_191 (by decide +kernel) ?_
  refine s_aload_n hZ.1 dX12_run_193 rfl ?_
  refine yg12_20 dX12_run_194 zw1623 ?_
  refine yg6_17 dX12_run_197 zw1501 ?_
  refine s_isub dX12_run_200 ?_
  exact s_iret hZ.1 rfl dX12_run_201
noncomputable def vX12_run_181 (j : Nat → rx_K) : rx_K := o_ld rx_isR 0 (o_getf 12 20 (o_getf 6 17 (o_c1 rx_eq (vX12_run_202 j) (vX12_run_191 j))))
set_option maxRecDepth 20000 in
theorem wX12_run_181 (hZ : zO b e D A X) (j : Nat → rx_K) (hj : ∀ k pc, [95, 150][k]? = some pc → rx_OK (zV b e D A X) mX12_run 7 pc (j k)) : rx_OK (zV b e D A X) mX12_run 7 181 (vX12_run_181 j) := by
  unfold vX12_run_181
  refine s_aload_n hZ.1 dX12_run_181 rfl ?_
  refine yg12_20 dX12_run_182 zw1623 ?_
  refine yg6_17 dX12_run_185 zw1501 ?_
  exact s_if_eq dX12_run_188 (by decide) (wX12_run_202 hZ j hj) (wX12_run_191 hZ j hj)
noncomputable def vX12_run_168 (j : Nat → rx_K) : rx_K := o_ld rx_isR 0 (o_getf 12 20 (o_callV 0 6 FX6_turn (o_inc 4 (1) ((j 1)))))
set_option maxRecDepth 20000 in
theorem wX12_run_168 (hZ : zO b e D A X) (j : Nat → rx_K) (hj : ∀ k pc, [95, 150][k]? = some pc → rx_OK (zV b e D A X) mX12_run 7 pc (j k)) : rx_OK (zV b e D A X) mX12_run 7 168 (vX12_run_168 j) := by
  unfold vX12_run_168
  refine s_aload_n hZ.1 dX12_run_168 rfl ?_
  refine yg12_20 dX12_run_169 zw1623 ?_
  refine s_callV hZ.1 (Met_X6_turn hZ) (Nat.le_of_ble_eq_true rfl) vy_X6_turn zcl6 zw2768 zw2769 (Or.inl zw2767) dX12_run_172 ?_
  refine s_iinc hZ.1 dX12_run_175 (Nat.le_of_ble_eq_true rfl) ?_
  exact s_goto dX12_run_178 (by decide) (hj 1 150 rfl)
noncomputable def vX12_run_158 (j : Nat → rx_K) : rx_K := o_ld rx_isR 0 (o_getf 12 20 (o_getf 6 5 (o_c1 (fun h x y => rx_lt h y x) (vX12_run_168 j) (vX12_run_181 j))))
set_option maxRecDepth 20000 in
theorem wX12_run_158 (hZ : zO b e D A X) (j : Nat → rx_K) (hj : ∀ k pc, [95, 150][k]? = some pc → rx_OK (zV b e D A X) mX12_run 7 pc (j k)) : rx_OK (zV b e D A X) mX12_run 7 158 (vX12_run_158 j) := by
  unfold vX12_run_158
  refine s_aload_n hZ.1 dX12_run_158 rfl ?_
  refine yg12_20 dX12_run_159 zw1623 ?_
  refine yg6_5 dX12_run_162 zw1480 ?_
  exact s_if_le dX12_run_165 (by decide) (wX12_run_181 hZ j hj) (wX12_run_168 hZ j hj)
noncomputable def vX12_run_150 (j : Nat → rx_K) : rx_K := o_ld rx_isI 4 (o_const 800000000 (o_c2 rx_lt (vX12_run_158 j) (vX12_run_181 j)))
set_option maxRecDepth 20000 in
theorem wX12_run_150 (hZ : zO b e D A X) (j : Nat → rx_K) (hj : ∀ k pc, [95, 150][k]? = some pc → rx_OK (zV b e D A X) mX12_run 7 pc (j k)) : rx_OK (zV b e D A X) mX12_run 7 150 (vX12_run_150 j) := by
  unfold vX12_run_150
  refine s_iload hZ.1 dX12_run_150 ?_
  refine s_ldcw dX12_run_152 zw2766 (by decide +kernel) ?_
  exact s_icmp_ge dX12_run_155 (by decide) (wX12_run_181 hZ j hj) (wX12_run_158 hZ j hj)
noncomputable def vX12_run_147 (j : Nat → rx_K) : rx_K := o_const 0 (o_st rx_isI 4 ((vX12_run_150 j)))
set_option maxRecDepth 20000 in
theorem wX12_run_147 (hZ : zO b e D A X) (j : Nat → rx_K) (hj : ∀ k pc, [95, 150][k]? = some pc → rx_OK (zV b e D A X) mX12_run 7 pc (j k)) : rx_OK (zV b e D A X) mX12_run 7 147 (vX12_run_147 j) := by
  unfold vX12_run_147
  refine s_iconst dX12_run_147 (by decide +kernel) ?_
  refine s_istore hZ.1 dX12_run_148 (Nat.le_of_ble_eq_true rfl) ?_
  exact (wX12_run_150 hZ j hj)
noncomputable def vX12_run_136 (j : Nat → rx_K) : rx_K := o_ld rx_isR 0 (o_getf 12 20 (o_ld rx_isI 2 (o_ld rx_isR 3 (o_const 0 (o_const 8 (o_callV 4 6 FX6_call ((vX12_run_147 j))))))))
set_option maxRecDepth 20000 in
theorem wX12_run_136 (hZ : zO b e D A X) (j : Nat → rx_K) (hj : ∀ k pc, [95, 150][k]? = some pc → rx_OK (zV b e D A X) mX12_run 7 pc (j k)) : rx_OK (zV b e D A X) mX12_run 7 136 (vX12_run_136 j) := by
  unfold vX12_run_136
  refine s_aload_n hZ.1 dX12_run_136 rfl ?_
  refine yg12_20 dX12_run_137 zw1623 ?_
  refine s_iload_n hZ.1 dX12_run_140 rfl ?_
  refine s_aload_n hZ.1 dX12_run_141 rfl ?_
  refine s_iconst dX12_run_142 (by decide +kernel) ?_
  refine s_iconst dX12_run_143 (by decide +kernel) ?_
  refine s_callV hZ.1 (Met_X6_call hZ) (Nat.le_of_ble_eq_true rfl) vy_X6_call zcl6 zw2859 zw2860 (Or.inl zw2867) dX12_run_144 ?_
  exact (wX12_run_147 hZ j hj)
noncomputable def vX12_run_126 (j : Nat → rx_K) : rx_K := o_ld rx_isR 0 (o_getf 12 20 (o_getf 6 17 (o_c1 rx_eq (vX12_run_136 j) (vX12_run_147 j))))
set_option maxRecDepth 20000 in
theorem wX12_run_126 (hZ : zO b e D A X) (j : Nat → rx_K) (hj : ∀ k pc, [95, 150][k]? = some pc → rx_OK (zV b e D A X) mX12_run 7 pc (j k)) : rx_OK (zV b e D A X) mX12_run 7 126 (vX12_run_126 j) := by
  unfold vX12_run_126
  refine s_aload_n hZ.1 dX12_run_126 rfl ?_
  refine yg12_20 dX12_run_127 zw1623 ?_
  refine yg6_17 dX12_run_130 zw1501 ?_
  exact s_if_ne dX12_run_133 (by decide) (wX12_run_147 hZ j hj) (wX12_run_136 hZ j hj)
noncomputable def vX12_run_113 (j : Nat → rx_K) : rx_K := o_ld rx_isR 0 (o_getf 12 20 (o_callV 0 6 FX6_turn (o_inc 4 (1) ((j 0)))))
set_option maxRecDepth 20000 in
theorem wX12_run_113 (hZ : zO b e D A X) (j : Nat → rx_K) (hj : ∀ k pc, [95, 150][k]? = some pc → rx_OK (zV b e D A X) mX12_run 7 pc (j k)) : rx_OK (zV b e D A X) mX12_run 7 113 (vX12_run_113 j) := by
  unfold vX12_run_113
  refine s_aload_n hZ.1 dX12_run_113 rfl ?_
  refine yg12_20 dX12_run_114 zw1623 ?_
  refine s_callV hZ.1 (Met_X6_turn hZ) (Nat.le_of_ble_eq_true rfl) vy_X6_turn zcl6 zw2768 zw2769 (Or.inl zw2767) dX12_run_117 ?_
  refine s_iinc hZ.1 dX12_run_120 (Nat.le_of_ble_eq_true rfl) ?_
  exact s_goto dX12_run_123 (by decide) (hj 0 95 rfl)
noncomputable def vX12_run_103 (j : Nat → rx_K) : rx_K := o_ld rx_isR 0 (o_getf 12 20 (o_getf 6 5 (o_c1 (fun h x y => rx_lt h y x) (vX12_run_113 j) (vX12_run_126 j))))
set_option maxRecDepth 20000 in
theorem wX12_run_103 (hZ : zO b e D A X) (j : Nat → rx_K) (hj : ∀ k pc, [95, 150][k]? = some pc → rx_OK (zV b e D A X) mX12_run 7 pc (j k)) : rx_OK (zV b e D A X) mX12_run 7 103 (vX12_run_103 j) := by
  unfold vX12_run_103
  refine s_aload_n hZ.1 dX12_run_103 rfl ?_
  refine yg12_20 dX12_run_104 zw1623 ?_
  refine yg6_5 dX12_run_107 zw1480 ?_
  exact s_if_le dX12_run_110 (by decide) (wX12_run_126 hZ j hj) (wX12_run_113 hZ j hj)
noncomputable def vX12_run_95 (j : Nat → rx_K) : rx_K := o_ld rx_isI 4 (o_const 800000000 (o_c2 rx_lt (vX12_run_103 j) (vX12_run_126 j)))
set_option maxRecDepth 20000 in
theorem wX12_run_95 (hZ : zO b e D A X) (j : Nat → rx_K) (hj : ∀ k pc, [95, 150][k]? = some pc → rx_OK (zV b e D A X) mX12_run 7 pc (j k)) : rx_OK (zV b e D A X) mX12_run 7 95 (vX12_run_95 j) := by
  unfold vX12_run_95
  refine s_iload hZ.1 dX12_run_95 ?_
  refine s_ldcw dX12_run_97 zw2766 (by decide +kernel) ?_
  exact s_icmp_ge dX12_run_100 (by decide) (wX12_run_126 hZ j hj) (wX12_run_103 hZ j hj)
noncomputable def vX12_run_84 (j : Nat → rx_K) : rx_K := o_ld rx_isR 0 (o_getf 12 20 (o_ld rx_isI 2 (o_callV 1 6 FX6_open (o_const 0 (o_st rx_isI 4 ((vX12_run_95 j)))))))
set_option maxRecDepth 20000 in
theorem wX12_run_84 (hZ : zO b e D A X) (j : Nat → rx_K) (hj : ∀ k pc, [95, 150][k]? = some pc → rx_OK (zV b e D A X) mX12_run 7 pc (j k)) : rx_OK (zV b e D A X) mX12_run 7 84 (vX12_run_84 j) := by
  unfold vX12_run_84
  refine s_aload_n hZ.1 dX12_run_84 rfl ?_
  refine yg12_20 dX12_run_85 zw1623 ?_
  refine s_iload_n hZ.1 dX12_run_88 rfl ?_
  refine s_callV hZ.1 (Met_X6_open hZ) (Nat.le_of_ble_eq_true rfl) vy_X6_open zcl6 zw2741 zw2742 (Or.inl zw2740) dX12_run_89 ?_
  refine s_iconst dX12_run_92 (by decide +kernel) ?_
  refine s_istore hZ.1 dX12_run_93 (Nat.le_of_ble_eq_true rfl) ?_
  exact (wX12_run_95 hZ j hj)
noncomputable def vX12_run_81 (j : Nat → rx_K) : rx_K := o_const 34359738352 (o_ret1 rx_isI)
set_option maxRecDepth 20000 in
theorem wX12_run_81 (hZ : zO b e D A X) (j : Nat → rx_K) (hj : ∀ k pc, [95, 150][k]? = some pc → rx_OK (zV b e D A X) mX12_run 7 pc (j k)) : rx_OK (zV b e D A X) mX12_run 7 81 (vX12_run_81 j) := by
  unfold vX12_run_81
  refine s_bipush dX12_run_81 (by decide +kernel) ?_
  exact s_iret hZ.1 rfl dX12_run_83
noncomputable def vX12_run_76 (j : Nat → rx_K) : rx_K := o_st rx_isR 3 (o_ld rx_isR 3 (o_nul (vX12_run_81 j) (vX12_run_84 j)))
set_option maxRecDepth 20000 in
theorem wX12_run_76 (hZ : zO b e D A X) (j : Nat → rx_K) (hj : ∀ k pc, [95, 150][k]? = some pc → rx_OK (zV b e D A X) mX12_run 7 pc (j k)) : rx_OK (zV b e D A X) mX12_run 7 76 (vX12_run_76 j) := by
  unfold vX12_run_76
  refine s_astore_n hZ.1 dX12_run_76 rfl (Nat.le_of_ble_eq_true rfl) ?_
  refine s_aload_n hZ.1 dX12_run_77 rfl ?_
  exact s_ifnonnull dX12_run_78 (by decide) (wX12_run_84 hZ j hj) (wX12_run_81 hZ j hj)
noncomputable def vX12_run_55 (j : Nat → rx_K) : rx_K := o_ld rx_isR 0 (o_getf 12 13 (o_getf 11 1 (o_ld rx_isI 2 (o_ald 4 (o_ld rx_isR 0 (o_getf 12 8 (o_getf 9 4 (o_const 16 (o_ald 1 (o_callS 2 FX12_runnable ((vX12_run_76 j))))))))))))
set_option maxRecDepth 20000 in
theorem wX12_run_55 (hZ : zO b e D A X) (j : Nat → rx_K) (hj : ∀ k pc, [95, 150][k]? = some pc → rx_OK (zV b e D A X) mX12_run 7 pc (j k)) : rx_OK (zV b e D A X) mX12_run 7 55 (vX12_run_55 j) := by
  unfold vX12_run_55
  refine s_aload_n hZ.1 dX12_run_55 rfl ?_
  refine yg12_13 dX12_run_56 zw1616 ?_
  refine yg11_1 dX12_run_59 zw1258 ?_
  refine s_iload_n hZ.1 dX12_run_62 rfl ?_
  refine s_aald (tt := 4) rfl rfl dX12_run_63 ?_
  refine s_aload_n hZ.1 dX12_run_64 rfl ?_
  refine yg12_8 dX12_run_65 zw1611 ?_
  refine yg9_4 dX12_run_68 zw588 ?_
  refine s_iconst dX12_run_71 (by decide +kernel) ?_
  refine s_lald (tt := 1) rfl dX12_run_72 ?_
  refine s_callS hZ.1 (Met_X12_runnable hZ) (Nat.le_of_ble_eq_true rfl) vy_X12_runnable zw2738 (Or.inl zw2737) dX12_run_73 ?_
  exact (wX12_run_76 hZ j hj)
noncomputable def vX12_run_51 (j : Nat → rx_K) : rx_K := o_const 3 ((vX12_run_76 j))
set_option maxRecDepth 20000 in
theorem wX12_run_51 (hZ : zO b e D A X) (j : Nat → rx_K) (hj : ∀ k pc, [95, 150][k]? = some pc → rx_OK (zV b e D A X) mX12_run 7 pc (j k)) : rx_OK (zV b e D A X) mX12_run 7 51 (vX12_run_51 j) := by
  unfold vX12_run_51
  refine s_null dX12_run_51 ?_
  exact s_goto dX12_run_52 (by decide) (wX12_run_76 hZ j hj)
noncomputable def vX12_run_46 (j : Nat → rx_K) : rx_K := o_st rx_isI 2 (o_ld rx_isI 2 (o_c1 rx_lt (vX12_run_51 j) (vX12_run_55 j)))
set_option maxRecDepth 20000 in
theorem wX12_run_46 (hZ : zO b e D A X) (j : Nat → rx_K) (hj : ∀ k pc, [95, 150][k]? = some pc → rx_OK (zV b e D A X) mX12_run 7 pc (j k)) : rx_OK (zV b e D A X) mX12_run 7 46 (vX12_run_46 j) := by
  unfold vX12_run_46
  refine s_istore_n hZ.1 dX12_run_46 rfl (Nat.le_of_ble_eq_true rfl) ?_
  refine s_iload_n hZ.1 dX12_run_47 rfl ?_
  exact s_if_ge dX12_run_48 (by decide) (wX12_run_55 hZ j hj) (wX12_run_51 hZ j hj)
noncomputable def vX12_run_44 (j : Nat → rx_K) : rx_K := o_const 34359738352 ((vX12_run_46 j))
set_option maxRecDepth 20000 in
theorem wX12_run_44 (hZ : zO b e D A X) (j : Nat → rx_K) (hj : ∀ k pc, [95, 150][k]? = some pc → rx_OK (zV b e D A X) mX12_run 7 pc (j k)) : rx_OK (zV b e D A X) mX12_run 7 44 (vX12_run_44 j) := by
  unfold vX12_run_44
  refine s_bipush dX12_run_44 (by decide +kernel) ?_
  exact (wX12_run_46 hZ j hj)
noncomputable def vX12_run_25 (j : Nat → rx_K) : rx_K := o_ld rx_isR 0 (o_getf 12 13 (o_ld rx_isR 0 (o_getf 12 8 (o_getf 9 4 (o_const 0 (o_ald 1 (o_callV 1 11 FX11_find ((vX12_run_46 j)))))))))
set_option maxRecDepth 20000 in
theorem wX12_run_25 (hZ : zO b e D A X) (j : Nat → rx_K) (hj : ∀ k pc, [95, 150][k]? = some pc → rx_OK (zV b e D A X) mX12_run 7 pc (j k)) : rx_OK (zV b e D A X) mX12_run 7 25 (vX12_run_25 j) := by
  unfold vX12_run_25
  refine s_aload_n hZ.1 dX12_run_25 rfl ?_
  refine yg12_13 dX12_run_26 zw1616 ?_
  refine s_aload_n hZ.1 dX12_run_29 rfl ?_
  refine yg12_8 dX12_run_30 zw1611 ?_
  refine yg9_4 dX12_run_33 zw588 ?_
  refine s_iconst dX12_run_36 (by decide +kernel) ?_
  refine s_lald (tt := 1) rfl dX12_run_37 ?_
  refine s_callV hZ.1 (Met_X11_find hZ) (Nat.le_of_ble_eq_true rfl) vy_X11_find zcl11 zw1574 zw1575 (Or.inl zw2478) dX12_run_38 ?_
  exact s_goto dX12_run_41 (by decide) (wX12_run_46 hZ j hj)
noncomputable def vX12_run_0 (j : Nat → rx_K) : rx_K := o_ld rx_isR 0 (o_getf 12 8 (o_ld rx_isR 0 (o_getf 12 0 (o_ld rx_isR 0 (o_getf 12 1 (o_callV 2 9 FX9_isCall (o_st rx_isI 1 (o_ld rx_isR 0 (o_const 0 (o_putf rx_isI 12 1 (o_ld rx_isI 1 (o_c1 rx_eq (vX12_run_44 j) (vX12_run_25 j)))))))))))))
set_option maxRecDepth 20000 in
theorem wX12_run_0 (hZ : zO b e D A X) (j : Nat → rx_K) (hj : ∀ k pc, [95, 150][k]? = some pc → rx_OK (zV b e D A X) mX12_run 7 pc (j k)) : rx_OK (zV b e D A X) mX12_run 7 0 (vX12_run_0 j) := by
  unfold vX12_run_0
  refine s_aload_n hZ.1 dX12_run_0 rfl ?_
  refine yg12_8 dX12_run_1 zw1611 ?_
  refine s_aload_n hZ.1 dX12_run_4 rfl ?_
  refine yg12_0 dX12_run_5 zw1603 ?_
  refine s_aload_n hZ.1 dX12_run_8 rfl ?_
  refine yg12_1 dX12_run_9 zw1604 ?_
  refine s_callV hZ.1 (Met_X9_isCall hZ) (Nat.le_of_ble_eq_true rfl) vy_X9_isCall zcl9 zw2734 zw2735 (Or.inl zw2733) dX12_run_12 ?_
  refine s_istore_n hZ.1 dX12_run_15 rfl (Nat.le_of_ble_eq_true rfl) ?_
  refine s_aload_n hZ.1 dX12_run_16 rfl ?_
  refine s_iconst dX12_run_17 (by decide +kernel) ?_
  refine yp12_1 hZ.1 dX12_run_18 zw1604 ?_
  refine s_iload_n hZ.1 dX12_run_21 rfl ?_
  exact s_if_eq dX12_run_22 (by decide) (wX12_run_44 hZ j hj) (wX12_run_25 hZ j hj)
noncomputable def vhX12_run (j : Nat → rx_K) : List rx_K := [vX12_run_95 j, vX12_run_150 j]
theorem vlX12_run (hZ : zO b e D A X) : ∀ n k pc, [95, 150][k]? = some pc → rx_OK (zV b e D A X) mX12_run 7 pc (rx_J (vhX12_run) n k) := rx_loop fun j hj k pc h => by
  match k, h with
  | 0, h =>
    have e9 := Option.some.inj (show some 95 = some pc from h)
    subst e9
    exact wX12_run_95 hZ j hj
  | 1, h =>
    have e9 := Option.some.inj (show some 150 = some pc from h)
    subst e9
    exact wX12_run_150 hZ j hj
  | _ + 2, h => exact absurd h (by simp)
noncomputable def FX12_run : List Nat → rx_H → Option (Nat × rx_H) := rx_ent 5 (vX12_run_0 (rx_J (vhX12_run) 4000000000))
theorem Met_X12_run (hZ : zO b e D A X) : rx_Met (zV b e D A X) 7 yX12_run mX12_run (FX12_run) := rx_entry hZ.1 (wX12_run_0 hZ _ (vlX12_run hZ 4000000000)) (by decide +kernel) rfl (fun h => by cases h)
abbrev mX12_value : rx_M := (RX12, cX12_value, 1, (some .int), false)
theorem vy_X12_value : rx_Y (zV b e D A X) yX12_value mX12_value 0 := ⟨zw2871, zw413, by decide, by decide +kernel, by decide +kernel, by decide +kernel⟩
noncomputable def vX12_value_27 : rx_K := o_ret1 rx_isI
set_option maxRecDepth 20000 in
theorem wX12_value_27 (hZ : zO b e D A X) : rx_OK (zV b e D A X) mX12_value 0 27 vX12_value_27 := by
  unfold vX12_value_27
  exact s_iret hZ.1 rfl dX12_value_27
noncomputable def vX12_value_20 : rx_K := o_ld rx_isR 0 (o_getf 12 20 (o_getf 6 18 (vX12_value_27)))
set_option maxRecDepth 20000 in
theorem wX12_value_20 (hZ : zO b e D A X) : rx_OK (zV b e D A X) mX12_value 0 20 vX12_value_20 := by
  unfold vX12_value_20
  refine s_aload_n hZ.1 dX12_value_20 rfl ?_
  refine yg12_20 dX12_value_21 zw1623 ?_
  refine yg6_18 dX12_value_24 zw1503 ?_
  exact (wX12_value_27 hZ)
noncomputable def vX12_value_10 : rx_K := o_ld rx_isR 0 (o_getf 12 20 (o_getf 6 19 (vX12_value_27)))
set_option maxRecDepth 20000 in
theorem wX12_value_10 (hZ : zO b e D A X) : rx_OK (zV b e D A X) mX12_value 0 10 vX12_value_10 := by
  unfold vX12_value_10
  refine s_aload_n hZ.1 dX12_value_10 rfl ?_
  refine yg12_20 dX12_value_11 zw1623 ?_
  refine yg6_19 dX12_value_14 zw1505 ?_
  exact s_goto dX12_value_17 (by decide) (wX12_value_27 hZ)
noncomputable def vX12_value_0 : rx_K := o_ld rx_isR 0 (o_getf 12 20 (o_getf 6 18 (o_c1 rx_eq vX12_value_10 vX12_value_20)))
set_option maxRecDepth 20000 in
theorem wX12_value_0 (hZ : zO b e D A X) : rx_OK (zV b e D A X) mX12_value 0 0 vX12_value_0 := by
  unfold vX12_value_0
  refine s_aload_n hZ.1 dX12_value_0 rfl ?_
  refine yg12_20 dX12_value_1 zw1623 ?_
  refine yg6_18 dX12_value_4 zw1503 ?_
  exact s_if_ne dX12_value_7 (by decide) (wX12_value_20 hZ) (wX12_value_10 hZ)
noncomputable def FX12_value : List Nat → rx_H → Option (Nat × rx_H) := rx_ent 1 vX12_value_0
theorem Met_X12_value (hZ : zO b e D A X) : rx_Met (zV b e D A X) 0 yX12_value mX12_value (FX12_value) := rx_entry hZ.1 (wX12_value_0 hZ) (by decide +kernel) rfl (fun h => by cases h)
abbrev mX12_told : rx_M := (RX12, cX12_told, 2, (some .int), false)
theorem vy_X12_told : rx_Y (zV b e D A X) yX12_told mX12_told 1 := ⟨zw2875, zw413, by decide, by decide +kernel, by decide +kernel, by decide +kernel⟩
noncomputable def vX12_told_109 : rx_K := o_const 34359738360 (o_ret1 rx_isI)
set_option maxRecDepth 20000 in
theorem wX12_told_109 (hZ : zO b e D A X) : rx_OK (zV b e D A X) mX12_told 1 109 vX12_told_109 := by
  unfold vX12_told_109
  refine s_iconst dX12_told_109 (by decide +kernel) ?_
  exact s_iret hZ.1 rfl dX12_told_110
noncomputable def vX12_told_104 : rx_K := o_ld rx_isR 0 (o_callV 0 12 FX12_allBuilt (o_ret1 rx_isI))
set_option maxRecDepth 20000 in
theorem wX12_told_104 (hZ : zO b e D A X) : rx_OK (zV b e D A X) mX12_told 1 104 vX12_told_104 := by
  unfold vX12_told_104
  refine s_aload_n hZ.1 dX12_told_104 rfl ?_
  refine s_callV hZ.1 (Met_X12_allBuilt hZ) (Nat.le_of_ble_eq_true rfl) vy_X12_allBuilt zcl12 zw1563 zw2 (Or.inl zw1561) dX12_told_105 ?_
  exact s_iret hZ.1 rfl dX12_told_108
noncomputable def vX12_told_99 : rx_K := o_ld rx_isR 0 (o_getf 12 1 (o_ret1 rx_isI))
set_option maxRecDepth 20000 in
theorem wX12_told_99 (hZ : zO b e D A X) : rx_OK (zV b e D A X) mX12_told 1 99 vX12_told_99 := by
  unfold vX12_told_99
  refine s_aload_n hZ.1 dX12_told_99 rfl ?_
  refine yg12_1 dX12_told_100 zw1604 ?_
  exact s_iret hZ.1 rfl dX12_told_103
noncomputable def vX12_told_91 : rx_K := o_ld rx_isR 0 (o_getf 12 13 (o_getf 11 2 (o_ret1 rx_isI)))
set_option maxRecDepth 20000 in
theorem wX12_told_91 (hZ : zO b e D A X) : rx_OK (zV b e D A X) mX12_told 1 91 vX12_told_91 := by
  unfold vX12_told_91
  refine s_aload_n hZ.1 dX12_told_91 rfl ?_
  refine yg12_13 dX12_told_92 zw1616 ?_
  refine yg11_2 dX12_told_95 zw1261 ?_
  exact s_iret hZ.1 rfl dX12_told_98
noncomputable def vX12_told_80 : rx_K := o_ld rx_isR 0 (o_getf 12 20 (o_getf 6 1 (o_getf 5 4 (o_ret1 rx_isI))))
set_option maxRecDepth 20000 in
theorem wX12_told_80 (hZ : zO b e D A X) : rx_OK (zV b e D A X) mX12_told 1 80 vX12_told_80 := by
  unfold vX12_told_80
  refine s_aload_n hZ.1 dX12_told_80 rfl ?_
  refine yg12_20 dX12_told_81 zw1623 ?_
  refine yg6_1 dX12_told_84 zw1475 ?_
  refine yg5_4 dX12_told_87 zw1358 ?_
  exact s_iret hZ.1 rfl dX12_told_90
noncomputable def vX12_told_72 : rx_K := o_ld rx_isR 0 (o_getf 12 20 (o_getf 6 12 (o_ret1 rx_isI)))
set_option maxRecDepth 20000 in
theorem wX12_told_72 (hZ : zO b e D A X) : rx_OK (zV b e D A X) mX12_told 1 72 vX12_told_72 := by
  unfold vX12_told_72
  refine s_aload_n hZ.1 dX12_told_72 rfl ?_
  refine yg12_20 dX12_told_73 zw1623 ?_
  refine yg6_12 dX12_told_76 zw1492 ?_
  exact s_iret hZ.1 rfl dX12_told_79
noncomputable def vX12_told_64 : rx_K := o_ld rx_isR 0 (o_getf 12 20 (o_getf 6 10 (o_ret1 rx_isI)))
set_option maxRecDepth 20000 in
theorem wX12_told_64 (hZ : zO b e D A X) : rx_OK (zV b e D A X) mX12_told 1 64 vX12_told_64 := by
  unfold vX12_told_64
  refine s_aload_n hZ.1 dX12_told_64 rfl ?_
  refine yg12_20 dX12_told_65 zw1623 ?_
  refine yg6_10 dX12_told_68 zw1488 ?_
  exact s_iret hZ.1 rfl dX12_told_71
noncomputable def vX12_told_56 : rx_K := o_ld rx_isR 0 (o_getf 12 20 (o_getf 6 16 (o_ret1 rx_isI)))
set_option maxRecDepth 20000 in
theorem wX12_told_56 (hZ : zO b e D A X) : rx_OK (zV b e D A X) mX12_told 1 56 vX12_told_56 := by
  unfold vX12_told_56
  refine s_aload_n hZ.1 dX12_told_56 rfl ?_
  refine yg12_20 dX12_told_57 zw1623 ?_
  refine yg6_16 dX12_told_60 zw1499 ?_
  exact s_iret hZ.1 rfl dX12_told_63
noncomputable def vX12_told_48 : rx_K := o_ld rx_isR 0 (o_getf 12 20 (o_getf 6 14 (o_ret1 rx_isI)))
set_option maxRecDepth 20000 in
theorem wX12_told_48 (hZ : zO b e D A X) : rx_OK (zV b e D A X) mX12_told 1 48 vX12_told_48 := by
  unfold vX12_told_48
  refine s_aload_n hZ.1 dX12_told_48 rfl ?_
  refine yg12_20 dX12_told_49 zw1623 ?_
  refine yg6_14 dX12_told_52 zw1495 ?_
  exact s_iret hZ.1 rfl dX12_told_55
noncomputable def vX12_told_0 : rx_K := o_ld rx_isI 1 (o_sw 0 [48, 56, 64, 72, 80, 91, 99, 104] 109 (rx_pk [(48, vX12_told_48), (56, vX12_told_56), (64, vX12_told_64), (72, vX12_told_72), (80, vX12_told_80), (91, vX12_told_91), (99, vX12_told_99), (104, vX12_told_104), (109, vX12_told_109)]))
set_option maxRecDepth 20000 in
theorem wX12_told_0 (hZ : zO b e D A X) : rx_OK (zV b e D A X) mX12_told 1 0 vX12_told_0 := by
  unfold vX12_told_0
  refine s_iload_n hZ.1 dX12_told_0 rfl ?_
  exact s_sw dX12_told_1 (by decide) (by decide) (by decide) (by decide) (by decide) (fun b _ => (rx_pk_ok (List.forall_mem_cons.mpr ⟨(wX12_told_48 hZ), List.forall_mem_cons.mpr ⟨(wX12_told_56 hZ), List.forall_mem_cons.mpr ⟨(wX12_told_64 hZ), List.forall_mem_cons.mpr ⟨(wX12_told_72 hZ), List.forall_mem_cons.mpr ⟨(wX12_told_80 hZ), List.forall_mem_cons.mpr ⟨(wX12_told_91 hZ), List.forall_mem_cons.mpr ⟨(wX12_told_99 hZ), List.forall_mem_cons.mpr ⟨(wX12_told_104 hZ), List.forall_mem_cons.mpr ⟨(wX12_told_109 hZ), fun _ h => absurd h List.not_mem_nil⟩⟩⟩⟩⟩⟩⟩⟩⟩)) b)
noncomputable def FX12_told : List Nat → rx_H → Option (Nat × rx_H) := rx_ent 2 vX12_told_0
theorem Met_X12_told (hZ : zO b e D A X) : rx_Met (zV b e D A X) 1 yX12_told mX12_told (FX12_told) := rx_entry hZ.1 (wX12_told_0 hZ) (by decide +kernel) rfl (fun h => by cases h)
abbrev mX12_number : rx_M := (RX12, cX12_number, 2, (some .int), false)
theorem vy_X12_number : rx_Y (zV b e D A X) yX12_number mX12_number 1 := ⟨zw2879, zw413, by decide, by decide +kernel, by decide +kernel, by decide +kernel⟩
noncomputable def vX12_number_28 : rx_K := o_ret1 rx_isI
set_option maxRecDepth 20000 in
theorem wX12_number_28 (hZ : zO b e D A X) : rx_OK (zV b e D A X) mX12_number 0 28 vX12_number_28 := by
  unfold vX12_number_28
  exact s_iret hZ.1 rfl dX12_number_28
noncomputable def vX12_number_19 : rx_K := o_ld rx_isR 0 (o_getf 12 20 (o_getf 6 15 (o_ld rx_isI 1 (o_ald 0 (vX12_number_28)))))
set_option maxRecDepth 20000 in
theorem wX12_number_19 (hZ : zO b e D A X) : rx_OK (zV b e D A X) mX12_number 0 19 vX12_number_19 := by
  unfold vX12_number_19
  refine s_aload_n hZ.1 dX12_number_19 rfl ?_
  refine yg12_20 dX12_number_20 zw1623 ?_
  refine yg6_15 dX12_number_23 zw1497 ?_
  refine s_iload_n hZ.1 dX12_number_26 rfl ?_
  refine s_iald (tt := 0) rfl dX12_number_27 ?_
  exact (wX12_number_28 hZ)
noncomputable def vX12_number_15 : rx_K := o_const 0 (vX12_number_28)
set_option maxRecDepth 20000 in
theorem wX12_number_15 (hZ : zO b e D A X) : rx_OK (zV b e D A X) mX12_number 0 15 vX12_number_15 := by
  unfold vX12_number_15
  refine s_iconst dX12_number_15 (by decide +kernel) ?_
  exact s_goto dX12_number_16 (by decide) (wX12_number_28 hZ)
noncomputable def vX12_number_4 : rx_K := o_ld rx_isI 1 (o_ld rx_isR 0 (o_getf 12 20 (o_getf 6 16 (o_c2 rx_lt vX12_number_19 vX12_number_15))))
set_option maxRecDepth 20000 in
theorem wX12_number_4 (hZ : zO b e D A X) : rx_OK (zV b e D A X) mX12_number 0 4 vX12_number_4 := by
  unfold vX12_number_4
  refine s_iload_n hZ.1 dX12_number_4 rfl ?_
  refine s_aload_n hZ.1 dX12_number_5 rfl ?_
  refine yg12_20 dX12_number_6 zw1623 ?_
  refine yg6_16 dX12_number_9 zw1499 ?_
  exact s_icmp_lt dX12_number_12 (by decide) (wX12_number_19 hZ) (wX12_number_15 hZ)
noncomputable def vX12_number_0 : rx_K := o_ld rx_isI 1 (o_c1 rx_lt vX12_number_15 vX12_number_4)
set_option maxRecDepth 20000 in
theorem wX12_number_0 (hZ : zO b e D A X) : rx_OK (zV b e D A X) mX12_number 0 0 vX12_number_0 := by
  unfold vX12_number_0
  refine s_iload_n hZ.1 dX12_number_0 rfl ?_
  exact s_if_lt dX12_number_1 (by decide) (wX12_number_15 hZ) (wX12_number_4 hZ)
noncomputable def FX12_number : List Nat → rx_H → Option (Nat × rx_H) := rx_ent 2 vX12_number_0
theorem Met_X12_number (hZ : zO b e D A X) : rx_Met (zV b e D A X) 0 yX12_number mX12_number (FX12_number) := rx_entry hZ.1 (wX12_number_0 hZ) (by decide +kernel) rfl (fun h => by cases h)
abbrev mX12_event : rx_M := (RX12, cX12_event, 2, (some .int), false)
theorem vy_X12_event : rx_Y (zV b e D A X) yX12_event mX12_event 1 := ⟨zw2883, zw413, by decide, by decide +kernel, by decide +kernel, by decide +kernel⟩
noncomputable def vX12_event_34 : rx_K := o_ret1 rx_isI
set_option maxRecDepth 20000 in
theorem wX12_event_34 (hZ : zO b e D A X) : rx_OK (zV b e D A X) mX12_event 0 34 vX12_event_34 := by
  unfold vX12_event_34
  exact s_iret hZ.1 rfl dX12_event_34
noncomputable def vX12_event_22 : rx_K := o_ld rx_isR 0 (o_getf 12 20 (o_getf 6 1 (o_getf 5 3 (o_ld rx_isI 1 (o_ald 0 (vX12_event_34))))))
set_option maxRecDepth 20000 in
theorem wX12_event_22 (hZ : zO b e D A X) : rx_OK (zV b e D A X) mX12_event 0 22 vX12_event_22 := by
  unfold vX12_event_22
  refine s_aload_n hZ.1 dX12_event_22 rfl ?_
  refine yg12_20 dX12_event_23 zw1623 ?_
  refine yg6_1 dX12_event_26 zw1475 ?_
  refine yg5_3 dX12_event_29 zw1356 ?_
  refine s_iload_n hZ.1 dX12_event_32 rfl ?_
  refine s_iald (tt := 0) rfl dX12_event_33 ?_
  exact (wX12_event_34 hZ)
noncomputable def vX12_event_18 : rx_K := o_const 34359738360 (vX12_event_34)
set_option maxRecDepth 20000 in
theorem wX12_event_18 (hZ : zO b e D A X) : rx_OK (zV b e D A X) mX12_event 0 18 vX12_event_18 := by
  unfold vX12_event_18
  refine s_iconst dX12_event_18 (by decide +kernel) ?_
  exact s_goto dX12_event_19 (by decide) (wX12_event_34 hZ)
noncomputable def vX12_event_4 : rx_K := o_ld rx_isI 1 (o_ld rx_isR 0 (o_getf 12 20 (o_getf 6 1 (o_getf 5 4 (o_c2 rx_lt vX12_event_22 vX12_event_18)))))
set_option maxRecDepth 20000 in
theorem wX12_event_4 (hZ : zO b e D A X) : rx_OK (zV b e D A X) mX12_event 0 4 vX12_event_4 := by
  unfold vX12_event_4
  refine s_iload_n hZ.1 dX12_event_4 rfl ?_
  refine s_aload_n hZ.1 dX12_event_5 rfl ?_
  refine yg12_20 dX12_event_6 zw1623 ?_
  refine yg6_1 dX12_event_9 zw1475 ?_
  refine yg5_4 dX12_event_12 zw1358 ?_
  exact s_icmp_lt dX12_event_15 (by decide) (wX12_event_22 hZ) (wX12_event_18 hZ)
noncomputable def vX12_event_0 : rx_K := o_ld rx_isI 1 (o_c1 rx_lt vX12_event_18 vX12_event_4)
set_option maxRecDepth 20000 in
theorem wX12_event_0 (hZ : zO b e D A X) : rx_OK (zV b e D A X) mX12_event 0 0 vX12_event_0 := by
  unfold vX12_event_0
  refine s_iload_n hZ.1 dX12_event_0 rfl ?_
  exact s_if_lt dX12_event_1 (by decide) (wX12_event_18 hZ) (wX12_event_4 hZ)
noncomputable def FX12_event : List Nat → rx_H → Option (Nat × rx_H) := rx_ent 2 vX12_event_0
theorem Met_X12_event (hZ : zO b e D A X) : rx_Met (zV b e D A X) 0 yX12_event mX12_event (FX12_event) := rx_entry hZ.1 (wX12_event_0 hZ) (by decide +kernel) rfl (fun h => by cases h)
abbrev mX12_name : rx_M := (RX12, cX12_name, 2, (some .int), false)
theorem vy_X12_name : rx_Y (zV b e D A X) yX12_name mX12_name 1 := ⟨zw2887, zw413, by decide, by decide +kernel, by decide +kernel, by decide +kernel⟩
noncomputable def vX12_name_17 : rx_K := o_ld rx_isR 0 (o_const 0 (o_putf rx_isI 12 3 (o_ld rx_isR 0 (o_ld rx_isR 0 (o_getf 12 13 (o_getf 11 1 (o_ld rx_isI 1 (o_ald 4 (o_getf 10 1 (o_callV 1 12 FX12_tellType (o_ld rx_isR 0 (o_getf 12 3 (o_ret1 rx_isI)))))))))))))
set_option maxRecDepth 20000 in
theorem wX12_name_17 (hZ : zO b e D A X) : rx_OK (zV b e D A X) mX12_name 6 17 vX12_name_17 := by
  unfold vX12_name_17
  refine s_aload_n hZ.1 dX12_name_17 rfl ?_
  refine s_iconst dX12_name_18 (by decide +kernel) ?_
  refine yp12_3 hZ.1 dX12_name_19 zw1606 ?_
  refine s_aload_n hZ.1 dX12_name_22 rfl ?_
  refine s_aload_n hZ.1 dX12_name_23 rfl ?_
  refine yg12_13 dX12_name_24 zw1616 ?_
  refine yg11_1 dX12_name_27 zw1258 ?_
  refine s_iload_n hZ.1 dX12_name_30 rfl ?_
  refine s_aald (tt := 4) rfl rfl dX12_name_31 ?_
  refine yg10_1 dX12_name_32 zw777 ?_
  refine s_callV hZ.1 (Met_X12_tellType hZ) (Nat.le_of_ble_eq_true rfl) vy_X12_tellType zcl12 zw2398 zw117 (Or.inl zw2396) dX12_name_35 ?_
  refine s_aload_n hZ.1 dX12_name_38 rfl ?_
  refine yg12_3 dX12_name_39 zw1606 ?_
  exact s_iret hZ.1 rfl dX12_name_42
noncomputable def vX12_name_15 : rx_K := o_const 34359738360 (o_ret1 rx_isI)
set_option maxRecDepth 20000 in
theorem wX12_name_15 (hZ : zO b e D A X) : rx_OK (zV b e D A X) mX12_name 6 15 vX12_name_15 := by
  unfold vX12_name_15
  refine s_iconst dX12_name_15 (by decide +kernel) ?_
  exact s_iret hZ.1 rfl dX12_name_16
noncomputable def vX12_name_4 : rx_K := o_ld rx_isI 1 (o_ld rx_isR 0 (o_getf 12 13 (o_getf 11 2 (o_c2 rx_lt vX12_name_17 vX12_name_15))))
set_option maxRecDepth 20000 in
theorem wX12_name_4 (hZ : zO b e D A X) : rx_OK (zV b e D A X) mX12_name 6 4 vX12_name_4 := by
  unfold vX12_name_4
  refine s_iload_n hZ.1 dX12_name_4 rfl ?_
  refine s_aload_n hZ.1 dX12_name_5 rfl ?_
  refine yg12_13 dX12_name_6 zw1616 ?_
  refine yg11_2 dX12_name_9 zw1261 ?_
  exact s_icmp_lt dX12_name_12 (by decide) (wX12_name_17 hZ) (wX12_name_15 hZ)
noncomputable def vX12_name_0 : rx_K := o_ld rx_isI 1 (o_c1 rx_lt vX12_name_15 vX12_name_4)
set_option maxRecDepth 20000 in
theorem wX12_name_0 (hZ : zO b e D A X) : rx_OK (zV b e D A X) mX12_name 6 0 vX12_name_0 := by
  unfold vX12_name_0
  refine s_iload_n hZ.1 dX12_name_0 rfl ?_
  exact s_if_lt dX12_name_1 (by decide) (wX12_name_15 hZ) (wX12_name_4 hZ)
noncomputable def FX12_name : List Nat → rx_H → Option (Nat × rx_H) := rx_ent 2 vX12_name_0
theorem Met_X12_name (hZ : zO b e D A X) : rx_Met (zV b e D A X) 6 yX12_name mX12_name (FX12_name) := rx_entry hZ.1 (wX12_name_0 hZ) (by decide +kernel) rfl (fun h => by cases h)
abbrev mX12_state : rx_M := (RX12, cX12_state, 2, (some .int), false)
theorem vy_X12_state : rx_Y (zV b e D A X) yX12_state mX12_state 1 := ⟨zw2891, zw413, by decide, by decide +kernel, by decide +kernel, by decide +kernel⟩
noncomputable def vX12_state_31 : rx_K := o_ret1 rx_isI
set_option maxRecDepth 20000 in
theorem wX12_state_31 (hZ : zO b e D A X) : rx_OK (zV b e D A X) mX12_state 0 31 vX12_state_31 := by
  unfold vX12_state_31
  exact s_iret hZ.1 rfl dX12_state_31
noncomputable def vX12_state_19 : rx_K := o_ld rx_isR 0 (o_getf 12 20 (o_getf 6 1 (o_getf 5 1 (o_ld rx_isI 1 (o_ald 0 (vX12_state_31))))))
set_option maxRecDepth 20000 in
theorem wX12_state_19 (hZ : zO b e D A X) : rx_OK (zV b e D A X) mX12_state 0 19 vX12_state_19 := by
  unfold vX12_state_19
  refine s_aload_n hZ.1 dX12_state_19 rfl ?_
  refine yg12_20 dX12_state_20 zw1623 ?_
  refine yg6_1 dX12_state_23 zw1475 ?_
  refine yg5_1 dX12_state_26 zw1353 ?_
  refine s_iload_n hZ.1 dX12_state_29 rfl ?_
  refine s_iald (tt := 0) rfl dX12_state_30 ?_
  exact (wX12_state_31 hZ)
noncomputable def vX12_state_15 : rx_K := o_const 34359738360 (vX12_state_31)
set_option maxRecDepth 20000 in
theorem wX12_state_15 (hZ : zO b e D A X) : rx_OK (zV b e D A X) mX12_state 0 15 vX12_state_15 := by
  unfold vX12_state_15
  refine s_iconst dX12_state_15 (by decide +kernel) ?_
  exact s_goto dX12_state_16 (by decide) (wX12_state_31 hZ)
noncomputable def vX12_state_4 : rx_K := o_ld rx_isI 1 (o_ld rx_isR 0 (o_getf 12 13 (o_getf 11 2 (o_c2 rx_lt vX12_state_19 vX12_state_15))))
set_option maxRecDepth 20000 in
theorem wX12_state_4 (hZ : zO b e D A X) : rx_OK (zV b e D A X) mX12_state 0 4 vX12_state_4 := by
  unfold vX12_state_4
  refine s_iload_n hZ.1 dX12_state_4 rfl ?_
  refine s_aload_n hZ.1 dX12_state_5 rfl ?_
  refine yg12_13 dX12_state_6 zw1616 ?_
  refine yg11_2 dX12_state_9 zw1261 ?_
  exact s_icmp_lt dX12_state_12 (by decide) (wX12_state_19 hZ) (wX12_state_15 hZ)
noncomputable def vX12_state_0 : rx_K := o_ld rx_isI 1 (o_c1 rx_lt vX12_state_15 vX12_state_4)
set_option maxRecDepth 20000 in
theorem wX12_state_0 (hZ : zO b e D A X) : rx_OK (zV b e D A X) mX12_state 0 0 vX12_state_0 := by
  unfold vX12_state_0
  refine s_iload_n hZ.1 dX12_state_0 rfl ?_
  exact s_if_lt dX12_state_1 (by decide) (wX12_state_15 hZ) (wX12_state_4 hZ)
noncomputable def FX12_state : List Nat → rx_H → Option (Nat × rx_H) := rx_ent 2 vX12_state_0
theorem Met_X12_state (hZ : zO b e D A X) : rx_Met (zV b e D A X) 0 yX12_state mX12_state (FX12_state) := rx_entry hZ.1 (wX12_state_0 hZ) (by decide +kernel) rfl (fun h => by cases h)
abbrev mX12_classOf : rx_M := (RX12, cX12_classOf, 2, (some .int), false)
theorem vy_X12_classOf : rx_Y (zV b e D A X) yX12_classOf mX12_classOf 1 := ⟨zw2895, zw413, by decide, by decide +kernel, by decide +kernel, by decide +kernel⟩
noncomputable def vX12_classOf_29 : rx_K := o_ret1 rx_isI
set_option maxRecDepth 20000 in
theorem wX12_classOf_29 (hZ : zO b e D A X) : rx_OK (zV b e D A X) mX12_classOf 0 29 vX12_classOf_29 := by
  unfold vX12_classOf_29
  exact s_iret hZ.1 rfl dX12_classOf_29
noncomputable def vX12_classOf_20 : rx_K := o_ld rx_isR 0 (o_getf 12 20 (o_getf 6 8 (o_ld rx_isI 1 (o_ald 0 (vX12_classOf_29)))))
set_option maxRecDepth 20000 in
theorem wX12_classOf_20 (hZ : zO b e D A X) : rx_OK (zV b e D A X) mX12_classOf 0 20 vX12_classOf_20 := by
  unfold vX12_classOf_20
  refine s_aload_n hZ.1 dX12_classOf_20 rfl ?_
  refine yg12_20 dX12_classOf_21 zw1623 ?_
  refine yg6_8 dX12_classOf_24 zw1484 ?_
  refine s_iload_n hZ.1 dX12_classOf_27 rfl ?_
  refine s_iald (tt := 0) rfl dX12_classOf_28 ?_
  exact (wX12_classOf_29 hZ)
noncomputable def vX12_classOf_16 : rx_K := o_const 34359738360 (vX12_classOf_29)
set_option maxRecDepth 20000 in
theorem wX12_classOf_16 (hZ : zO b e D A X) : rx_OK (zV b e D A X) mX12_classOf 0 16 vX12_classOf_16 := by
  unfold vX12_classOf_16
  refine s_iconst dX12_classOf_16 (by decide +kernel) ?_
  exact s_goto dX12_classOf_17 (by decide) (wX12_classOf_29 hZ)
noncomputable def vX12_classOf_5 : rx_K := o_ld rx_isI 1 (o_ld rx_isR 0 (o_getf 12 20 (o_getf 6 10 (o_c2 (fun h x y => rx_lt h y x) vX12_classOf_16 vX12_classOf_20))))
set_option maxRecDepth 20000 in
theorem wX12_classOf_5 (hZ : zO b e D A X) : rx_OK (zV b e D A X) mX12_classOf 0 5 vX12_classOf_5 := by
  unfold vX12_classOf_5
  refine s_iload_n hZ.1 dX12_classOf_5 rfl ?_
  refine s_aload_n hZ.1 dX12_classOf_6 rfl ?_
  refine yg12_20 dX12_classOf_7 zw1623 ?_
  refine yg6_10 dX12_classOf_10 zw1488 ?_
  exact s_icmp_le dX12_classOf_13 (by decide) (wX12_classOf_20 hZ) (wX12_classOf_16 hZ)
noncomputable def vX12_classOf_0 : rx_K := o_ld rx_isI 1 (o_const 8 (o_c2 rx_lt vX12_classOf_16 vX12_classOf_5))
set_option maxRecDepth 20000 in
theorem wX12_classOf_0 (hZ : zO b e D A X) : rx_OK (zV b e D A X) mX12_classOf 0 0 vX12_classOf_0 := by
  unfold vX12_classOf_0
  refine s_iload_n hZ.1 dX12_classOf_0 rfl ?_
  refine s_iconst dX12_classOf_1 (by decide +kernel) ?_
  exact s_icmp_lt dX12_classOf_2 (by decide) (wX12_classOf_16 hZ) (wX12_classOf_5 hZ)
noncomputable def FX12_classOf : List Nat → rx_H → Option (Nat × rx_H) := rx_ent 2 vX12_classOf_0
theorem Met_X12_classOf (hZ : zO b e D A X) : rx_Met (zV b e D A X) 0 yX12_classOf mX12_classOf (FX12_classOf) := rx_entry hZ.1 (wX12_classOf_0 hZ) (by decide +kernel) rfl (fun h => by cases h)
abbrev mX12_fieldOf : rx_M := (RX12, cX12_fieldOf, 3, (some .int), false)
theorem vy_X12_fieldOf : rx_Y (zV b e D A X) yX12_fieldOf mX12_fieldOf 2 := ⟨zw2899, zw413, by decide, by decide +kernel, by decide +kernel, by decide +kernel⟩
noncomputable def vX12_fieldOf_42 : rx_K := o_ld rx_isR 0 (o_getf 12 20 (o_getf 6 11 (o_ld rx_isR 0 (o_getf 12 20 (o_getf 6 9 (o_ld rx_isI 1 (o_ald 0 (o_ld rx_isI 2 (o_bi (fun x y => x + y) (o_ald 0 (o_ret1 rx_isI)))))))))))
set_option maxRecDepth 20000 in
theorem wX12_fieldOf_42 (hZ : zO b e D A X) : rx_OK (zV b e D A X) mX12_fieldOf 1 42 vX12_fieldOf_42 := by
  unfold vX12_fieldOf_42
  refine s_aload_n hZ.1 dX12_fieldOf_42 rfl ?_
  refine yg12_20 dX12_fieldOf_43 zw1623 ?_
  refine yg6_11 dX12_fieldOf_46 zw1490 ?_
  refine s_aload_n hZ.1 dX12_fieldOf_49 rfl ?_
  refine yg12_20 dX12_fieldOf_50 zw1623 ?_
  refine yg6_9 dX12_fieldOf_53 zw1486 ?_
  refine s_iload_n hZ.1 dX12_fieldOf_56 rfl ?_
  refine s_iald (tt := 0) rfl dX12_fieldOf_57 ?_
  refine s_iload_n hZ.1 dX12_fieldOf_58 rfl ?_
  refine s_iadd dX12_fieldOf_59 ?_
  refine s_iald (tt := 0) rfl dX12_fieldOf_60 ?_
  exact s_iret hZ.1 rfl dX12_fieldOf_61
noncomputable def vX12_fieldOf_40 : rx_K := o_const 0 (o_ret1 rx_isI)
set_option maxRecDepth 20000 in
theorem wX12_fieldOf_40 (hZ : zO b e D A X) : rx_OK (zV b e D A X) mX12_fieldOf 1 40 vX12_fieldOf_40 := by
  unfold vX12_fieldOf_40
  refine s_iconst dX12_fieldOf_40 (by decide +kernel) ?_
  exact s_iret hZ.1 rfl dX12_fieldOf_41
noncomputable def vX12_fieldOf_20 : rx_K := o_ld rx_isI 2 (o_ld rx_isR 0 (o_getf 12 20 (o_ld rx_isR 0 (o_getf 12 20 (o_getf 6 8 (o_ld rx_isI 1 (o_ald 0 (o_callV 1 6 FX6_slotsTo (o_c2 rx_lt vX12_fieldOf_42 vX12_fieldOf_40)))))))))
set_option maxRecDepth 20000 in
theorem wX12_fieldOf_20 (hZ : zO b e D A X) : rx_OK (zV b e D A X) mX12_fieldOf 1 20 vX12_fieldOf_20 := by
  unfold vX12_fieldOf_20
  refine s_iload_n hZ.1 dX12_fieldOf_20 rfl ?_
  refine s_aload_n hZ.1 dX12_fieldOf_21 rfl ?_
  refine yg12_20 dX12_fieldOf_22 zw1623 ?_
  refine s_aload_n hZ.1 dX12_fieldOf_25 rfl ?_
  refine yg12_20 dX12_fieldOf_26 zw1623 ?_
  refine yg6_8 dX12_fieldOf_29 zw1484 ?_
  refine s_iload_n hZ.1 dX12_fieldOf_32 rfl ?_
  refine s_iald (tt := 0) rfl dX12_fieldOf_33 ?_
  refine s_callV hZ.1 (Met_X6_slotsTo hZ) (Nat.le_of_ble_eq_true rfl) vy_X6_slotsTo zcl6 zw2821 zw2822 (Or.inl zw2900) dX12_fieldOf_34 ?_
  exact s_icmp_lt dX12_fieldOf_37 (by decide) (wX12_fieldOf_42 hZ) (wX12_fieldOf_40 hZ)
noncomputable def vX12_fieldOf_16 : rx_K := o_ld rx_isI 2 (o_c1 rx_lt vX12_fieldOf_40 vX12_fieldOf_20)
set_option maxRecDepth 20000 in
theorem wX12_fieldOf_16 (hZ : zO b e D A X) : rx_OK (zV b e D A X) mX12_fieldOf 1 16 vX12_fieldOf_16 := by
  unfold vX12_fieldOf_16
  refine s_iload_n hZ.1 dX12_fieldOf_16 rfl ?_
  exact s_if_lt dX12_fieldOf_17 (by decide) (wX12_fieldOf_40 hZ) (wX12_fieldOf_20 hZ)
noncomputable def vX12_fieldOf_5 : rx_K := o_ld rx_isI 1 (o_ld rx_isR 0 (o_getf 12 20 (o_getf 6 10 (o_c2 (fun h x y => rx_lt h y x) vX12_fieldOf_40 vX12_fieldOf_16))))
set_option maxRecDepth 20000 in
theorem wX12_fieldOf_5 (hZ : zO b e D A X) : rx_OK (zV b e D A X) mX12_fieldOf 1 5 vX12_fieldOf_5 := by
  unfold vX12_fieldOf_5
  refine s_iload_n hZ.1 dX12_fieldOf_5 rfl ?_
  refine s_aload_n hZ.1 dX12_fieldOf_6 rfl ?_
  refine yg12_20 dX12_fieldOf_7 zw1623 ?_
  refine yg6_10 dX12_fieldOf_10 zw1488 ?_
  exact s_icmp_gt dX12_fieldOf_13 (by decide) (wX12_fieldOf_40 hZ) (wX12_fieldOf_16 hZ)
noncomputable def vX12_fieldOf_0 : rx_K := o_ld rx_isI 1 (o_const 8 (o_c2 rx_lt vX12_fieldOf_40 vX12_fieldOf_5))
set_option maxRecDepth 20000 in
theorem wX12_fieldOf_0 (hZ : zO b e D A X) : rx_OK (zV b e D A X) mX12_fieldOf 1 0 vX12_fieldOf_0 := by
  unfold vX12_fieldOf_0
  refine s_iload_n hZ.1 dX12_fieldOf_0 rfl ?_
  refine s_iconst dX12_fieldOf_1 (by decide +kernel) ?_
  exact s_icmp_lt dX12_fieldOf_2 (by decide) (wX12_fieldOf_40 hZ) (wX12_fieldOf_5 hZ)
noncomputable def FX12_fieldOf : List Nat → rx_H → Option (Nat × rx_H) := rx_ent 3 vX12_fieldOf_0
theorem Met_X12_fieldOf (hZ : zO b e D A X) : rx_Met (zV b e D A X) 1 yX12_fieldOf mX12_fieldOf (FX12_fieldOf) := rx_entry hZ.1 (wX12_fieldOf_0 hZ) (by decide +kernel) rfl (fun h => by cases h)
end ZM34

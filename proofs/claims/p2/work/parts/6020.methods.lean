section ZM20
variable {b : Nat} {e : Nat → Value} {D : va_G} {A : Nat → ClassId} {X : State → Prop}
abbrev mX10_hasRunning : rx_M := (RX10, cX10_hasRunning, 3, (some .boolean), false)
theorem vy_X10_hasRunning : rx_Y (zV b e D A X) yX10_hasRunning mX10_hasRunning 0 := ⟨zw2783, zw425, by decide, by decide +kernel, by decide +kernel, by decide +kernel⟩
noncomputable def vX10_hasRunning_47 (j : Nat → rx_K) : rx_K := o_const 0 (o_ret1 rx_isZ)
set_option maxRecDepth 20000 in
theorem wX10_hasRunning_47 (hZ : zO b e D A X) (j : Nat → rx_K) (hj : ∀ k pc, [2][k]? = some pc → rx_OK (zV b e D A X) mX10_hasRunning 0 pc (j k)) : rx_OK (zV b e D A X) mX10_hasRunning 0 47 (vX10_hasRunning_47 j) := by
  unfold vX10_hasRunning_47
  refine s_iconst dX10_hasRunning_47 (by decide +kernel) ?_
  exact s_zret rx_z_ok rfl dX10_hasRunning_48
noncomputable def vX10_hasRunning_41 (j : Nat → rx_K) : rx_K := o_inc 1 (1) ((j 0))
set_option maxRecDepth 20000 in
theorem wX10_hasRunning_41 (hZ : zO b e D A X) (j : Nat → rx_K) (hj : ∀ k pc, [2][k]? = some pc → rx_OK (zV b e D A X) mX10_hasRunning 0 pc (j k)) : rx_OK (zV b e D A X) mX10_hasRunning 0 41 (vX10_hasRunning_41 j) := by
  unfold vX10_hasRunning_41
  refine s_iinc hZ.1 dX10_hasRunning_41 (Nat.le_of_ble_eq_true rfl) ?_
  exact s_goto dX10_hasRunning_44 (by decide) (hj 0 2 rfl)
noncomputable def vX10_hasRunning_39 (j : Nat → rx_K) : rx_K := o_const 8 (o_ret1 rx_isZ)
set_option maxRecDepth 20000 in
theorem wX10_hasRunning_39 (hZ : zO b e D A X) (j : Nat → rx_K) (hj : ∀ k pc, [2][k]? = some pc → rx_OK (zV b e D A X) mX10_hasRunning 0 pc (j k)) : rx_OK (zV b e D A X) mX10_hasRunning 0 39 (vX10_hasRunning_39 j) := by
  unfold vX10_hasRunning_39
  refine s_iconst dX10_hasRunning_39 (by decide +kernel) ?_
  exact s_zret rx_z_ok rfl dX10_hasRunning_40
noncomputable def vX10_hasRunning_32 (j : Nat → rx_K) : rx_K := o_ld rx_isR 2 (o_getf 7 2 (o_c1 rx_eq (vX10_hasRunning_39 j) (vX10_hasRunning_41 j)))
set_option maxRecDepth 20000 in
theorem wX10_hasRunning_32 (hZ : zO b e D A X) (j : Nat → rx_K) (hj : ∀ k pc, [2][k]? = some pc → rx_OK (zV b e D A X) mX10_hasRunning 0 pc (j k)) : rx_OK (zV b e D A X) mX10_hasRunning 0 32 (vX10_hasRunning_32 j) := by
  unfold vX10_hasRunning_32
  refine s_aload_n hZ.1 dX10_hasRunning_32 rfl ?_
  refine yg7_2 dX10_hasRunning_33 zw968 ?_
  exact s_if_ne dX10_hasRunning_36 (by decide) (wX10_hasRunning_41 hZ j hj) (wX10_hasRunning_39 hZ j hj)
noncomputable def vX10_hasRunning_25 (j : Nat → rx_K) : rx_K := o_ld rx_isR 2 (o_getf 7 4 (o_c1 rx_eq (vX10_hasRunning_32 j) (vX10_hasRunning_41 j)))
set_option maxRecDepth 20000 in
theorem wX10_hasRunning_25 (hZ : zO b e D A X) (j : Nat → rx_K) (hj : ∀ k pc, [2][k]? = some pc → rx_OK (zV b e D A X) mX10_hasRunning 0 pc (j k)) : rx_OK (zV b e D A X) mX10_hasRunning 0 25 (vX10_hasRunning_25 j) := by
  unfold vX10_hasRunning_25
  refine s_aload_n hZ.1 dX10_hasRunning_25 rfl ?_
  refine yg7_4 dX10_hasRunning_26 zw982 ?_
  exact s_if_ne dX10_hasRunning_29 (by decide) (wX10_hasRunning_41 hZ j hj) (wX10_hasRunning_32 hZ j hj)
noncomputable def vX10_hasRunning_10 (j : Nat → rx_K) : rx_K := o_ld rx_isR 0 (o_getf 10 14 (o_ld rx_isI 1 (o_ald 5 (o_st rx_isR 2 (o_ld rx_isR 2 (o_getf 7 0 (o_const 8 (o_c2 rx_eq (vX10_hasRunning_25 j) (vX10_hasRunning_41 j)))))))))
set_option maxRecDepth 20000 in
theorem wX10_hasRunning_10 (hZ : zO b e D A X) (j : Nat → rx_K) (hj : ∀ k pc, [2][k]? = some pc → rx_OK (zV b e D A X) mX10_hasRunning 0 pc (j k)) : rx_OK (zV b e D A X) mX10_hasRunning 0 10 (vX10_hasRunning_10 j) := by
  unfold vX10_hasRunning_10
  refine s_aload_n hZ.1 dX10_hasRunning_10 rfl ?_
  refine yg10_14 dX10_hasRunning_11 zw858 ?_
  refine s_iload_n hZ.1 dX10_hasRunning_14 rfl ?_
  refine s_aald (tt := 5) rfl rfl dX10_hasRunning_15 ?_
  refine s_astore_n hZ.1 dX10_hasRunning_16 rfl (Nat.le_of_ble_eq_true rfl) ?_
  refine s_aload_n hZ.1 dX10_hasRunning_17 rfl ?_
  refine yg7_0 dX10_hasRunning_18 zw947 ?_
  refine s_iconst dX10_hasRunning_21 (by decide +kernel) ?_
  exact s_icmp_ne dX10_hasRunning_22 (by decide) (wX10_hasRunning_41 hZ j hj) (wX10_hasRunning_25 hZ j hj)
noncomputable def vX10_hasRunning_2 (j : Nat → rx_K) : rx_K := o_ld rx_isI 1 (o_ld rx_isR 0 (o_getf 10 15 (o_c2 rx_lt (vX10_hasRunning_10 j) (vX10_hasRunning_47 j))))
set_option maxRecDepth 20000 in
theorem wX10_hasRunning_2 (hZ : zO b e D A X) (j : Nat → rx_K) (hj : ∀ k pc, [2][k]? = some pc → rx_OK (zV b e D A X) mX10_hasRunning 0 pc (j k)) : rx_OK (zV b e D A X) mX10_hasRunning 0 2 (vX10_hasRunning_2 j) := by
  unfold vX10_hasRunning_2
  refine s_iload_n hZ.1 dX10_hasRunning_2 rfl ?_
  refine s_aload_n hZ.1 dX10_hasRunning_3 rfl ?_
  refine yg10_15 dX10_hasRunning_4 zw866 ?_
  exact s_icmp_ge dX10_hasRunning_7 (by decide) (wX10_hasRunning_47 hZ j hj) (wX10_hasRunning_10 hZ j hj)
noncomputable def vX10_hasRunning_0 (j : Nat → rx_K) : rx_K := o_const 0 (o_st rx_isI 1 ((vX10_hasRunning_2 j)))
set_option maxRecDepth 20000 in
theorem wX10_hasRunning_0 (hZ : zO b e D A X) (j : Nat → rx_K) (hj : ∀ k pc, [2][k]? = some pc → rx_OK (zV b e D A X) mX10_hasRunning 0 pc (j k)) : rx_OK (zV b e D A X) mX10_hasRunning 0 0 (vX10_hasRunning_0 j) := by
  unfold vX10_hasRunning_0
  refine s_iconst dX10_hasRunning_0 (by decide +kernel) ?_
  refine s_istore_n hZ.1 dX10_hasRunning_1 rfl (Nat.le_of_ble_eq_true rfl) ?_
  exact (wX10_hasRunning_2 hZ j hj)
noncomputable def vhX10_hasRunning (j : Nat → rx_K) : List rx_K := [vX10_hasRunning_2 j]
theorem vlX10_hasRunning (hZ : zO b e D A X) : ∀ n k pc, [2][k]? = some pc → rx_OK (zV b e D A X) mX10_hasRunning 0 pc (rx_J (vhX10_hasRunning) n k) := rx_loop fun j hj k pc h => by
  match k, h with
  | 0, h =>
    have e9 := Option.some.inj (show some 2 = some pc from h)
    subst e9
    exact wX10_hasRunning_2 hZ j hj
  | _ + 1, h => exact absurd h (by simp)
noncomputable def FX10_hasRunning : List Nat → rx_H → Option (Nat × rx_H) := rx_ent 3 (vX10_hasRunning_0 (rx_J (vhX10_hasRunning) 4000000000))
theorem Met_X10_hasRunning (hZ : zO b e D A X) : rx_Met (zV b e D A X) 0 yX10_hasRunning mX10_hasRunning (FX10_hasRunning) := rx_entry hZ.1 (wX10_hasRunning_0 hZ _ (vlX10_hasRunning hZ 4000000000)) (by decide +kernel) rfl (fun h => by cases h)
abbrev mX6_startedFace : rx_M := (RX6, cX6_startedFace, 13, (some .int), false)
theorem vy_X6_startedFace : rx_Y (zV b e D A X) yX6_startedFace mX6_startedFace 2 := ⟨zw2778, zw430, by decide, by decide +kernel, by decide +kernel, by decide +kernel⟩
noncomputable def vX6_startedFace_240 (j : Nat → rx_K) : rx_K := o_const 34359738352 (o_ret1 rx_isI)
set_option maxRecDepth 20000 in
theorem wX6_startedFace_240 (hZ : zO b e D A X) (j : Nat → rx_K) (hj : ∀ k pc, [54][k]? = some pc → rx_OK (zV b e D A X) mX6_startedFace 1 pc (j k)) : rx_OK (zV b e D A X) mX6_startedFace 1 240 (vX6_startedFace_240 j) := by
  unfold vX6_startedFace_240
  refine s_bipush dX6_startedFace_240 (by decide +kernel) ?_
  exact s_iret hZ.1 rfl dX6_startedFace_242
noncomputable def vX6_startedFace_234 (j : Nat → rx_K) : rx_K := o_inc 8 (1) ((j 0))
set_option maxRecDepth 20000 in
theorem wX6_startedFace_234 (hZ : zO b e D A X) (j : Nat → rx_K) (hj : ∀ k pc, [54][k]? = some pc → rx_OK (zV b e D A X) mX6_startedFace 1 pc (j k)) : rx_OK (zV b e D A X) mX6_startedFace 1 234 (vX6_startedFace_234 j) := by
  unfold vX6_startedFace_234
  refine s_iinc hZ.1 dX6_startedFace_234 (Nat.le_of_ble_eq_true rfl) ?_
  exact s_goto dX6_startedFace_237 (by decide) (hj 0 54 rfl)
noncomputable def vX6_startedFace_203 (j : Nat → rx_K) : rx_K := o_ld rx_isL 3 (o_const 9 (o_ld rx_isI 12 (o_bs (fun x y => x <<< (y.toInt64 &&& 63)) (o_bl (fun x y => x ||| y) (o_stL 3 (o_ld rx_isR 0 (o_getf 6 2 (o_ld rx_isI 9 (o_const 16 (o_bi (fun x y => x + y) (o_ld rx_isI 12 (o_ast 0 (fun v => v) rx_isI (o_ld rx_isR 0 (o_getf 6 2 (o_ld rx_isI 9 (o_const 24 (o_bi (fun x y => x + y) (o_const 0 (o_ast 0 (fun v => v) rx_isI (o_inc 6 (1) ((vX6_startedFace_234 j))))))))))))))))))))))
set_option maxRecDepth 20000 in
theorem wX6_startedFace_203 (hZ : zO b e D A X) (j : Nat → rx_K) (hj : ∀ k pc, [54][k]? = some pc → rx_OK (zV b e D A X) mX6_startedFace 1 pc (j k)) : rx_OK (zV b e D A X) mX6_startedFace 1 203 (vX6_startedFace_203 j) := by
  unfold vX6_startedFace_203
  refine s_lload_n hZ.1 dX6_startedFace_203 rfl ?_
  refine s_lconst dX6_startedFace_204 (by decide +kernel) ?_
  refine s_iload hZ.1 dX6_startedFace_205 ?_
  refine s_lshl dX6_startedFace_207 ?_
  refine s_lor dX6_startedFace_208 ?_
  refine s_lstore_n hZ.1 dX6_startedFace_209 rfl (Nat.le_of_ble_eq_true rfl) ?_
  refine s_aload_n hZ.1 dX6_startedFace_210 rfl ?_
  refine yg6_2 dX6_startedFace_211 zw1476 ?_
  refine s_iload hZ.1 dX6_startedFace_214 ?_
  refine s_iconst dX6_startedFace_216 (by decide +kernel) ?_
  refine s_iadd dX6_startedFace_217 ?_
  refine s_iload hZ.1 dX6_startedFace_218 ?_
  refine s_iast hZ.1 (tt := 0) rfl dX6_startedFace_220 ?_
  refine s_aload_n hZ.1 dX6_startedFace_221 rfl ?_
  refine yg6_2 dX6_startedFace_222 zw1476 ?_
  refine s_iload hZ.1 dX6_startedFace_225 ?_
  refine s_iconst dX6_startedFace_227 (by decide +kernel) ?_
  refine s_iadd dX6_startedFace_228 ?_
  refine s_iconst dX6_startedFace_229 (by decide +kernel) ?_
  refine s_iast hZ.1 (tt := 0) rfl dX6_startedFace_230 ?_
  refine s_iinc hZ.1 dX6_startedFace_231 (Nat.le_of_ble_eq_true rfl) ?_
  exact (wX6_startedFace_234 hZ j hj)
noncomputable def vX6_startedFace_192 (j : Nat → rx_K) : rx_K := o_ld rx_isL 3 (o_ld rx_isI 12 (o_bs (fun x y => (x.toUInt64 >>> (y.toInt64.toUInt64 &&& Int64.toUInt64 63)).toInt64) (o_const 9 (o_bl (fun x y => x &&& y) (o_const 1 (o_bc (fun x y => lg_cmp x y) (o_c1 rx_eq (vX6_startedFace_203 j) (vX6_startedFace_234 j))))))))
set_option maxRecDepth 20000 in
theorem wX6_startedFace_192 (hZ : zO b e D A X) (j : Nat → rx_K) (hj : ∀ k pc, [54][k]? = some pc → rx_OK (zV b e D A X) mX6_startedFace 1 pc (j k)) : rx_OK (zV b e D A X) mX6_startedFace 1 192 (vX6_startedFace_192 j) := by
  unfold vX6_startedFace_192
  refine s_lload_n hZ.1 dX6_startedFace_192 rfl ?_
  refine s_iload hZ.1 dX6_startedFace_193 ?_
  refine s_lushr dX6_startedFace_195 ?_
  refine s_lconst dX6_startedFace_196 (by decide +kernel) ?_
  refine s_land dX6_startedFace_197 ?_
  refine s_lconst dX6_startedFace_198 (by decide +kernel) ?_
  refine s_lcmp dX6_startedFace_199 ?_
  exact s_if_ne dX6_startedFace_200 (by decide) (wX6_startedFace_234 hZ j hj) (wX6_startedFace_203 hZ j hj)
noncomputable def vX6_startedFace_187 (j : Nat → rx_K) : rx_K := o_ld rx_isI 12 (o_c1 rx_lt (vX6_startedFace_234 j) (vX6_startedFace_192 j))
set_option maxRecDepth 20000 in
theorem wX6_startedFace_187 (hZ : zO b e D A X) (j : Nat → rx_K) (hj : ∀ k pc, [54][k]? = some pc → rx_OK (zV b e D A X) mX6_startedFace 1 pc (j k)) : rx_OK (zV b e D A X) mX6_startedFace 1 187 (vX6_startedFace_187 j) := by
  unfold vX6_startedFace_187
  refine s_iload hZ.1 dX6_startedFace_187 ?_
  exact s_if_lt dX6_startedFace_189 (by decide) (wX6_startedFace_234 hZ j hj) (wX6_startedFace_192 hZ j hj)
noncomputable def vX6_startedFace_184 (j : Nat → rx_K) : rx_K := o_ld rx_isI 10 (o_ret1 rx_isI)
set_option maxRecDepth 20000 in
theorem wX6_startedFace_184 (hZ : zO b e D A X) (j : Nat → rx_K) (hj : ∀ k pc, [54][k]? = some pc → rx_OK (zV b e D A X) mX6_startedFace 1 pc (j k)) : rx_OK (zV b e D A X) mX6_startedFace 1 184 (vX6_startedFace_184 j) := by
  unfold vX6_startedFace_184
  refine s_iload hZ.1 dX6_startedFace_184 ?_
  exact s_iret hZ.1 rfl dX6_startedFace_186
noncomputable def vX6_startedFace_176 (j : Nat → rx_K) : rx_K := o_bi (fun x y => x - y) (o_st rx_isI 5 (o_ld rx_isI 5 (o_c1 rx_eq (vX6_startedFace_184 j) (vX6_startedFace_234 j))))
set_option maxRecDepth 20000 in
theorem wX6_startedFace_176 (hZ : zO b e D A X) (j : Nat → rx_K) (hj : ∀ k pc, [54][k]? = some pc → rx_OK (zV b e D A X) mX6_startedFace 1 pc (j k)) : rx_OK (zV b e D A X) mX6_startedFace 1 176 (vX6_startedFace_176 j) := by
  unfold vX6_startedFace_176
  refine s_isub dX6_startedFace_176 ?_
  refine s_istore hZ.1 dX6_startedFace_177 (Nat.le_of_ble_eq_true rfl) ?_
  refine s_iload hZ.1 dX6_startedFace_179 ?_
  exact s_if_ne dX6_startedFace_181 (by decide) (wX6_startedFace_234 hZ j hj) (wX6_startedFace_184 hZ j hj)
noncomputable def vX6_startedFace_175 (j : Nat → rx_K) : rx_K := o_const 0 ((vX6_startedFace_176 j))
set_option maxRecDepth 20000 in
theorem wX6_startedFace_175 (hZ : zO b e D A X) (j : Nat → rx_K) (hj : ∀ k pc, [54][k]? = some pc → rx_OK (zV b e D A X) mX6_startedFace 1 pc (j k)) : rx_OK (zV b e D A X) mX6_startedFace 1 175 (vX6_startedFace_175 j) := by
  unfold vX6_startedFace_175
  refine s_iconst dX6_startedFace_175 (by decide +kernel) ?_
  exact (wX6_startedFace_176 hZ j hj)
noncomputable def vX6_startedFace_171 (j : Nat → rx_K) : rx_K := o_const 8 ((vX6_startedFace_176 j))
set_option maxRecDepth 20000 in
theorem wX6_startedFace_171 (hZ : zO b e D A X) (j : Nat → rx_K) (hj : ∀ k pc, [54][k]? = some pc → rx_OK (zV b e D A X) mX6_startedFace 1 pc (j k)) : rx_OK (zV b e D A X) mX6_startedFace 1 171 (vX6_startedFace_171 j) := by
  unfold vX6_startedFace_171
  refine s_iconst dX6_startedFace_171 (by decide +kernel) ?_
  exact s_goto dX6_startedFace_172 (by decide) (wX6_startedFace_176 hZ j hj)
noncomputable def vX6_startedFace_155 (j : Nat → rx_K) : rx_K := o_ld rx_isR 0 (o_getf 6 0 (o_getf 11 1 (o_ld rx_isI 10 (o_ald 4 (o_callV 0 10 FX10_hasRunning (o_c1 rx_eq (vX6_startedFace_175 j) (vX6_startedFace_171 j)))))))
set_option maxRecDepth 20000 in
theorem wX6_startedFace_155 (hZ : zO b e D A X) (j : Nat → rx_K) (hj : ∀ k pc, [54][k]? = some pc → rx_OK (zV b e D A X) mX6_startedFace 1 pc (j k)) : rx_OK (zV b e D A X) mX6_startedFace 1 155 (vX6_startedFace_155 j) := by
  unfold vX6_startedFace_155
  refine s_aload_n hZ.1 dX6_startedFace_155 rfl ?_
  refine yg6_0 dX6_startedFace_156 zw1473 ?_
  refine yg11_1 dX6_startedFace_159 zw1255 ?_
  refine s_iload hZ.1 dX6_startedFace_162 ?_
  refine s_aald (tt := 4) rfl rfl dX6_startedFace_164 ?_
  refine s_callV hZ.1 (Met_X10_hasRunning hZ) (Nat.le_of_ble_eq_true rfl) vy_X10_hasRunning zcl10 zw2781 zw2782 (Or.inl zw2780) dX6_startedFace_165 ?_
  exact s_if_eq dX6_startedFace_168 (by decide) (wX6_startedFace_175 hZ j hj) (wX6_startedFace_171 hZ j hj)
noncomputable def vX6_startedFace_144 (j : Nat → rx_K) : rx_K := o_inc 6 (-1) (o_ld rx_isI 5 (o_ld rx_isI 10 (o_ld rx_isI 1 (o_c2 rx_eq (vX6_startedFace_175 j) (vX6_startedFace_155 j)))))
set_option maxRecDepth 20000 in
theorem wX6_startedFace_144 (hZ : zO b e D A X) (j : Nat → rx_K) (hj : ∀ k pc, [54][k]? = some pc → rx_OK (zV b e D A X) mX6_startedFace 1 pc (j k)) : rx_OK (zV b e D A X) mX6_startedFace 1 144 (vX6_startedFace_144 j) := by
  unfold vX6_startedFace_144
  refine s_iinc hZ.1 dX6_startedFace_144 (Nat.le_of_ble_eq_true rfl) ?_
  refine s_iload hZ.1 dX6_startedFace_147 ?_
  refine s_iload hZ.1 dX6_startedFace_149 ?_
  refine s_iload_n hZ.1 dX6_startedFace_151 rfl ?_
  exact s_icmp_eq dX6_startedFace_152 (by decide) (wX6_startedFace_175 hZ j hj) (wX6_startedFace_155 hZ j hj)
noncomputable def vX6_startedFace_136 (j : Nat → rx_K) : rx_K := o_st rx_isI 12 (o_ld rx_isI 11 (o_const 32 (o_c2 rx_lt (vX6_startedFace_187 j) (vX6_startedFace_144 j))))
set_option maxRecDepth 20000 in
theorem wX6_startedFace_136 (hZ : zO b e D A X) (j : Nat → rx_K) (hj : ∀ k pc, [54][k]? = some pc → rx_OK (zV b e D A X) mX6_startedFace 1 pc (j k)) : rx_OK (zV b e D A X) mX6_startedFace 1 136 (vX6_startedFace_136 j) := by
  unfold vX6_startedFace_136
  refine s_istore hZ.1 dX6_startedFace_136 (Nat.le_of_ble_eq_true rfl) ?_
  refine s_iload hZ.1 dX6_startedFace_138 ?_
  refine s_iconst dX6_startedFace_140 (by decide +kernel) ?_
  exact s_icmp_lt dX6_startedFace_141 (by decide) (wX6_startedFace_187 hZ j hj) (wX6_startedFace_144 hZ j hj)
noncomputable def vX6_startedFace_134 (j : Nat → rx_K) : rx_K := o_const 34359738352 ((vX6_startedFace_136 j))
set_option maxRecDepth 20000 in
theorem wX6_startedFace_134 (hZ : zO b e D A X) (j : Nat → rx_K) (hj : ∀ k pc, [54][k]? = some pc → rx_OK (zV b e D A X) mX6_startedFace 1 pc (j k)) : rx_OK (zV b e D A X) mX6_startedFace 1 134 (vX6_startedFace_134 j) := by
  unfold vX6_startedFace_134
  refine s_bipush dX6_startedFace_134 (by decide +kernel) ?_
  exact (wX6_startedFace_136 hZ j hj)
noncomputable def vX6_startedFace_116 (j : Nat → rx_K) : rx_K := o_ld rx_isR 0 (o_getf 6 0 (o_getf 11 5 (o_ld rx_isI 10 (o_const 32 (o_bi (fun x y => x * y) (o_ld rx_isI 11 (o_bi (fun x y => x + y) (o_ald 0 ((vX6_startedFace_136 j))))))))))
set_option maxRecDepth 20000 in
theorem wX6_startedFace_116 (hZ : zO b e D A X) (j : Nat → rx_K) (hj : ∀ k pc, [54][k]? = some pc → rx_OK (zV b e D A X) mX6_startedFace 1 pc (j k)) : rx_OK (zV b e D A X) mX6_startedFace 1 116 (vX6_startedFace_116 j) := by
  unfold vX6_startedFace_116
  refine s_aload_n hZ.1 dX6_startedFace_116 rfl ?_
  refine yg6_0 dX6_startedFace_117 zw1473 ?_
  refine yg11_5 dX6_startedFace_120 zw1274 ?_
  refine s_iload hZ.1 dX6_startedFace_123 ?_
  refine s_iconst dX6_startedFace_125 (by decide +kernel) ?_
  refine s_imul dX6_startedFace_126 ?_
  refine s_iload hZ.1 dX6_startedFace_127 ?_
  refine s_iadd dX6_startedFace_129 ?_
  refine s_iald (tt := 0) rfl dX6_startedFace_130 ?_
  exact s_goto dX6_startedFace_131 (by decide) (wX6_startedFace_136 hZ j hj)
noncomputable def vX6_startedFace_104 (j : Nat → rx_K) : rx_K := o_bi (fun x y => x + y) (o_dup2 (o_ald 0 (o_const 8 (o_bi (fun x y => x + y) (o_ast 0 (fun v => v) rx_isI (o_ld rx_isI 11 (o_const 32 (o_c2 rx_lt (vX6_startedFace_116 j) (vX6_startedFace_134 j)))))))))
set_option maxRecDepth 20000 in
theorem wX6_startedFace_104 (hZ : zO b e D A X) (j : Nat → rx_K) (hj : ∀ k pc, [54][k]? = some pc → rx_OK (zV b e D A X) mX6_startedFace 1 pc (j k)) : rx_OK (zV b e D A X) mX6_startedFace 1 104 (vX6_startedFace_104 j) := by
  unfold vX6_startedFace_104
  refine s_iadd dX6_startedFace_104 ?_
  refine s_dup2 hZ.1 dX6_startedFace_105 ?_
  refine s_iald (tt := 0) rfl dX6_startedFace_106 ?_
  refine s_iconst dX6_startedFace_107 (by decide +kernel) ?_
  refine s_iadd dX6_startedFace_108 ?_
  refine s_iast hZ.1 (tt := 0) rfl dX6_startedFace_109 ?_
  refine s_iload hZ.1 dX6_startedFace_110 ?_
  refine s_iconst dX6_startedFace_112 (by decide +kernel) ?_
  exact s_icmp_ge dX6_startedFace_113 (by decide) (wX6_startedFace_134 hZ j hj) (wX6_startedFace_116 hZ j hj)
noncomputable def vX6_startedFace_66 (j : Nat → rx_K) : rx_K := o_ld rx_isI 7 (o_const 16 (o_ld rx_isI 6 (o_const 8 (o_bi (fun x y => x - y) (o_bi (fun x y => x * y) (o_bi (fun x y => x + y) (o_st rx_isI 9 (o_ld rx_isR 0 (o_getf 6 2 (o_ld rx_isI 9 (o_ald 0 (o_st rx_isI 10 (o_ld rx_isR 0 (o_getf 6 2 (o_ld rx_isI 9 (o_const 8 (o_bi (fun x y => x + y) (o_ald 0 (o_st rx_isI 11 (o_ld rx_isR 0 (o_getf 6 2 (o_ld rx_isI 9 (o_const 8 ((vX6_startedFace_104 j)))))))))))))))))))))))))
set_option maxRecDepth 20000 in
theorem wX6_startedFace_66 (hZ : zO b e D A X) (j : Nat → rx_K) (hj : ∀ k pc, [54][k]? = some pc → rx_OK (zV b e D A X) mX6_startedFace 1 pc (j k)) : rx_OK (zV b e D A X) mX6_startedFace 1 66 (vX6_startedFace_66 j) := by
  unfold vX6_startedFace_66
  refine s_iload hZ.1 dX6_startedFace_66 ?_
  refine s_iconst dX6_startedFace_68 (by decide +kernel) ?_
  refine s_iload hZ.1 dX6_startedFace_69 ?_
  refine s_iconst dX6_startedFace_71 (by decide +kernel) ?_
  refine s_isub dX6_startedFace_72 ?_
  refine s_imul dX6_startedFace_73 ?_
  refine s_iadd dX6_startedFace_74 ?_
  refine s_istore hZ.1 dX6_startedFace_75 (Nat.le_of_ble_eq_true rfl) ?_
  refine s_aload_n hZ.1 dX6_startedFace_77 rfl ?_
  refine yg6_2 dX6_startedFace_78 zw1476 ?_
  refine s_iload hZ.1 dX6_startedFace_81 ?_
  refine s_iald (tt := 0) rfl dX6_startedFace_83 ?_
  refine s_istore hZ.1 dX6_startedFace_84 (Nat.le_of_ble_eq_true rfl) ?_
  refine s_aload_n hZ.1 dX6_startedFace_86 rfl ?_
  refine yg6_2 dX6_startedFace_87 zw1476 ?_
  refine s_iload hZ.1 dX6_startedFace_90 ?_
  refine s_iconst dX6_startedFace_92 (by decide +kernel) ?_
  refine s_iadd dX6_startedFace_93 ?_
  refine s_iald (tt := 0) rfl dX6_startedFace_94 ?_
  refine s_istore hZ.1 dX6_startedFace_95 (Nat.le_of_ble_eq_true rfl) ?_
  refine s_aload_n hZ.1 dX6_startedFace_97 rfl ?_
  refine yg6_2 dX6_startedFace_98 zw1476 ?_
  refine s_iload hZ.1 dX6_startedFace_101 ?_
  refine s_iconst dX6_startedFace_103 (by decide +kernel) ?_
  exact (wX6_startedFace_104 hZ j hj)
noncomputable def vX6_startedFace_61 (j : Nat → rx_K) : rx_K := o_ld rx_isI 6 (o_c1 (fun h x y => rx_lt h y x) (vX6_startedFace_66 j) (vX6_startedFace_240 j))
set_option maxRecDepth 20000 in
theorem wX6_startedFace_61 (hZ : zO b e D A X) (j : Nat → rx_K) (hj : ∀ k pc, [54][k]? = some pc → rx_OK (zV b e D A X) mX6_startedFace 1 pc (j k)) : rx_OK (zV b e D A X) mX6_startedFace 1 61 (vX6_startedFace_61 j) := by
  unfold vX6_startedFace_61
  refine s_iload hZ.1 dX6_startedFace_61 ?_
  exact s_if_le dX6_startedFace_63 (by decide) (wX6_startedFace_240 hZ j hj) (wX6_startedFace_66 hZ j hj)
noncomputable def vX6_startedFace_54 (j : Nat → rx_K) : rx_K := o_ld rx_isI 8 (o_const 800000000 (o_c2 rx_lt (vX6_startedFace_61 j) (vX6_startedFace_240 j)))
set_option maxRecDepth 20000 in
theorem wX6_startedFace_54 (hZ : zO b e D A X) (j : Nat → rx_K) (hj : ∀ k pc, [54][k]? = some pc → rx_OK (zV b e D A X) mX6_startedFace 1 pc (j k)) : rx_OK (zV b e D A X) mX6_startedFace 1 54 (vX6_startedFace_54 j) := by
  unfold vX6_startedFace_54
  refine s_iload hZ.1 dX6_startedFace_54 ?_
  refine s_ldc dX6_startedFace_56 zw2779 (by decide +kernel) ?_
  exact s_icmp_ge dX6_startedFace_58 (by decide) (wX6_startedFace_240 hZ j hj) (wX6_startedFace_61 hZ j hj)
noncomputable def vX6_startedFace_33 (j : Nat → rx_K) : rx_K := o_ld rx_isR 0 (o_getf 6 2 (o_ld rx_isI 7 (o_ld rx_isI 1 (o_ast 0 (fun v => v) rx_isI (o_ld rx_isR 0 (o_getf 6 2 (o_ld rx_isI 7 (o_const 8 (o_bi (fun x y => x + y) (o_const 0 (o_ast 0 (fun v => v) rx_isI (o_const 0 (o_st rx_isI 8 ((vX6_startedFace_54 j)))))))))))))))
set_option maxRecDepth 20000 in
theorem wX6_startedFace_33 (hZ : zO b e D A X) (j : Nat → rx_K) (hj : ∀ k pc, [54][k]? = some pc → rx_OK (zV b e D A X) mX6_startedFace 1 pc (j k)) : rx_OK (zV b e D A X) mX6_startedFace 1 33 (vX6_startedFace_33 j) := by
  unfold vX6_startedFace_33
  refine s_aload_n hZ.1 dX6_startedFace_33 rfl ?_
  refine yg6_2 dX6_startedFace_34 zw1476 ?_
  refine s_iload hZ.1 dX6_startedFace_37 ?_
  refine s_iload_n hZ.1 dX6_startedFace_39 rfl ?_
  refine s_iast hZ.1 (tt := 0) rfl dX6_startedFace_40 ?_
  refine s_aload_n hZ.1 dX6_startedFace_41 rfl ?_
  refine yg6_2 dX6_startedFace_42 zw1476 ?_
  refine s_iload hZ.1 dX6_startedFace_45 ?_
  refine s_iconst dX6_startedFace_47 (by decide +kernel) ?_
  refine s_iadd dX6_startedFace_48 ?_
  refine s_iconst dX6_startedFace_49 (by decide +kernel) ?_
  refine s_iast hZ.1 (tt := 0) rfl dX6_startedFace_50 ?_
  refine s_iconst dX6_startedFace_51 (by decide +kernel) ?_
  refine s_istore hZ.1 dX6_startedFace_52 (Nat.le_of_ble_eq_true rfl) ?_
  exact (wX6_startedFace_54 hZ j hj)
noncomputable def vX6_startedFace_30 (j : Nat → rx_K) : rx_K := o_const 34359738352 (o_ret1 rx_isI)
set_option maxRecDepth 20000 in
theorem wX6_startedFace_30 (hZ : zO b e D A X) (j : Nat → rx_K) (hj : ∀ k pc, [54][k]? = some pc → rx_OK (zV b e D A X) mX6_startedFace 1 pc (j k)) : rx_OK (zV b e D A X) mX6_startedFace 1 30 (vX6_startedFace_30 j) := by
  unfold vX6_startedFace_30
  refine s_bipush dX6_startedFace_30 (by decide +kernel) ?_
  exact s_iret hZ.1 rfl dX6_startedFace_32
noncomputable def vX6_startedFace_0 (j : Nat → rx_K) : rx_K := o_const 1 (o_stL 3 (o_ld rx_isI 2 (o_st rx_isI 5 (o_const 8 (o_st rx_isI 6 (o_ld rx_isR 0 (o_getf 6 3 (o_st rx_isI 7 (o_ld rx_isI 7 (o_const 1024 (o_bi (fun x y => x + y) (o_const 16 (o_bi (fun x y => x + y) (o_ld rx_isR 0 (o_getf 6 2 (o_alen 0 (o_c2 (fun h x y => rx_lt h y x) (vX6_startedFace_30 j) (vX6_startedFace_33 j))))))))))))))))))
set_option maxRecDepth 20000 in
theorem wX6_startedFace_0 (hZ : zO b e D A X) (j : Nat → rx_K) (hj : ∀ k pc, [54][k]? = some pc → rx_OK (zV b e D A X) mX6_startedFace 1 pc (j k)) : rx_OK (zV b e D A X) mX6_startedFace 1 0 (vX6_startedFace_0 j) := by
  unfold vX6_startedFace_0
  refine s_lconst dX6_startedFace_0 (by decide +kernel) ?_
  refine s_lstore_n hZ.1 dX6_startedFace_1 rfl (Nat.le_of_ble_eq_true rfl) ?_
  refine s_iload_n hZ.1 dX6_startedFace_2 rfl ?_
  refine s_istore hZ.1 dX6_startedFace_3 (Nat.le_of_ble_eq_true rfl) ?_
  refine s_iconst dX6_startedFace_5 (by decide +kernel) ?_
  refine s_istore hZ.1 dX6_startedFace_6 (Nat.le_of_ble_eq_true rfl) ?_
  refine s_aload_n hZ.1 dX6_startedFace_8 rfl ?_
  refine yg6_3 dX6_startedFace_9 zw1477 ?_
  refine s_istore hZ.1 dX6_startedFace_12 (Nat.le_of_ble_eq_true rfl) ?_
  refine s_iload hZ.1 dX6_startedFace_14 ?_
  refine s_sipush dX6_startedFace_16 (by decide +kernel) ?_
  refine s_iadd dX6_startedFace_19 ?_
  refine s_iconst dX6_startedFace_20 (by decide +kernel) ?_
  refine s_iadd dX6_startedFace_21 ?_
  refine s_aload_n hZ.1 dX6_startedFace_22 rfl ?_
  refine yg6_2 dX6_startedFace_23 zw1476 ?_
  refine s_alen (tt := 0) rfl dX6_startedFace_26 ?_
  exact s_icmp_le dX6_startedFace_27 (by decide) (wX6_startedFace_33 hZ j hj) (wX6_startedFace_30 hZ j hj)
noncomputable def vhX6_startedFace (j : Nat → rx_K) : List rx_K := [vX6_startedFace_54 j]
theorem vlX6_startedFace (hZ : zO b e D A X) : ∀ n k pc, [54][k]? = some pc → rx_OK (zV b e D A X) mX6_startedFace 1 pc (rx_J (vhX6_startedFace) n k) := rx_loop fun j hj k pc h => by
  match k, h with
  | 0, h =>
    have e9 := Option.some.inj (show some 54 = some pc from h)
    subst e9
    exact wX6_startedFace_54 hZ j hj
  | _ + 1, h => exact absurd h (by simp)
noncomputable def FX6_startedFace : List Nat → rx_H → Option (Nat × rx_H) := rx_ent 13 (vX6_startedFace_0 (rx_J (vhX6_startedFace) 4000000000))
theorem Met_X6_startedFace (hZ : zO b e D A X) : rx_Met (zV b e D A X) 1 yX6_startedFace mX6_startedFace (FX6_startedFace) := rx_entry hZ.1 (wX6_startedFace_0 hZ _ (vlX6_startedFace hZ 4000000000)) (by decide +kernel) rfl (fun h => by cases h)
abbrev mX6_nextStart : rx_M := (RX6, cX6_nextStart, 8, (some .int), false)
theorem vy_X6_nextStart : rx_Y (zV b e D A X) yX6_nextStart mX6_nextStart 1 := ⟨zw2774, zw430, by decide, by decide +kernel, by decide +kernel, by decide +kernel⟩
noncomputable def vX6_nextStart_151 (j : Nat → rx_K) : rx_K := o_const 34359738352 (o_ret1 rx_isI)
set_option maxRecDepth 20000 in
theorem wX6_nextStart_151 (hZ : zO b e D A X) (j : Nat → rx_K) (hj : ∀ k pc, [89][k]? = some pc → rx_OK (zV b e D A X) mX6_nextStart 2 pc (j k)) : rx_OK (zV b e D A X) mX6_nextStart 2 151 (vX6_nextStart_151 j) := by
  unfold vX6_nextStart_151
  refine s_bipush dX6_nextStart_151 (by decide +kernel) ?_
  exact s_iret hZ.1 rfl dX6_nextStart_153
noncomputable def vX6_nextStart_145 (j : Nat → rx_K) : rx_K := o_inc 6 (1) ((j 0))
set_option maxRecDepth 20000 in
theorem wX6_nextStart_145 (hZ : zO b e D A X) (j : Nat → rx_K) (hj : ∀ k pc, [89][k]? = some pc → rx_OK (zV b e D A X) mX6_nextStart 2 pc (j k)) : rx_OK (zV b e D A X) mX6_nextStart 2 145 (vX6_nextStart_145 j) := by
  unfold vX6_nextStart_145
  refine s_iinc hZ.1 dX6_nextStart_145 (Nat.le_of_ble_eq_true rfl) ?_
  exact s_goto dX6_nextStart_148 (by decide) (hj 0 89 rfl)
noncomputable def vX6_nextStart_125 (j : Nat → rx_K) : rx_K := o_ld rx_isR 0 (o_getf 6 13 (o_ld rx_isI 2 (o_const 160 (o_bi (fun x y => x * y) (o_ld rx_isR 7 (o_getf 7 17 (o_bi (fun x y => x + y) (o_ld rx_isR 7 (o_getf 7 16 (o_ast 0 (fun v => v) rx_isI ((vX6_nextStart_145 j))))))))))))
set_option maxRecDepth 20000 in
theorem wX6_nextStart_125 (hZ : zO b e D A X) (j : Nat → rx_K) (hj : ∀ k pc, [89][k]? = some pc → rx_OK (zV b e D A X) mX6_nextStart 2 pc (j k)) : rx_OK (zV b e D A X) mX6_nextStart 2 125 (vX6_nextStart_125 j) := by
  unfold vX6_nextStart_125
  refine s_aload_n hZ.1 dX6_nextStart_125 rfl ?_
  refine yg6_13 dX6_nextStart_126 zw1493 ?_
  refine s_iload_n hZ.1 dX6_nextStart_129 rfl ?_
  refine s_bipush dX6_nextStart_130 (by decide +kernel) ?_
  refine s_imul dX6_nextStart_132 ?_
  refine s_aload hZ.1 dX6_nextStart_133 ?_
  refine yg7_17 dX6_nextStart_135 zw1067 ?_
  refine s_iadd dX6_nextStart_138 ?_
  refine s_aload hZ.1 dX6_nextStart_139 ?_
  refine yg7_16 dX6_nextStart_141 zw1061 ?_
  refine s_iast hZ.1 (tt := 0) rfl dX6_nextStart_144 ?_
  exact (wX6_nextStart_145 hZ j hj)
noncomputable def vX6_nextStart_117 (j : Nat → rx_K) : rx_K := o_ld rx_isR 7 (o_getf 7 15 (o_c1 rx_eq (vX6_nextStart_145 j) (vX6_nextStart_125 j)))
set_option maxRecDepth 20000 in
theorem wX6_nextStart_117 (hZ : zO b e D A X) (j : Nat → rx_K) (hj : ∀ k pc, [89][k]? = some pc → rx_OK (zV b e D A X) mX6_nextStart 2 pc (j k)) : rx_OK (zV b e D A X) mX6_nextStart 2 117 (vX6_nextStart_117 j) := by
  unfold vX6_nextStart_117
  refine s_aload hZ.1 dX6_nextStart_117 ?_
  refine yg7_15 dX6_nextStart_119 zw1055 ?_
  exact s_if_eq dX6_nextStart_122 (by decide) (wX6_nextStart_145 hZ j hj) (wX6_nextStart_125 hZ j hj)
noncomputable def vX6_nextStart_99 (j : Nat → rx_K) : rx_K := o_ld rx_isR 5 (o_getf 10 14 (o_ld rx_isI 6 (o_ald 5 (o_st rx_isR 7 (o_ld rx_isR 7 (o_getf 7 0 (o_c1 rx_eq (vX6_nextStart_117 j) (vX6_nextStart_145 j))))))))
set_option maxRecDepth 20000 in
theorem wX6_nextStart_99 (hZ : zO b e D A X) (j : Nat → rx_K) (hj : ∀ k pc, [89][k]? = some pc → rx_OK (zV b e D A X) mX6_nextStart 2 pc (j k)) : rx_OK (zV b e D A X) mX6_nextStart 2 99 (vX6_nextStart_99 j) := by
  unfold vX6_nextStart_99
  refine s_aload hZ.1 dX6_nextStart_99 ?_
  refine yg10_14 dX6_nextStart_101 zw863 ?_
  refine s_iload hZ.1 dX6_nextStart_104 ?_
  refine s_aald (tt := 5) rfl rfl dX6_nextStart_106 ?_
  refine s_astore hZ.1 dX6_nextStart_107 (Nat.le_of_ble_eq_true rfl) ?_
  refine s_aload hZ.1 dX6_nextStart_109 ?_
  refine yg7_0 dX6_nextStart_111 zw950 ?_
  exact s_if_ne dX6_nextStart_114 (by decide) (wX6_nextStart_145 hZ j hj) (wX6_nextStart_117 hZ j hj)
noncomputable def vX6_nextStart_89 (j : Nat → rx_K) : rx_K := o_ld rx_isI 6 (o_ld rx_isR 5 (o_getf 10 15 (o_c2 rx_lt (vX6_nextStart_99 j) (vX6_nextStart_151 j))))
set_option maxRecDepth 20000 in
theorem wX6_nextStart_89 (hZ : zO b e D A X) (j : Nat → rx_K) (hj : ∀ k pc, [89][k]? = some pc → rx_OK (zV b e D A X) mX6_nextStart 2 pc (j k)) : rx_OK (zV b e D A X) mX6_nextStart 2 89 (vX6_nextStart_89 j) := by
  unfold vX6_nextStart_89
  refine s_iload hZ.1 dX6_nextStart_89 ?_
  refine s_aload hZ.1 dX6_nextStart_91 ?_
  refine yg10_15 dX6_nextStart_93 zw871 ?_
  exact s_icmp_ge dX6_nextStart_96 (by decide) (wX6_nextStart_151 hZ j hj) (wX6_nextStart_99 hZ j hj)
noncomputable def vX6_nextStart_69 (j : Nat → rx_K) : rx_K := o_ld rx_isR 1 (o_const 48 (o_const 34359738352 (o_ast 0 (fun v => v) rx_isI (o_ld rx_isR 0 (o_getf 6 0 (o_getf 11 1 (o_ld rx_isI 2 (o_ald 4 (o_st rx_isR 5 (o_const 0 (o_st rx_isI 6 ((vX6_nextStart_89 j)))))))))))))
set_option maxRecDepth 20000 in
theorem wX6_nextStart_69 (hZ : zO b e D A X) (j : Nat → rx_K) (hj : ∀ k pc, [89][k]? = some pc → rx_OK (zV b e D A X) mX6_nextStart 2 pc (j k)) : rx_OK (zV b e D A X) mX6_nextStart 2 69 (vX6_nextStart_69 j) := by
  unfold vX6_nextStart_69
  refine s_aload_n hZ.1 dX6_nextStart_69 rfl ?_
  refine s_bipush dX6_nextStart_70 (by decide +kernel) ?_
  refine s_bipush dX6_nextStart_72 (by decide +kernel) ?_
  refine s_iast hZ.1 (tt := 0) rfl dX6_nextStart_74 ?_
  refine s_aload_n hZ.1 dX6_nextStart_75 rfl ?_
  refine yg6_0 dX6_nextStart_76 zw1473 ?_
  refine yg11_1 dX6_nextStart_79 zw1255 ?_
  refine s_iload_n hZ.1 dX6_nextStart_82 rfl ?_
  refine s_aald (tt := 4) rfl rfl dX6_nextStart_83 ?_
  refine s_astore hZ.1 dX6_nextStart_84 (Nat.le_of_ble_eq_true rfl) ?_
  refine s_iconst dX6_nextStart_86 (by decide +kernel) ?_
  refine s_istore hZ.1 dX6_nextStart_87 (Nat.le_of_ble_eq_true rfl) ?_
  exact (wX6_nextStart_89 hZ j hj)
noncomputable def vX6_nextStart_66 (j : Nat → rx_K) : rx_K := o_ld rx_isI 4 (o_ret1 rx_isI)
set_option maxRecDepth 20000 in
theorem wX6_nextStart_66 (hZ : zO b e D A X) (j : Nat → rx_K) (hj : ∀ k pc, [89][k]? = some pc → rx_OK (zV b e D A X) mX6_nextStart 2 pc (j k)) : rx_OK (zV b e D A X) mX6_nextStart 2 66 (vX6_nextStart_66 j) := by
  unfold vX6_nextStart_66
  refine s_iload hZ.1 dX6_nextStart_66 ?_
  exact s_iret hZ.1 rfl dX6_nextStart_68
noncomputable def vX6_nextStart_51 (j : Nat → rx_K) : rx_K := o_st rx_isI 4 (o_ld rx_isR 1 (o_const 48 (o_dup2 (o_ald 0 (o_const 8 (o_bi (fun x y => x + y) (o_ast 0 (fun v => v) rx_isI (o_ld rx_isI 4 (o_c1 rx_lt (vX6_nextStart_69 j) (vX6_nextStart_66 j))))))))))
set_option maxRecDepth 20000 in
theorem wX6_nextStart_51 (hZ : zO b e D A X) (j : Nat → rx_K) (hj : ∀ k pc, [89][k]? = some pc → rx_OK (zV b e D A X) mX6_nextStart 2 pc (j k)) : rx_OK (zV b e D A X) mX6_nextStart 2 51 (vX6_nextStart_51 j) := by
  unfold vX6_nextStart_51
  refine s_istore hZ.1 dX6_nextStart_51 (Nat.le_of_ble_eq_true rfl) ?_
  refine s_aload_n hZ.1 dX6_nextStart_53 rfl ?_
  refine s_bipush dX6_nextStart_54 (by decide +kernel) ?_
  refine s_dup2 hZ.1 dX6_nextStart_56 ?_
  refine s_iald (tt := 0) rfl dX6_nextStart_57 ?_
  refine s_iconst dX6_nextStart_58 (by decide +kernel) ?_
  refine s_iadd dX6_nextStart_59 ?_
  refine s_iast hZ.1 (tt := 0) rfl dX6_nextStart_60 ?_
  refine s_iload hZ.1 dX6_nextStart_61 ?_
  exact s_if_lt dX6_nextStart_63 (by decide) (wX6_nextStart_69 hZ j hj) (wX6_nextStart_66 hZ j hj)
noncomputable def vX6_nextStart_45 (j : Nat → rx_K) : rx_K := o_ld rx_isR 0 (o_ld rx_isI 2 (o_ld rx_isI 3 (o_callV 2 6 FX6_startedFace ((vX6_nextStart_51 j)))))
set_option maxRecDepth 20000 in
theorem wX6_nextStart_45 (hZ : zO b e D A X) (j : Nat → rx_K) (hj : ∀ k pc, [89][k]? = some pc → rx_OK (zV b e D A X) mX6_nextStart 2 pc (j k)) : rx_OK (zV b e D A X) mX6_nextStart 2 45 (vX6_nextStart_45 j) := by
  unfold vX6_nextStart_45
  refine s_aload_n hZ.1 dX6_nextStart_45 rfl ?_
  refine s_iload_n hZ.1 dX6_nextStart_46 rfl ?_
  refine s_iload_n hZ.1 dX6_nextStart_47 rfl ?_
  refine s_callV hZ.1 (Met_X6_startedFace hZ) (Nat.le_of_ble_eq_true rfl) vy_X6_startedFace zcl6 zw2777 zw159 (Or.inl zw2775) dX6_nextStart_48 ?_
  exact (wX6_nextStart_51 hZ j hj)
noncomputable def vX6_nextStart_33 (j : Nat → rx_K) : rx_K := o_ld rx_isR 0 (o_getf 6 0 (o_getf 11 3 (o_ld rx_isI 2 (o_ald 0 ((vX6_nextStart_51 j))))))
set_option maxRecDepth 20000 in
theorem wX6_nextStart_33 (hZ : zO b e D A X) (j : Nat → rx_K) (hj : ∀ k pc, [89][k]? = some pc → rx_OK (zV b e D A X) mX6_nextStart 2 pc (j k)) : rx_OK (zV b e D A X) mX6_nextStart 2 33 (vX6_nextStart_33 j) := by
  unfold vX6_nextStart_33
  refine s_aload_n hZ.1 dX6_nextStart_33 rfl ?_
  refine yg6_0 dX6_nextStart_34 zw1473 ?_
  refine yg11_3 dX6_nextStart_37 zw1265 ?_
  refine s_iload_n hZ.1 dX6_nextStart_40 rfl ?_
  refine s_iald (tt := 0) rfl dX6_nextStart_41 ?_
  exact s_goto dX6_nextStart_42 (by decide) (wX6_nextStart_51 hZ j hj)
noncomputable def vX6_nextStart_29 (j : Nat → rx_K) : rx_K := o_ld rx_isI 3 (o_c1 rx_eq (vX6_nextStart_33 j) (vX6_nextStart_45 j))
set_option maxRecDepth 20000 in
theorem wX6_nextStart_29 (hZ : zO b e D A X) (j : Nat → rx_K) (hj : ∀ k pc, [89][k]? = some pc → rx_OK (zV b e D A X) mX6_nextStart 2 pc (j k)) : rx_OK (zV b e D A X) mX6_nextStart 2 29 (vX6_nextStart_29 j) := by
  unfold vX6_nextStart_29
  refine s_iload_n hZ.1 dX6_nextStart_29 rfl ?_
  exact s_if_ne dX6_nextStart_30 (by decide) (wX6_nextStart_45 hZ j hj) (wX6_nextStart_33 hZ j hj)
noncomputable def vX6_nextStart_24 (j : Nat → rx_K) : rx_K := o_const 34359738352 ((vX6_nextStart_51 j))
set_option maxRecDepth 20000 in
theorem wX6_nextStart_24 (hZ : zO b e D A X) (j : Nat → rx_K) (hj : ∀ k pc, [89][k]? = some pc → rx_OK (zV b e D A X) mX6_nextStart 2 pc (j k)) : rx_OK (zV b e D A X) mX6_nextStart 2 24 (vX6_nextStart_24 j) := by
  unfold vX6_nextStart_24
  refine s_bipush dX6_nextStart_24 (by decide +kernel) ?_
  exact s_goto dX6_nextStart_26 (by decide) (wX6_nextStart_51 hZ j hj)
noncomputable def vX6_nextStart_0 (j : Nat → rx_K) : rx_K := o_ld rx_isR 1 (o_const 0 (o_ald 0 (o_st rx_isI 2 (o_ld rx_isR 1 (o_const 48 (o_ald 0 (o_st rx_isI 3 (o_ld rx_isR 0 (o_getf 6 0 (o_getf 11 1 (o_ld rx_isI 2 (o_ald 4 (o_getf 10 4 (o_c1 rx_eq (vX6_nextStart_29 j) (vX6_nextStart_24 j)))))))))))))))
set_option maxRecDepth 20000 in
theorem wX6_nextStart_0 (hZ : zO b e D A X) (j : Nat → rx_K) (hj : ∀ k pc, [89][k]? = some pc → rx_OK (zV b e D A X) mX6_nextStart 2 pc (j k)) : rx_OK (zV b e D A X) mX6_nextStart 2 0 (vX6_nextStart_0 j) := by
  unfold vX6_nextStart_0
  refine s_aload_n hZ.1 dX6_nextStart_0 rfl ?_
  refine s_iconst dX6_nextStart_1 (by decide +kernel) ?_
  refine s_iald (tt := 0) rfl dX6_nextStart_2 ?_
  refine s_istore_n hZ.1 dX6_nextStart_3 rfl (Nat.le_of_ble_eq_true rfl) ?_
  refine s_aload_n hZ.1 dX6_nextStart_4 rfl ?_
  refine s_bipush dX6_nextStart_5 (by decide +kernel) ?_
  refine s_iald (tt := 0) rfl dX6_nextStart_7 ?_
  refine s_istore_n hZ.1 dX6_nextStart_8 rfl (Nat.le_of_ble_eq_true rfl) ?_
  refine s_aload_n hZ.1 dX6_nextStart_9 rfl ?_
  refine yg6_0 dX6_nextStart_10 zw1473 ?_
  refine yg11_1 dX6_nextStart_13 zw1255 ?_
  refine s_iload_n hZ.1 dX6_nextStart_16 rfl ?_
  refine s_aald (tt := 4) rfl rfl dX6_nextStart_17 ?_
  refine yg10_4 dX6_nextStart_18 zw796 ?_
  exact s_if_eq dX6_nextStart_21 (by decide) (wX6_nextStart_29 hZ j hj) (wX6_nextStart_24 hZ j hj)
noncomputable def vhX6_nextStart (j : Nat → rx_K) : List rx_K := [vX6_nextStart_89 j]
theorem vlX6_nextStart (hZ : zO b e D A X) : ∀ n k pc, [89][k]? = some pc → rx_OK (zV b e D A X) mX6_nextStart 2 pc (rx_J (vhX6_nextStart) n k) := rx_loop fun j hj k pc h => by
  match k, h with
  | 0, h =>
    have e9 := Option.some.inj (show some 89 = some pc from h)
    subst e9
    exact wX6_nextStart_89 hZ j hj
  | _ + 1, h => exact absurd h (by simp)
noncomputable def FX6_nextStart : List Nat → rx_H → Option (Nat × rx_H) := rx_ent 8 (vX6_nextStart_0 (rx_J (vhX6_nextStart) 4000000000))
theorem Met_X6_nextStart (hZ : zO b e D A X) : rx_Met (zV b e D A X) 2 yX6_nextStart mX6_nextStart (FX6_nextStart) := rx_entry hZ.1 (wX6_nextStart_0 hZ _ (vlX6_nextStart hZ 4000000000)) (by decide +kernel) rfl (fun h => by cases h)
abbrev mX6_reckon : rx_M := (RX6, cX6_reckon, 3, (some .int), false)
theorem vy_X6_reckon : rx_Y (zV b e D A X) yX6_reckon mX6_reckon 3 := ⟨zw2802, zw430, by decide, by decide +kernel, by decide +kernel, by decide +kernel⟩
noncomputable def vX6_reckon_65 : rx_K := o_ret1 rx_isI
set_option maxRecDepth 20000 in
theorem wX6_reckon_65 (hZ : zO b e D A X) : rx_OK (zV b e D A X) mX6_reckon 0 65 vX6_reckon_65 := by
  unfold vX6_reckon_65
  exact s_iret hZ.1 rfl dX6_reckon_65
noncomputable def vX6_reckon_64 : rx_K := o_const 0 (vX6_reckon_65)
set_option maxRecDepth 20000 in
theorem wX6_reckon_64 (hZ : zO b e D A X) : rx_OK (zV b e D A X) mX6_reckon 0 64 vX6_reckon_64 := by
  unfold vX6_reckon_64
  refine s_iconst dX6_reckon_64 (by decide +kernel) ?_
  exact (wX6_reckon_65 hZ)
noncomputable def vX6_reckon_60 : rx_K := o_const 8 (vX6_reckon_65)
set_option maxRecDepth 20000 in
theorem wX6_reckon_60 (hZ : zO b e D A X) : rx_OK (zV b e D A X) mX6_reckon 0 60 vX6_reckon_60 := by
  unfold vX6_reckon_60
  refine s_iconst dX6_reckon_60 (by decide +kernel) ?_
  exact s_goto dX6_reckon_61 (by decide) (wX6_reckon_65 hZ)
noncomputable def vX6_reckon_55 : rx_K := o_ld rx_isI 1 (o_ld rx_isI 2 (o_c2 rx_eq vX6_reckon_60 vX6_reckon_64))
set_option maxRecDepth 20000 in
theorem wX6_reckon_55 (hZ : zO b e D A X) : rx_OK (zV b e D A X) mX6_reckon 0 55 vX6_reckon_55 := by
  unfold vX6_reckon_55
  refine s_iload_n hZ.1 dX6_reckon_55 rfl ?_
  refine s_iload_n hZ.1 dX6_reckon_56 rfl ?_
  exact s_icmp_ne dX6_reckon_57 (by decide) (wX6_reckon_64 hZ) (wX6_reckon_60 hZ)
noncomputable def vX6_reckon_54 : rx_K := o_ret1 rx_isI
set_option maxRecDepth 20000 in
theorem wX6_reckon_54 (hZ : zO b e D A X) : rx_OK (zV b e D A X) mX6_reckon 0 54 vX6_reckon_54 := by
  unfold vX6_reckon_54
  exact s_iret hZ.1 rfl dX6_reckon_54
noncomputable def vX6_reckon_53 : rx_K := o_const 0 (vX6_reckon_54)
set_option maxRecDepth 20000 in
theorem wX6_reckon_53 (hZ : zO b e D A X) : rx_OK (zV b e D A X) mX6_reckon 0 53 vX6_reckon_53 := by
  unfold vX6_reckon_53
  refine s_iconst dX6_reckon_53 (by decide +kernel) ?_
  exact (wX6_reckon_54 hZ)
noncomputable def vX6_reckon_49 : rx_K := o_const 8 (vX6_reckon_54)
set_option maxRecDepth 20000 in
theorem wX6_reckon_49 (hZ : zO b e D A X) : rx_OK (zV b e D A X) mX6_reckon 0 49 vX6_reckon_49 := by
  unfold vX6_reckon_49
  refine s_iconst dX6_reckon_49 (by decide +kernel) ?_
  exact s_goto dX6_reckon_50 (by decide) (wX6_reckon_54 hZ)
noncomputable def vX6_reckon_44 : rx_K := o_ld rx_isI 1 (o_ld rx_isI 2 (o_c2 rx_lt vX6_reckon_49 vX6_reckon_53))
set_option maxRecDepth 20000 in
theorem wX6_reckon_44 (hZ : zO b e D A X) : rx_OK (zV b e D A X) mX6_reckon 0 44 vX6_reckon_44 := by
  unfold vX6_reckon_44
  refine s_iload_n hZ.1 dX6_reckon_44 rfl ?_
  refine s_iload_n hZ.1 dX6_reckon_45 rfl ?_
  exact s_icmp_ge dX6_reckon_46 (by decide) (wX6_reckon_53 hZ) (wX6_reckon_49 hZ)
noncomputable def vX6_reckon_40 : rx_K := o_ld rx_isI 1 (o_ld rx_isI 2 (o_bi (fun x y => x * y) (o_ret1 rx_isI)))
set_option maxRecDepth 20000 in
theorem wX6_reckon_40 (hZ : zO b e D A X) : rx_OK (zV b e D A X) mX6_reckon 0 40 vX6_reckon_40 := by
  unfold vX6_reckon_40
  refine s_iload_n hZ.1 dX6_reckon_40 rfl ?_
  refine s_iload_n hZ.1 dX6_reckon_41 rfl ?_
  refine s_imul dX6_reckon_42 ?_
  exact s_iret hZ.1 rfl dX6_reckon_43
noncomputable def vX6_reckon_36 : rx_K := o_ld rx_isI 1 (o_ld rx_isI 2 (o_bi (fun x y => x - y) (o_ret1 rx_isI)))
set_option maxRecDepth 20000 in
theorem wX6_reckon_36 (hZ : zO b e D A X) : rx_OK (zV b e D A X) mX6_reckon 0 36 vX6_reckon_36 := by
  unfold vX6_reckon_36
  refine s_iload_n hZ.1 dX6_reckon_36 rfl ?_
  refine s_iload_n hZ.1 dX6_reckon_37 rfl ?_
  refine s_isub dX6_reckon_38 ?_
  exact s_iret hZ.1 rfl dX6_reckon_39
noncomputable def vX6_reckon_32 : rx_K := o_ld rx_isI 1 (o_ld rx_isI 2 (o_bi (fun x y => x + y) (o_ret1 rx_isI)))
set_option maxRecDepth 20000 in
theorem wX6_reckon_32 (hZ : zO b e D A X) : rx_OK (zV b e D A X) mX6_reckon 0 32 vX6_reckon_32 := by
  unfold vX6_reckon_32
  refine s_iload_n hZ.1 dX6_reckon_32 rfl ?_
  refine s_iload_n hZ.1 dX6_reckon_33 rfl ?_
  refine s_iadd dX6_reckon_34 ?_
  exact s_iret hZ.1 rfl dX6_reckon_35
noncomputable def vX6_reckon_0 : rx_K := o_ld rx_isI 0 (o_sw 7 [32, 36, 40, 44] 55 (rx_pk [(32, vX6_reckon_32), (36, vX6_reckon_36), (40, vX6_reckon_40), (44, vX6_reckon_44), (55, vX6_reckon_55)]))
set_option maxRecDepth 20000 in
theorem wX6_reckon_0 (hZ : zO b e D A X) : rx_OK (zV b e D A X) mX6_reckon 0 0 vX6_reckon_0 := by
  unfold vX6_reckon_0
  refine s_iload_n hZ.1 dX6_reckon_0 rfl ?_
  exact s_sw dX6_reckon_1 (by decide) (by decide) (by decide) (by decide) (by decide) (fun b _ => (rx_pk_ok (List.forall_mem_cons.mpr ⟨(wX6_reckon_32 hZ), List.forall_mem_cons.mpr ⟨(wX6_reckon_36 hZ), List.forall_mem_cons.mpr ⟨(wX6_reckon_40 hZ), List.forall_mem_cons.mpr ⟨(wX6_reckon_44 hZ), List.forall_mem_cons.mpr ⟨(wX6_reckon_55 hZ), fun _ h => absurd h List.not_mem_nil⟩⟩⟩⟩⟩)) b)
noncomputable def FX6_reckon : List Nat → rx_H → Option (Nat × rx_H) := rx_ent 3 vX6_reckon_0
theorem Met_X6_reckon (hZ : zO b e D A X) : rx_Met (zV b e D A X) 0 yX6_reckon mX6_reckon (FX6_reckon) := rx_entry hZ.1 (wX6_reckon_0 hZ) (by decide +kernel) rfl (fun h => by cases h)
abbrev mX6_plainOne : rx_M := (RX6, cX6_plainOne, 9, (some .boolean), false)
theorem vy_X6_plainOne : rx_Y (zV b e D A X) yX6_plainOne mX6_plainOne 3 := ⟨zw2787, zw430, by decide, by decide +kernel, by decide +kernel, by decide +kernel⟩
noncomputable def vX6_plainOne_171 : rx_K := o_ld rx_isR 0 (o_callV 0 6 FX6_pop (o_st rx_isI 7 (o_ld rx_isR 0 (o_callV 0 6 FX6_pop (o_st rx_isI 8 (o_ld rx_isR 0 (o_ld rx_isI 2 (o_ld rx_isI 8 (o_ld rx_isI 7 (o_callS 3 FX6_reckon (o_callV 1 6 FX6_push (o_const 8 (o_ret1 rx_isZ)))))))))))))
set_option maxRecDepth 20000 in
theorem wX6_plainOne_171 (hZ : zO b e D A X) : rx_OK (zV b e D A X) mX6_plainOne 2 171 vX6_plainOne_171 := by
  unfold vX6_plainOne_171
  refine s_aload_n hZ.1 dX6_plainOne_171 rfl ?_
  refine s_callV hZ.1 (Met_X6_pop hZ) (Nat.le_of_ble_eq_true rfl) vy_X6_pop zcl6 zw2794 zw162 (Or.inl zw2792) dX6_plainOne_172 ?_
  refine s_istore hZ.1 dX6_plainOne_175 (Nat.le_of_ble_eq_true rfl) ?_
  refine s_aload_n hZ.1 dX6_plainOne_177 rfl ?_
  refine s_callV hZ.1 (Met_X6_pop hZ) (Nat.le_of_ble_eq_true rfl) vy_X6_pop zcl6 zw2794 zw162 (Or.inl zw2792) dX6_plainOne_178 ?_
  refine s_istore hZ.1 dX6_plainOne_181 (Nat.le_of_ble_eq_true rfl) ?_
  refine s_aload_n hZ.1 dX6_plainOne_183 rfl ?_
  refine s_iload_n hZ.1 dX6_plainOne_184 rfl ?_
  refine s_iload hZ.1 dX6_plainOne_185 ?_
  refine s_iload hZ.1 dX6_plainOne_187 ?_
  refine s_callS hZ.1 (Met_X6_reckon hZ) (Nat.le_of_ble_eq_true rfl) vy_X6_reckon zw2801 (Or.inl zw2800) dX6_plainOne_189 ?_
  refine s_callV hZ.1 (Met_X6_push hZ) (Nat.le_of_ble_eq_true rfl) vy_X6_push zcl6 zw2790 zw161 (Or.inl zw2788) dX6_plainOne_192 ?_
  refine s_iconst dX6_plainOne_195 (by decide +kernel) ?_
  exact s_zret rx_z_ok rfl dX6_plainOne_196
noncomputable def vX6_plainOne_160 : rx_K := o_ld rx_isR 0 (o_ld rx_isR 0 (o_const 0 (o_callV 1 6 FX6_peek (o_callV 1 6 FX6_push (o_const 8 (o_ret1 rx_isZ))))))
set_option maxRecDepth 20000 in
theorem wX6_plainOne_160 (hZ : zO b e D A X) : rx_OK (zV b e D A X) mX6_plainOne 2 160 vX6_plainOne_160 := by
  unfold vX6_plainOne_160
  refine s_aload_n hZ.1 dX6_plainOne_160 rfl ?_
  refine s_aload_n hZ.1 dX6_plainOne_161 rfl ?_
  refine s_iconst dX6_plainOne_162 (by decide +kernel) ?_
  refine s_callV hZ.1 (Met_X6_peek hZ) (Nat.le_of_ble_eq_true rfl) vy_X6_peek zcl6 zw2798 zw163 (Or.inl zw2796) dX6_plainOne_163 ?_
  refine s_callV hZ.1 (Met_X6_push hZ) (Nat.le_of_ble_eq_true rfl) vy_X6_push zcl6 zw2790 zw161 (Or.inl zw2788) dX6_plainOne_166 ?_
  refine s_iconst dX6_plainOne_169 (by decide +kernel) ?_
  exact s_zret rx_z_ok rfl dX6_plainOne_170
noncomputable def vX6_plainOne_153 : rx_K := o_ld rx_isR 0 (o_callV 0 6 FX6_pop (o_pop (o_const 8 (o_ret1 rx_isZ))))
set_option maxRecDepth 20000 in
theorem wX6_plainOne_153 (hZ : zO b e D A X) : rx_OK (zV b e D A X) mX6_plainOne 2 153 vX6_plainOne_153 := by
  unfold vX6_plainOne_153
  refine s_aload_n hZ.1 dX6_plainOne_153 rfl ?_
  refine s_callV hZ.1 (Met_X6_pop hZ) (Nat.le_of_ble_eq_true rfl) vy_X6_pop zcl6 zw2794 zw162 (Or.inl zw2792) dX6_plainOne_154 ?_
  refine s_pop hZ.1 dX6_plainOne_157 ?_
  refine s_iconst dX6_plainOne_158 (by decide +kernel) ?_
  exact s_zret rx_z_ok rfl dX6_plainOne_159
noncomputable def vX6_plainOne_151 : rx_K := o_const 8 (o_ret1 rx_isZ)
set_option maxRecDepth 20000 in
theorem wX6_plainOne_151 (hZ : zO b e D A X) : rx_OK (zV b e D A X) mX6_plainOne 2 151 vX6_plainOne_151 := by
  unfold vX6_plainOne_151
  refine s_iconst dX6_plainOne_151 (by decide +kernel) ?_
  exact s_zret rx_z_ok rfl dX6_plainOne_152
noncomputable def vX6_plainOne_142 : rx_K := o_ld rx_isR 0 (o_getf 6 2 (o_ld rx_isI 6 (o_ld rx_isI 5 (o_ast 0 (fun v => v) rx_isI (vX6_plainOne_151)))))
set_option maxRecDepth 20000 in
theorem wX6_plainOne_142 (hZ : zO b e D A X) : rx_OK (zV b e D A X) mX6_plainOne 2 142 vX6_plainOne_142 := by
  unfold vX6_plainOne_142
  refine s_aload_n hZ.1 dX6_plainOne_142 rfl ?_
  refine yg6_2 dX6_plainOne_143 zw1476 ?_
  refine s_iload hZ.1 dX6_plainOne_146 ?_
  refine s_iload hZ.1 dX6_plainOne_148 ?_
  refine s_iast hZ.1 (tt := 0) rfl dX6_plainOne_150 ?_
  exact (wX6_plainOne_151 hZ)
noncomputable def vX6_plainOne_133 : rx_K := o_ld rx_isI 6 (o_ld rx_isR 0 (o_getf 6 3 (o_c2 rx_lt vX6_plainOne_142 vX6_plainOne_151)))
set_option maxRecDepth 20000 in
theorem wX6_plainOne_133 (hZ : zO b e D A X) : rx_OK (zV b e D A X) mX6_plainOne 2 133 vX6_plainOne_133 := by
  unfold vX6_plainOne_133
  refine s_iload hZ.1 dX6_plainOne_133 ?_
  refine s_aload_n hZ.1 dX6_plainOne_135 rfl ?_
  refine yg6_3 dX6_plainOne_136 zw1477 ?_
  exact s_icmp_ge dX6_plainOne_139 (by decide) (wX6_plainOne_151 hZ) (wX6_plainOne_142 hZ)
noncomputable def vX6_plainOne_115 : rx_K := o_ld rx_isR 0 (o_callV 0 6 FX6_pop (o_st rx_isI 5 (o_ld rx_isR 1 (o_const 16 (o_ald 0 (o_ld rx_isI 3 (o_bi (fun x y => x + y) (o_st rx_isI 6 (o_ld rx_isI 6 (o_c1 rx_lt vX6_plainOne_151 vX6_plainOne_133))))))))))
set_option maxRecDepth 20000 in
theorem wX6_plainOne_115 (hZ : zO b e D A X) : rx_OK (zV b e D A X) mX6_plainOne 2 115 vX6_plainOne_115 := by
  unfold vX6_plainOne_115
  refine s_aload_n hZ.1 dX6_plainOne_115 rfl ?_
  refine s_callV hZ.1 (Met_X6_pop hZ) (Nat.le_of_ble_eq_true rfl) vy_X6_pop zcl6 zw2794 zw162 (Or.inl zw2792) dX6_plainOne_116 ?_
  refine s_istore hZ.1 dX6_plainOne_119 (Nat.le_of_ble_eq_true rfl) ?_
  refine s_aload_n hZ.1 dX6_plainOne_121 rfl ?_
  refine s_iconst dX6_plainOne_122 (by decide +kernel) ?_
  refine s_iald (tt := 0) rfl dX6_plainOne_123 ?_
  refine s_iload_n hZ.1 dX6_plainOne_124 rfl ?_
  refine s_iadd dX6_plainOne_125 ?_
  refine s_istore hZ.1 dX6_plainOne_126 (Nat.le_of_ble_eq_true rfl) ?_
  refine s_iload hZ.1 dX6_plainOne_128 ?_
  exact s_if_lt dX6_plainOne_130 (by decide) (wX6_plainOne_151 hZ) (wX6_plainOne_133 hZ)
noncomputable def vX6_plainOne_110 : rx_K := o_callV 1 6 FX6_push (o_const 8 (o_ret1 rx_isZ))
set_option maxRecDepth 20000 in
theorem wX6_plainOne_110 (hZ : zO b e D A X) : rx_OK (zV b e D A X) mX6_plainOne 2 110 vX6_plainOne_110 := by
  unfold vX6_plainOne_110
  refine s_callV hZ.1 (Met_X6_push hZ) (Nat.le_of_ble_eq_true rfl) vy_X6_push zcl6 zw2790 zw161 (Or.inl zw2788) dX6_plainOne_110 ?_
  refine s_iconst dX6_plainOne_113 (by decide +kernel) ?_
  exact s_zret rx_z_ok rfl dX6_plainOne_114
noncomputable def vX6_plainOne_109 : rx_K := o_const 0 (vX6_plainOne_110)
set_option maxRecDepth 20000 in
theorem wX6_plainOne_109 (hZ : zO b e D A X) : rx_OK (zV b e D A X) mX6_plainOne 2 109 vX6_plainOne_109 := by
  unfold vX6_plainOne_109
  refine s_iconst dX6_plainOne_109 (by decide +kernel) ?_
  exact (wX6_plainOne_110 hZ)
noncomputable def vX6_plainOne_99 : rx_K := o_ld rx_isR 0 (o_getf 6 2 (o_ld rx_isI 4 (o_ald 0 (vX6_plainOne_110))))
set_option maxRecDepth 20000 in
theorem wX6_plainOne_99 (hZ : zO b e D A X) : rx_OK (zV b e D A X) mX6_plainOne 2 99 vX6_plainOne_99 := by
  unfold vX6_plainOne_99
  refine s_aload_n hZ.1 dX6_plainOne_99 rfl ?_
  refine yg6_2 dX6_plainOne_100 zw1476 ?_
  refine s_iload hZ.1 dX6_plainOne_103 ?_
  refine s_iald (tt := 0) rfl dX6_plainOne_105 ?_
  exact s_goto dX6_plainOne_106 (by decide) (wX6_plainOne_110 hZ)
noncomputable def vX6_plainOne_90 : rx_K := o_ld rx_isI 4 (o_ld rx_isR 0 (o_getf 6 3 (o_c2 rx_lt vX6_plainOne_99 vX6_plainOne_109)))
set_option maxRecDepth 20000 in
theorem wX6_plainOne_90 (hZ : zO b e D A X) : rx_OK (zV b e D A X) mX6_plainOne 2 90 vX6_plainOne_90 := by
  unfold vX6_plainOne_90
  refine s_iload hZ.1 dX6_plainOne_90 ?_
  refine s_aload_n hZ.1 dX6_plainOne_92 rfl ?_
  refine yg6_3 dX6_plainOne_93 zw1477 ?_
  exact s_icmp_ge dX6_plainOne_96 (by decide) (wX6_plainOne_109 hZ) (wX6_plainOne_99 hZ)
noncomputable def vX6_plainOne_77 : rx_K := o_ld rx_isR 1 (o_const 16 (o_ald 0 (o_ld rx_isI 3 (o_bi (fun x y => x + y) (o_st rx_isI 4 (o_ld rx_isR 0 (o_ld rx_isI 4 (o_c1 rx_lt vX6_plainOne_109 vX6_plainOne_90))))))))
set_option maxRecDepth 20000 in
theorem wX6_plainOne_77 (hZ : zO b e D A X) : rx_OK (zV b e D A X) mX6_plainOne 2 77 vX6_plainOne_77 := by
  unfold vX6_plainOne_77
  refine s_aload_n hZ.1 dX6_plainOne_77 rfl ?_
  refine s_iconst dX6_plainOne_78 (by decide +kernel) ?_
  refine s_iald (tt := 0) rfl dX6_plainOne_79 ?_
  refine s_iload_n hZ.1 dX6_plainOne_80 rfl ?_
  refine s_iadd dX6_plainOne_81 ?_
  refine s_istore hZ.1 dX6_plainOne_82 (Nat.le_of_ble_eq_true rfl) ?_
  refine s_aload_n hZ.1 dX6_plainOne_84 rfl ?_
  refine s_iload hZ.1 dX6_plainOne_85 ?_
  exact s_if_lt dX6_plainOne_87 (by decide) (wX6_plainOne_109 hZ) (wX6_plainOne_90 hZ)
noncomputable def vX6_plainOne_70 : rx_K := o_ld rx_isR 0 (o_ld rx_isI 3 (o_callV 1 6 FX6_push (o_const 8 (o_ret1 rx_isZ))))
set_option maxRecDepth 20000 in
theorem wX6_plainOne_70 (hZ : zO b e D A X) : rx_OK (zV b e D A X) mX6_plainOne 2 70 vX6_plainOne_70 := by
  unfold vX6_plainOne_70
  refine s_aload_n hZ.1 dX6_plainOne_70 rfl ?_
  refine s_iload_n hZ.1 dX6_plainOne_71 rfl ?_
  refine s_callV hZ.1 (Met_X6_push hZ) (Nat.le_of_ble_eq_true rfl) vy_X6_push zcl6 zw2790 zw161 (Or.inl zw2788) dX6_plainOne_72 ?_
  refine s_iconst dX6_plainOne_75 (by decide +kernel) ?_
  exact s_zret rx_z_ok rfl dX6_plainOne_76
noncomputable def vX6_plainOne_58 : rx_K := o_ld rx_isR 0 (o_dup (o_getf 6 14 (o_const 8 (o_bi (fun x y => x + y) (o_putf rx_isI 6 14 (o_const 8 (o_ret1 rx_isZ)))))))
set_option maxRecDepth 20000 in
theorem wX6_plainOne_58 (hZ : zO b e D A X) : rx_OK (zV b e D A X) mX6_plainOne 2 58 vX6_plainOne_58 := by
  unfold vX6_plainOne_58
  refine s_aload_n hZ.1 dX6_plainOne_58 rfl ?_
  refine s_dup hZ.1 dX6_plainOne_59 ?_
  refine yg6_14 dX6_plainOne_60 zw1494 ?_
  refine s_iconst dX6_plainOne_63 (by decide +kernel) ?_
  refine s_iadd dX6_plainOne_64 ?_
  refine yp6_14 hZ.1 dX6_plainOne_65 zw1494 ?_
  refine s_iconst dX6_plainOne_68 (by decide +kernel) ?_
  exact s_zret rx_z_ok rfl dX6_plainOne_69
noncomputable def vX6_plainOne_50 : rx_K := o_ld rx_isR 0 (o_const 112 (o_callV 1 6 FX6_fail (o_const 0 (o_ret1 rx_isZ))))
set_option maxRecDepth 20000 in
theorem wX6_plainOne_50 (hZ : zO b e D A X) : rx_OK (zV b e D A X) mX6_plainOne 2 50 vX6_plainOne_50 := by
  unfold vX6_plainOne_50
  refine s_aload_n hZ.1 dX6_plainOne_50 rfl ?_
  refine s_bipush dX6_plainOne_51 (by decide +kernel) ?_
  refine s_callV hZ.1 (Met_X6_fail hZ) (Nat.le_of_ble_eq_true rfl) vy_X6_fail zcl6 zw2749 zw2750 (Or.inl zw2748) dX6_plainOne_53 ?_
  refine s_iconst dX6_plainOne_56 (by decide +kernel) ?_
  exact s_zret rx_z_ok rfl dX6_plainOne_57
noncomputable def vX6_plainOne_40 : rx_K := o_ld rx_isR 0 (o_getf 6 14 (o_const 160000 (o_c2 rx_lt vX6_plainOne_58 vX6_plainOne_50)))
set_option maxRecDepth 20000 in
theorem wX6_plainOne_40 (hZ : zO b e D A X) : rx_OK (zV b e D A X) mX6_plainOne 2 40 vX6_plainOne_40 := by
  unfold vX6_plainOne_40
  refine s_aload_n hZ.1 dX6_plainOne_40 rfl ?_
  refine yg6_14 dX6_plainOne_41 zw1494 ?_
  refine s_sipush dX6_plainOne_44 (by decide +kernel) ?_
  exact s_icmp_lt dX6_plainOne_47 (by decide) (wX6_plainOne_58 hZ) (wX6_plainOne_50 hZ)
noncomputable def vX6_plainOne_0 : rx_K := o_ld rx_isI 2 (o_sw 1 [40, 70, 77, 115, 153, 160] 171 (rx_pk [(40, vX6_plainOne_40), (70, vX6_plainOne_70), (77, vX6_plainOne_77), (115, vX6_plainOne_115), (153, vX6_plainOne_153), (160, vX6_plainOne_160), (171, vX6_plainOne_171)]))
set_option maxRecDepth 20000 in
theorem wX6_plainOne_0 (hZ : zO b e D A X) : rx_OK (zV b e D A X) mX6_plainOne 2 0 vX6_plainOne_0 := by
  unfold vX6_plainOne_0
  refine s_iload_n hZ.1 dX6_plainOne_0 rfl ?_
  exact s_sw dX6_plainOne_1 (by decide) (by decide) (by decide) (by decide) (by decide) (fun b _ => (rx_pk_ok (List.forall_mem_cons.mpr ⟨(wX6_plainOne_40 hZ), List.forall_mem_cons.mpr ⟨(wX6_plainOne_70 hZ), List.forall_mem_cons.mpr ⟨(wX6_plainOne_77 hZ), List.forall_mem_cons.mpr ⟨(wX6_plainOne_115 hZ), List.forall_mem_cons.mpr ⟨(wX6_plainOne_153 hZ), List.forall_mem_cons.mpr ⟨(wX6_plainOne_160 hZ), List.forall_mem_cons.mpr ⟨(wX6_plainOne_171 hZ), fun _ h => absurd h List.not_mem_nil⟩⟩⟩⟩⟩⟩⟩)) b)
noncomputable def FX6_plainOne : List Nat → rx_H → Option (Nat × rx_H) := rx_ent 9 vX6_plainOne_0
theorem Met_X6_plainOne (hZ : zO b e D A X) : rx_Met (zV b e D A X) 2 yX6_plainOne mX6_plainOne (FX6_plainOne) := rx_entry hZ.1 (wX6_plainOne_0 hZ) (by decide +kernel) rfl (fun h => by cases h)
abbrev mX6_isOne : rx_M := (RX6, cX6_isOne, 6, (some .boolean), false)
theorem vy_X6_isOne : rx_Y (zV b e D A X) yX6_isOne mX6_isOne 2 := ⟨zw2852, zw430, by decide, by decide +kernel, by decide +kernel, by decide +kernel⟩
noncomputable def vX6_isOne_114 : rx_K := o_const 0 (o_ret1 rx_isZ)
set_option maxRecDepth 20000 in
theorem wX6_isOne_114 (hZ : zO b e D A X) : rx_OK (zV b e D A X) mX6_isOne 3 114 vX6_isOne_114 := by
  unfold vX6_isOne_114
  refine s_iconst dX6_isOne_114 (by decide +kernel) ?_
  exact s_zret rx_z_ok rfl dX6_isOne_115
noncomputable def vX6_isOne_109 : rx_K := o_ld rx_isR 0 (o_ld rx_isI 3 (o_callV 1 6 FX6_throwOne (vX6_isOne_114)))
set_option maxRecDepth 20000 in
theorem wX6_isOne_109 (hZ : zO b e D A X) : rx_OK (zV b e D A X) mX6_isOne 3 109 vX6_isOne_109 := by
  unfold vX6_isOne_109
  refine s_aload_n hZ.1 dX6_isOne_109 rfl ?_
  refine s_iload_n hZ.1 dX6_isOne_110 rfl ?_
  refine s_callV hZ.1 (Met_X6_throwOne hZ) (Nat.le_of_ble_eq_true rfl) vy_X6_throwOne zcl6 zw2809 zw165 (Or.inl zw2807) dX6_isOne_111 ?_
  exact (wX6_isOne_114 hZ)
noncomputable def vX6_isOne_100 : rx_K := o_ld rx_isR 0 (o_const 96 (o_callV 1 6 FX6_fail (vX6_isOne_114)))
set_option maxRecDepth 20000 in
theorem wX6_isOne_100 (hZ : zO b e D A X) : rx_OK (zV b e D A X) mX6_isOne 3 100 vX6_isOne_100 := by
  unfold vX6_isOne_100
  refine s_aload_n hZ.1 dX6_isOne_100 rfl ?_
  refine s_bipush dX6_isOne_101 (by decide +kernel) ?_
  refine s_callV hZ.1 (Met_X6_fail hZ) (Nat.le_of_ble_eq_true rfl) vy_X6_fail zcl6 zw2749 zw2750 (Or.inl zw2748) dX6_isOne_103 ?_
  exact s_goto dX6_isOne_106 (by decide) (wX6_isOne_114 hZ)
noncomputable def vX6_isOne_94 : rx_K := o_ld rx_isI 1 (o_const 296 (o_c2 rx_eq vX6_isOne_100 vX6_isOne_109))
set_option maxRecDepth 20000 in
theorem wX6_isOne_94 (hZ : zO b e D A X) : rx_OK (zV b e D A X) mX6_isOne 3 94 vX6_isOne_94 := by
  unfold vX6_isOne_94
  refine s_iload_n hZ.1 dX6_isOne_94 rfl ?_
  refine s_bipush dX6_isOne_95 (by decide +kernel) ?_
  exact s_icmp_ne dX6_isOne_97 (by decide) (wX6_isOne_109 hZ) (wX6_isOne_100 hZ)
noncomputable def vX6_isOne_92 : rx_K := o_const 8 (o_ret1 rx_isZ)
set_option maxRecDepth 20000 in
theorem wX6_isOne_92 (hZ : zO b e D A X) : rx_OK (zV b e D A X) mX6_isOne 3 92 vX6_isOne_92 := by
  unfold vX6_isOne_92
  refine s_iconst dX6_isOne_92 (by decide +kernel) ?_
  exact s_zret rx_z_ok rfl dX6_isOne_93
noncomputable def vX6_isOne_87 : rx_K := o_ld rx_isI 5 (o_c1 rx_eq vX6_isOne_94 vX6_isOne_92)
set_option maxRecDepth 20000 in
theorem wX6_isOne_87 (hZ : zO b e D A X) : rx_OK (zV b e D A X) mX6_isOne 3 87 vX6_isOne_87 := by
  unfold vX6_isOne_87
  refine s_iload hZ.1 dX6_isOne_87 ?_
  exact s_if_eq dX6_isOne_89 (by decide) (wX6_isOne_94 hZ) (wX6_isOne_92 hZ)
noncomputable def vX6_isOne_82 : rx_K := o_callV 1 6 FX6_push (o_const 8 (o_ret1 rx_isZ))
set_option maxRecDepth 20000 in
theorem wX6_isOne_82 (hZ : zO b e D A X) : rx_OK (zV b e D A X) mX6_isOne 3 82 vX6_isOne_82 := by
  unfold vX6_isOne_82
  refine s_callV hZ.1 (Met_X6_push hZ) (Nat.le_of_ble_eq_true rfl) vy_X6_push zcl6 zw2790 zw161 (Or.inl zw2788) dX6_isOne_82 ?_
  refine s_iconst dX6_isOne_85 (by decide +kernel) ?_
  exact s_zret rx_z_ok rfl dX6_isOne_86
noncomputable def vX6_isOne_81 : rx_K := o_const 0 (vX6_isOne_82)
set_option maxRecDepth 20000 in
theorem wX6_isOne_81 (hZ : zO b e D A X) : rx_OK (zV b e D A X) mX6_isOne 3 81 vX6_isOne_81 := by
  unfold vX6_isOne_81
  refine s_iconst dX6_isOne_81 (by decide +kernel) ?_
  exact (wX6_isOne_82 hZ)
noncomputable def vX6_isOne_77 : rx_K := o_const 8 (vX6_isOne_82)
set_option maxRecDepth 20000 in
theorem wX6_isOne_77 (hZ : zO b e D A X) : rx_OK (zV b e D A X) mX6_isOne 3 77 vX6_isOne_77 := by
  unfold vX6_isOne_77
  refine s_iconst dX6_isOne_77 (by decide +kernel) ?_
  exact s_goto dX6_isOne_78 (by decide) (wX6_isOne_82 hZ)
noncomputable def vX6_isOne_66 : rx_K := o_ld rx_isR 0 (o_callV 0 6 FX6_pop (o_pop (o_ld rx_isR 0 (o_ld rx_isI 5 (o_c1 rx_eq vX6_isOne_81 vX6_isOne_77)))))
set_option maxRecDepth 20000 in
theorem wX6_isOne_66 (hZ : zO b e D A X) : rx_OK (zV b e D A X) mX6_isOne 3 66 vX6_isOne_66 := by
  unfold vX6_isOne_66
  refine s_aload_n hZ.1 dX6_isOne_66 rfl ?_
  refine s_callV hZ.1 (Met_X6_pop hZ) (Nat.le_of_ble_eq_true rfl) vy_X6_pop zcl6 zw2794 zw162 (Or.inl zw2792) dX6_isOne_67 ?_
  refine s_pop hZ.1 dX6_isOne_70 ?_
  refine s_aload_n hZ.1 dX6_isOne_71 rfl ?_
  refine s_iload hZ.1 dX6_isOne_72 ?_
  exact s_if_eq dX6_isOne_74 (by decide) (wX6_isOne_81 hZ) (wX6_isOne_77 hZ)
noncomputable def vX6_isOne_58 : rx_K := o_st rx_isI 5 (o_ld rx_isI 1 (o_const 304 (o_c2 rx_eq vX6_isOne_66 vX6_isOne_87)))
set_option maxRecDepth 20000 in
theorem wX6_isOne_58 (hZ : zO b e D A X) : rx_OK (zV b e D A X) mX6_isOne 3 58 vX6_isOne_58 := by
  unfold vX6_isOne_58
  refine s_istore hZ.1 dX6_isOne_58 (Nat.le_of_ble_eq_true rfl) ?_
  refine s_iload_n hZ.1 dX6_isOne_60 rfl ?_
  refine s_bipush dX6_isOne_61 (by decide +kernel) ?_
  exact s_icmp_ne dX6_isOne_63 (by decide) (wX6_isOne_87 hZ) (wX6_isOne_66 hZ)
noncomputable def vX6_isOne_57 : rx_K := o_const 0 (vX6_isOne_58)
set_option maxRecDepth 20000 in
theorem wX6_isOne_57 (hZ : zO b e D A X) : rx_OK (zV b e D A X) mX6_isOne 3 57 vX6_isOne_57 := by
  unfold vX6_isOne_57
  refine s_iconst dX6_isOne_57 (by decide +kernel) ?_
  exact (wX6_isOne_58 hZ)
noncomputable def vX6_isOne_53 : rx_K := o_const 8 (vX6_isOne_58)
set_option maxRecDepth 20000 in
theorem wX6_isOne_53 (hZ : zO b e D A X) : rx_OK (zV b e D A X) mX6_isOne 3 53 vX6_isOne_53 := by
  unfold vX6_isOne_53
  refine s_iconst dX6_isOne_53 (by decide +kernel) ?_
  exact s_goto dX6_isOne_54 (by decide) (wX6_isOne_58 hZ)
noncomputable def vX6_isOne_40 : rx_K := o_ld rx_isR 0 (o_getf 6 0 (o_ld rx_isI 4 (o_ld rx_isI 2 (o_callV 2 11 FX11_heir (o_c1 rx_eq vX6_isOne_57 vX6_isOne_53)))))
set_option maxRecDepth 20000 in
theorem wX6_isOne_40 (hZ : zO b e D A X) : rx_OK (zV b e D A X) mX6_isOne 3 40 vX6_isOne_40 := by
  unfold vX6_isOne_40
  refine s_aload_n hZ.1 dX6_isOne_40 rfl ?_
  refine yg6_0 dX6_isOne_41 zw1473 ?_
  refine s_iload hZ.1 dX6_isOne_44 ?_
  refine s_iload_n hZ.1 dX6_isOne_46 rfl ?_
  refine s_callV hZ.1 (Met_X11_heir hZ) (Nat.le_of_ble_eq_true rfl) vy_X11_heir zcl11 zw1918 zw1919 (Or.inl zw2853) dX6_isOne_47 ?_
  exact s_if_eq dX6_isOne_50 (by decide) (wX6_isOne_57 hZ) (wX6_isOne_53 hZ)
noncomputable def vX6_isOne_34 : rx_K := o_ld rx_isI 4 (o_ld rx_isI 2 (o_c2 rx_eq vX6_isOne_53 vX6_isOne_40))
set_option maxRecDepth 20000 in
theorem wX6_isOne_34 (hZ : zO b e D A X) : rx_OK (zV b e D A X) mX6_isOne 3 34 vX6_isOne_34 := by
  unfold vX6_isOne_34
  refine s_iload hZ.1 dX6_isOne_34 ?_
  refine s_iload_n hZ.1 dX6_isOne_36 rfl ?_
  exact s_icmp_eq dX6_isOne_37 (by decide) (wX6_isOne_53 hZ) (wX6_isOne_40 hZ)
noncomputable def vX6_isOne_28 : rx_K := o_st rx_isI 4 (o_ld rx_isI 2 (o_c1 rx_lt vX6_isOne_57 vX6_isOne_34))
set_option maxRecDepth 20000 in
theorem wX6_isOne_28 (hZ : zO b e D A X) : rx_OK (zV b e D A X) mX6_isOne 3 28 vX6_isOne_28 := by
  unfold vX6_isOne_28
  refine s_istore hZ.1 dX6_isOne_28 (Nat.le_of_ble_eq_true rfl) ?_
  refine s_iload_n hZ.1 dX6_isOne_30 rfl ?_
  exact s_if_lt dX6_isOne_31 (by decide) (wX6_isOne_57 hZ) (wX6_isOne_34 hZ)
noncomputable def vX6_isOne_27 : rx_K := o_const 0 (vX6_isOne_28)
set_option maxRecDepth 20000 in
theorem wX6_isOne_27 (hZ : zO b e D A X) : rx_OK (zV b e D A X) mX6_isOne 3 27 vX6_isOne_27 := by
  unfold vX6_isOne_27
  refine s_iconst dX6_isOne_27 (by decide +kernel) ?_
  exact (wX6_isOne_28 hZ)
noncomputable def vX6_isOne_18 : rx_K := o_ld rx_isR 0 (o_getf 6 8 (o_ld rx_isI 3 (o_ald 0 (vX6_isOne_28))))
set_option maxRecDepth 20000 in
theorem wX6_isOne_18 (hZ : zO b e D A X) : rx_OK (zV b e D A X) mX6_isOne 3 18 vX6_isOne_18 := by
  unfold vX6_isOne_18
  refine s_aload_n hZ.1 dX6_isOne_18 rfl ?_
  refine yg6_8 dX6_isOne_19 zw1483 ?_
  refine s_iload_n hZ.1 dX6_isOne_22 rfl ?_
  refine s_iald (tt := 0) rfl dX6_isOne_23 ?_
  exact s_goto dX6_isOne_24 (by decide) (wX6_isOne_28 hZ)
noncomputable def vX6_isOne_10 : rx_K := o_ld rx_isI 3 (o_ld rx_isR 0 (o_getf 6 10 (o_c2 (fun h x y => rx_lt h y x) vX6_isOne_27 vX6_isOne_18)))
set_option maxRecDepth 20000 in
theorem wX6_isOne_10 (hZ : zO b e D A X) : rx_OK (zV b e D A X) mX6_isOne 3 10 vX6_isOne_10 := by
  unfold vX6_isOne_10
  refine s_iload_n hZ.1 dX6_isOne_10 rfl ?_
  refine s_aload_n hZ.1 dX6_isOne_11 rfl ?_
  refine yg6_10 dX6_isOne_12 zw1487 ?_
  exact s_icmp_gt dX6_isOne_15 (by decide) (wX6_isOne_27 hZ) (wX6_isOne_18 hZ)
noncomputable def vX6_isOne_0 : rx_K := o_ld rx_isR 0 (o_const 0 (o_callV 1 6 FX6_peek (o_st rx_isI 3 (o_ld rx_isI 3 (o_c1 (fun h x y => rx_lt h y x) vX6_isOne_10 vX6_isOne_27)))))
set_option maxRecDepth 20000 in
theorem wX6_isOne_0 (hZ : zO b e D A X) : rx_OK (zV b e D A X) mX6_isOne 3 0 vX6_isOne_0 := by
  unfold vX6_isOne_0
  refine s_aload_n hZ.1 dX6_isOne_0 rfl ?_
  refine s_iconst dX6_isOne_1 (by decide +kernel) ?_
  refine s_callV hZ.1 (Met_X6_peek hZ) (Nat.le_of_ble_eq_true rfl) vy_X6_peek zcl6 zw2798 zw163 (Or.inl zw2796) dX6_isOne_2 ?_
  refine s_istore_n hZ.1 dX6_isOne_5 rfl (Nat.le_of_ble_eq_true rfl) ?_
  refine s_iload_n hZ.1 dX6_isOne_6 rfl ?_
  exact s_if_le dX6_isOne_7 (by decide) (wX6_isOne_27 hZ) (wX6_isOne_10 hZ)
noncomputable def FX6_isOne : List Nat → rx_H → Option (Nat × rx_H) := rx_ent 6 vX6_isOne_0
theorem Met_X6_isOne (hZ : zO b e D A X) : rx_Met (zV b e D A X) 3 yX6_isOne mX6_isOne (FX6_isOne) := rx_entry hZ.1 (wX6_isOne_0 hZ) (by decide +kernel) rfl (fun h => by cases h)
abbrev mX6_makerOne : rx_M := (RX6, cX6_makerOne, 4, (some .boolean), false)
theorem vy_X6_makerOne : rx_Y (zV b e D A X) yX6_makerOne mX6_makerOne 3 := ⟨zw2857, zw430, by decide, by decide +kernel, by decide +kernel, by decide +kernel⟩
noncomputable def vX6_makerOne_26 : rx_K := o_ld rx_isR 1 (o_const 8 (o_dup2 (o_ald 0 (o_const 16 (o_bi (fun x y => x + y) (o_ast 0 (fun v => v) rx_isI (o_ld rx_isR 0 (o_ld rx_isI 2 (o_ld rx_isR 3 (o_ld rx_isR 3 (o_getf 7 9 (o_const 8 (o_bi (fun x y => x + y) (o_const 16 (o_callV 4 6 FX6_call (o_const 0 (o_ret1 rx_isZ)))))))))))))))))
set_option maxRecDepth 20000 in
theorem wX6_makerOne_26 (hZ : zO b e D A X) : rx_OK (zV b e D A X) mX6_makerOne 3 26 vX6_makerOne_26 := by
  unfold vX6_makerOne_26
  refine s_aload_n hZ.1 dX6_makerOne_26 rfl ?_
  refine s_iconst dX6_makerOne_27 (by decide +kernel) ?_
  refine s_dup2 hZ.1 dX6_makerOne_28 ?_
  refine s_iald (tt := 0) rfl dX6_makerOne_29 ?_
  refine s_iconst dX6_makerOne_30 (by decide +kernel) ?_
  refine s_iadd dX6_makerOne_31 ?_
  refine s_iast hZ.1 (tt := 0) rfl dX6_makerOne_32 ?_
  refine s_aload_n hZ.1 dX6_makerOne_33 rfl ?_
  refine s_iload_n hZ.1 dX6_makerOne_34 rfl ?_
  refine s_aload_n hZ.1 dX6_makerOne_35 rfl ?_
  refine s_aload_n hZ.1 dX6_makerOne_36 rfl ?_
  refine yg7_9 dX6_makerOne_37 zw1026 ?_
  refine s_iconst dX6_makerOne_40 (by decide +kernel) ?_
  refine s_iadd dX6_makerOne_41 ?_
  refine s_iconst dX6_makerOne_42 (by decide +kernel) ?_
  refine s_callV hZ.1 (Met_X6_call hZ) (Nat.le_of_ble_eq_true rfl) vy_X6_call zcl6 zw2859 zw2860 (Or.inl zw2858) dX6_makerOne_43 ?_
  refine s_iconst dX6_makerOne_46 (by decide +kernel) ?_
  exact s_zret rx_z_ok rfl dX6_makerOne_47
noncomputable def vX6_makerOne_5 : rx_K := o_ld rx_isR 0 (o_ld rx_isR 0 (o_getf 6 3 (o_ld rx_isR 3 (o_getf 7 9 (o_bi (fun x y => x - y) (o_const 8 (o_bi (fun x y => x - y) (o_const 0 (o_mm z_max (o_putf rx_isI 6 3 (o_const 8 (o_ret1 rx_isZ))))))))))))
set_option maxRecDepth 20000 in
theorem wX6_makerOne_5 (hZ : zO b e D A X) : rx_OK (zV b e D A X) mX6_makerOne 3 5 vX6_makerOne_5 := by
  unfold vX6_makerOne_5
  refine s_aload_n hZ.1 dX6_makerOne_5 rfl ?_
  refine s_aload_n hZ.1 dX6_makerOne_6 rfl ?_
  refine yg6_3 dX6_makerOne_7 zw1477 ?_
  refine s_aload_n hZ.1 dX6_makerOne_10 rfl ?_
  refine yg7_9 dX6_makerOne_11 zw1026 ?_
  refine s_isub dX6_makerOne_14 ?_
  refine s_iconst dX6_makerOne_15 (by decide +kernel) ?_
  refine s_isub dX6_makerOne_16 ?_
  refine s_iconst dX6_makerOne_17 (by decide +kernel) ?_
  refine s_mmax hZ.1 (Nat.le_of_ble_eq_true rfl) zw2815 zw2179 zw432 zmath_max dX6_makerOne_18 ?_
  refine yp6_3 hZ.1 dX6_makerOne_21 zw1477 ?_
  refine s_iconst dX6_makerOne_24 (by decide +kernel) ?_
  exact s_zret rx_z_ok rfl dX6_makerOne_25
noncomputable def vX6_makerOne_0 : rx_K := o_ld rx_isI 2 (o_const 8 (o_c2 (fun h x y => rx_lt h y x) vX6_makerOne_26 vX6_makerOne_5))
set_option maxRecDepth 20000 in
theorem wX6_makerOne_0 (hZ : zO b e D A X) : rx_OK (zV b e D A X) mX6_makerOne 3 0 vX6_makerOne_0 := by
  unfold vX6_makerOne_0
  refine s_iload_n hZ.1 dX6_makerOne_0 rfl ?_
  refine s_iconst dX6_makerOne_1 (by decide +kernel) ?_
  exact s_icmp_gt dX6_makerOne_2 (by decide) (wX6_makerOne_26 hZ) (wX6_makerOne_5 hZ)
noncomputable def FX6_makerOne : List Nat → rx_H → Option (Nat × rx_H) := rx_ent 4 vX6_makerOne_0
theorem Met_X6_makerOne (hZ : zO b e D A X) : rx_Met (zV b e D A X) 3 yX6_makerOne mX6_makerOne (FX6_makerOne) := rx_entry hZ.1 (wX6_makerOne_0 hZ) (by decide +kernel) rfl (fun h => by cases h)
abbrev mX6_newOne : rx_M := (RX6, cX6_newOne, 4, (some .boolean), false)
theorem vy_X6_newOne : rx_Y (zV b e D A X) yX6_newOne mX6_newOne 1 := ⟨zw2848, zw430, by decide, by decide +kernel, by decide +kernel, by decide +kernel⟩
noncomputable def vX6_newOne_102 (j : Nat → rx_K) : rx_K := o_ld rx_isR 0 (o_ld rx_isR 0 (o_getf 6 10 (o_callV 1 6 FX6_push (o_const 8 (o_ret1 rx_isZ)))))
set_option maxRecDepth 20000 in
theorem wX6_newOne_102 (hZ : zO b e D A X) (j : Nat → rx_K) (hj : ∀ k pc, [71][k]? = some pc → rx_OK (zV b e D A X) mX6_newOne 2 pc (j k)) : rx_OK (zV b e D A X) mX6_newOne 2 102 (vX6_newOne_102 j) := by
  unfold vX6_newOne_102
  refine s_aload_n hZ.1 dX6_newOne_102 rfl ?_
  refine s_aload_n hZ.1 dX6_newOne_103 rfl ?_
  refine yg6_10 dX6_newOne_104 zw1487 ?_
  refine s_callV hZ.1 (Met_X6_push hZ) (Nat.le_of_ble_eq_true rfl) vy_X6_push zcl6 zw2790 zw161 (Or.inl zw2788) dX6_newOne_107 ?_
  refine s_iconst dX6_newOne_110 (by decide +kernel) ?_
  exact s_zret rx_z_ok rfl dX6_newOne_111
noncomputable def vX6_newOne_76 (j : Nat → rx_K) : rx_K := o_ld rx_isR 0 (o_getf 6 11 (o_ld rx_isR 0 (o_getf 6 12 (o_const 0 (o_ast 0 (fun v => v) rx_isI (o_ld rx_isR 0 (o_dup (o_getf 6 12 (o_const 8 (o_bi (fun x y => x + y) (o_putf rx_isI 6 12 (o_inc 3 (1) ((j 0))))))))))))))
set_option maxRecDepth 20000 in
theorem wX6_newOne_76 (hZ : zO b e D A X) (j : Nat → rx_K) (hj : ∀ k pc, [71][k]? = some pc → rx_OK (zV b e D A X) mX6_newOne 2 pc (j k)) : rx_OK (zV b e D A X) mX6_newOne 2 76 (vX6_newOne_76 j) := by
  unfold vX6_newOne_76
  refine s_aload_n hZ.1 dX6_newOne_76 rfl ?_
  refine yg6_11 dX6_newOne_77 zw1489 ?_
  refine s_aload_n hZ.1 dX6_newOne_80 rfl ?_
  refine yg6_12 dX6_newOne_81 zw1491 ?_
  refine s_iconst dX6_newOne_84 (by decide +kernel) ?_
  refine s_iast hZ.1 (tt := 0) rfl dX6_newOne_85 ?_
  refine s_aload_n hZ.1 dX6_newOne_86 rfl ?_
  refine s_dup hZ.1 dX6_newOne_87 ?_
  refine yg6_12 dX6_newOne_88 zw1491 ?_
  refine s_iconst dX6_newOne_91 (by decide +kernel) ?_
  refine s_iadd dX6_newOne_92 ?_
  refine yp6_12 hZ.1 dX6_newOne_93 zw1491 ?_
  refine s_iinc hZ.1 dX6_newOne_96 (Nat.le_of_ble_eq_true rfl) ?_
  exact s_goto dX6_newOne_99 (by decide) (hj 0 71 rfl)
noncomputable def vX6_newOne_71 (j : Nat → rx_K) : rx_K := o_ld rx_isI 3 (o_ld rx_isI 2 (o_c2 rx_lt (vX6_newOne_76 j) (vX6_newOne_102 j)))
set_option maxRecDepth 20000 in
theorem wX6_newOne_71 (hZ : zO b e D A X) (j : Nat → rx_K) (hj : ∀ k pc, [71][k]? = some pc → rx_OK (zV b e D A X) mX6_newOne 2 pc (j k)) : rx_OK (zV b e D A X) mX6_newOne 2 71 (vX6_newOne_71 j) := by
  unfold vX6_newOne_71
  refine s_iload_n hZ.1 dX6_newOne_71 rfl ?_
  refine s_iload_n hZ.1 dX6_newOne_72 rfl ?_
  exact s_icmp_ge dX6_newOne_73 (by decide) (wX6_newOne_102 hZ j hj) (wX6_newOne_76 hZ j hj)
noncomputable def vX6_newOne_36 (j : Nat → rx_K) : rx_K := o_ld rx_isR 0 (o_dup (o_getf 6 10 (o_const 8 (o_bi (fun x y => x + y) (o_putf rx_isI 6 10 (o_ld rx_isR 0 (o_getf 6 8 (o_ld rx_isR 0 (o_getf 6 10 (o_ld rx_isI 1 (o_ast 0 (fun v => v) rx_isI (o_ld rx_isR 0 (o_getf 6 9 (o_ld rx_isR 0 (o_getf 6 10 (o_ld rx_isR 0 (o_getf 6 12 (o_ast 0 (fun v => v) rx_isI (o_const 0 (o_st rx_isI 3 ((vX6_newOne_71 j))))))))))))))))))))))
set_option maxRecDepth 20000 in
theorem wX6_newOne_36 (hZ : zO b e D A X) (j : Nat → rx_K) (hj : ∀ k pc, [71][k]? = some pc → rx_OK (zV b e D A X) mX6_newOne 2 pc (j k)) : rx_OK (zV b e D A X) mX6_newOne 2 36 (vX6_newOne_36 j) := by
  unfold vX6_newOne_36
  refine s_aload_n hZ.1 dX6_newOne_36 rfl ?_
  refine s_dup hZ.1 dX6_newOne_37 ?_
  refine yg6_10 dX6_newOne_38 zw1487 ?_
  refine s_iconst dX6_newOne_41 (by decide +kernel) ?_
  refine s_iadd dX6_newOne_42 ?_
  refine yp6_10 hZ.1 dX6_newOne_43 zw1487 ?_
  refine s_aload_n hZ.1 dX6_newOne_46 rfl ?_
  refine yg6_8 dX6_newOne_47 zw1483 ?_
  refine s_aload_n hZ.1 dX6_newOne_50 rfl ?_
  refine yg6_10 dX6_newOne_51 zw1487 ?_
  refine s_iload_n hZ.1 dX6_newOne_54 rfl ?_
  refine s_iast hZ.1 (tt := 0) rfl dX6_newOne_55 ?_
  refine s_aload_n hZ.1 dX6_newOne_56 rfl ?_
  refine yg6_9 dX6_newOne_57 zw1485 ?_
  refine s_aload_n hZ.1 dX6_newOne_60 rfl ?_
  refine yg6_10 dX6_newOne_61 zw1487 ?_
  refine s_aload_n hZ.1 dX6_newOne_64 rfl ?_
  refine yg6_12 dX6_newOne_65 zw1491 ?_
  refine s_iast hZ.1 (tt := 0) rfl dX6_newOne_68 ?_
  refine s_iconst dX6_newOne_69 (by decide +kernel) ?_
  refine s_istore_n hZ.1 dX6_newOne_70 rfl (Nat.le_of_ble_eq_true rfl) ?_
  exact (wX6_newOne_71 hZ j hj)
noncomputable def vX6_newOne_28 (j : Nat → rx_K) : rx_K := o_ld rx_isR 0 (o_const 128 (o_callV 1 6 FX6_fail (o_const 0 (o_ret1 rx_isZ))))
set_option maxRecDepth 20000 in
theorem wX6_newOne_28 (hZ : zO b e D A X) (j : Nat → rx_K) (hj : ∀ k pc, [71][k]? = some pc → rx_OK (zV b e D A X) mX6_newOne 2 pc (j k)) : rx_OK (zV b e D A X) mX6_newOne 2 28 (vX6_newOne_28 j) := by
  unfold vX6_newOne_28
  refine s_aload_n hZ.1 dX6_newOne_28 rfl ?_
  refine s_bipush dX6_newOne_29 (by decide +kernel) ?_
  refine s_callV hZ.1 (Met_X6_fail hZ) (Nat.le_of_ble_eq_true rfl) vy_X6_fail zcl6 zw2749 zw2750 (Or.inl zw2748) dX6_newOne_31 ?_
  refine s_iconst dX6_newOne_34 (by decide +kernel) ?_
  exact s_zret rx_z_ok rfl dX6_newOne_35
noncomputable def vX6_newOne_16 (j : Nat → rx_K) : rx_K := o_ld rx_isR 0 (o_getf 6 12 (o_ld rx_isI 2 (o_bi (fun x y => x + y) (o_const 16000 (o_c2 (fun h x y => rx_lt h y x) (vX6_newOne_28 j) (vX6_newOne_36 j))))))
set_option maxRecDepth 20000 in
theorem wX6_newOne_16 (hZ : zO b e D A X) (j : Nat → rx_K) (hj : ∀ k pc, [71][k]? = some pc → rx_OK (zV b e D A X) mX6_newOne 2 pc (j k)) : rx_OK (zV b e D A X) mX6_newOne 2 16 (vX6_newOne_16 j) := by
  unfold vX6_newOne_16
  refine s_aload_n hZ.1 dX6_newOne_16 rfl ?_
  refine yg6_12 dX6_newOne_17 zw1491 ?_
  refine s_iload_n hZ.1 dX6_newOne_20 rfl ?_
  refine s_iadd dX6_newOne_21 ?_
  refine s_sipush dX6_newOne_22 (by decide +kernel) ?_
  exact s_icmp_le dX6_newOne_25 (by decide) (wX6_newOne_36 hZ j hj) (wX6_newOne_28 hZ j hj)
noncomputable def vX6_newOne_0 (j : Nat → rx_K) : rx_K := o_ld rx_isR 0 (o_ld rx_isI 1 (o_callV 1 6 FX6_slotsTo (o_st rx_isI 2 (o_ld rx_isR 0 (o_getf 6 10 (o_const 1600 (o_c2 rx_lt (vX6_newOne_16 j) (vX6_newOne_28 j))))))))
set_option maxRecDepth 20000 in
theorem wX6_newOne_0 (hZ : zO b e D A X) (j : Nat → rx_K) (hj : ∀ k pc, [71][k]? = some pc → rx_OK (zV b e D A X) mX6_newOne 2 pc (j k)) : rx_OK (zV b e D A X) mX6_newOne 2 0 (vX6_newOne_0 j) := by
  unfold vX6_newOne_0
  refine s_aload_n hZ.1 dX6_newOne_0 rfl ?_
  refine s_iload_n hZ.1 dX6_newOne_1 rfl ?_
  refine s_callV hZ.1 (Met_X6_slotsTo hZ) (Nat.le_of_ble_eq_true rfl) vy_X6_slotsTo zcl6 zw2821 zw2822 (Or.inl zw2820) dX6_newOne_2 ?_
  refine s_istore_n hZ.1 dX6_newOne_5 rfl (Nat.le_of_ble_eq_true rfl) ?_
  refine s_aload_n hZ.1 dX6_newOne_6 rfl ?_
  refine yg6_10 dX6_newOne_7 zw1487 ?_
  refine s_sipush dX6_newOne_10 (by decide +kernel) ?_
  exact s_icmp_ge dX6_newOne_13 (by decide) (wX6_newOne_28 hZ j hj) (wX6_newOne_16 hZ j hj)
noncomputable def vhX6_newOne (j : Nat → rx_K) : List rx_K := [vX6_newOne_71 j]
theorem vlX6_newOne (hZ : zO b e D A X) : ∀ n k pc, [71][k]? = some pc → rx_OK (zV b e D A X) mX6_newOne 2 pc (rx_J (vhX6_newOne) n k) := rx_loop fun j hj k pc h => by
  match k, h with
  | 0, h =>
    have e9 := Option.some.inj (show some 71 = some pc from h)
    subst e9
    exact wX6_newOne_71 hZ j hj
  | _ + 1, h => exact absurd h (by simp)
noncomputable def FX6_newOne : List Nat → rx_H → Option (Nat × rx_H) := rx_ent 4 (vX6_newOne_0 (rx_J (vhX6_newOne) 4000000000))
theorem Met_X6_newOne (hZ : zO b e D A X) : rx_Met (zV b e D A X) 2 yX6_newOne mX6_newOne (FX6_newOne) := rx_entry hZ.1 (wX6_newOne_0 hZ _ (vlX6_newOne hZ 4000000000)) (by decide +kernel) rfl (fun h => by cases h)
abbrev mX6_selectOne : rx_M := (RX6, cX6_selectOne, 9, none, false)
theorem vy_X6_selectOne : rx_Y (zV b e D A X) yX6_selectOne mX6_selectOne 5 := ⟨zw2865, zw430, by decide, by decide +kernel, by decide +kernel, by decide +kernel⟩
noncomputable def vX6_selectOne_159 : rx_K := o_ret0
set_option maxRecDepth 20000 in
theorem wX6_selectOne_159 (hZ : zO b e D A X) : rx_OK (zV b e D A X) mX6_selectOne 3 159 vX6_selectOne_159 := by
  unfold vX6_selectOne_159
  exact s_vret rfl dX6_selectOne_159
noncomputable def vX6_selectOne_131 : rx_K := o_ld rx_isR 1 (o_const 8 (o_dup2 (o_ald 0 (o_const 16 (o_bi (fun x y => x + y) (o_ast 0 (fun v => v) rx_isI (o_ld rx_isR 0 (o_ld rx_isR 0 (o_getf 6 0 (o_getf 11 18 (o_ld rx_isR 8 (o_ld rx_isR 5 (o_getf 7 9 (o_const 8 (o_bi (fun x y => x + y) (o_const 8 (o_callV 4 6 FX6_call (vX6_selectOne_159))))))))))))))))))
set_option maxRecDepth 20000 in
theorem wX6_selectOne_131 (hZ : zO b e D A X) : rx_OK (zV b e D A X) mX6_selectOne 3 131 vX6_selectOne_131 := by
  unfold vX6_selectOne_131
  refine s_aload_n hZ.1 dX6_selectOne_131 rfl ?_
  refine s_iconst dX6_selectOne_132 (by decide +kernel) ?_
  refine s_dup2 hZ.1 dX6_selectOne_133 ?_
  refine s_iald (tt := 0) rfl dX6_selectOne_134 ?_
  refine s_iconst dX6_selectOne_135 (by decide +kernel) ?_
  refine s_iadd dX6_selectOne_136 ?_
  refine s_iast hZ.1 (tt := 0) rfl dX6_selectOne_137 ?_
  refine s_aload_n hZ.1 dX6_selectOne_138 rfl ?_
  refine s_aload_n hZ.1 dX6_selectOne_139 rfl ?_
  refine yg6_0 dX6_selectOne_140 zw1473 ?_
  refine yg11_18 dX6_selectOne_143 zw1299 ?_
  refine s_aload hZ.1 dX6_selectOne_146 ?_
  refine s_aload hZ.1 dX6_selectOne_148 ?_
  refine yg7_9 dX6_selectOne_150 zw1026 ?_
  refine s_iconst dX6_selectOne_153 (by decide +kernel) ?_
  refine s_iadd dX6_selectOne_154 ?_
  refine s_iconst dX6_selectOne_155 (by decide +kernel) ?_
  refine s_callV hZ.1 (Met_X6_call hZ) (Nat.le_of_ble_eq_true rfl) vy_X6_call zcl6 zw2859 zw2860 (Or.inl zw2858) dX6_selectOne_156 ?_
  exact (wX6_selectOne_159 hZ)
noncomputable def vX6_selectOne_123 : rx_K := o_ld rx_isR 0 (o_const 16 (o_callV 1 6 FX6_fail (vX6_selectOne_159)))
set_option maxRecDepth 20000 in
theorem wX6_selectOne_123 (hZ : zO b e D A X) : rx_OK (zV b e D A X) mX6_selectOne 3 123 vX6_selectOne_123 := by
  unfold vX6_selectOne_123
  refine s_aload_n hZ.1 dX6_selectOne_123 rfl ?_
  refine s_iconst dX6_selectOne_124 (by decide +kernel) ?_
  refine s_callV hZ.1 (Met_X6_fail hZ) (Nat.le_of_ble_eq_true rfl) vy_X6_fail zcl6 zw2749 zw2750 (Or.inl zw2748) dX6_selectOne_125 ?_
  exact s_goto dX6_selectOne_128 (by decide) (wX6_selectOne_159 hZ)
noncomputable def vX6_selectOne_115 : rx_K := o_ld rx_isR 8 (o_getf 7 1 (o_c1 rx_eq vX6_selectOne_131 vX6_selectOne_123))
set_option maxRecDepth 20000 in
theorem wX6_selectOne_115 (hZ : zO b e D A X) : rx_OK (zV b e D A X) mX6_selectOne 3 115 vX6_selectOne_115 := by
  unfold vX6_selectOne_115
  refine s_aload hZ.1 dX6_selectOne_115 ?_
  refine yg7_1 dX6_selectOne_117 zw959 ?_
  exact s_if_eq dX6_selectOne_120 (by decide) (wX6_selectOne_131 hZ) (wX6_selectOne_123 hZ)
noncomputable def vX6_selectOne_106 : rx_K := o_ld rx_isR 8 (o_getf 7 1 (o_const 24 (o_c2 rx_eq vX6_selectOne_131 vX6_selectOne_115)))
set_option maxRecDepth 20000 in
theorem wX6_selectOne_106 (hZ : zO b e D A X) : rx_OK (zV b e D A X) mX6_selectOne 3 106 vX6_selectOne_106 := by
  unfold vX6_selectOne_106
  refine s_aload hZ.1 dX6_selectOne_106 ?_
  refine yg7_1 dX6_selectOne_108 zw959 ?_
  refine s_iconst dX6_selectOne_111 (by decide +kernel) ?_
  exact s_icmp_eq dX6_selectOne_112 (by decide) (wX6_selectOne_131 hZ) (wX6_selectOne_115 hZ)
noncomputable def vX6_selectOne_100 : rx_K := o_ld rx_isI 2 (o_const 64 (o_c2 rx_eq vX6_selectOne_106 vX6_selectOne_131))
set_option maxRecDepth 20000 in
theorem wX6_selectOne_100 (hZ : zO b e D A X) : rx_OK (zV b e D A X) mX6_selectOne 3 100 vX6_selectOne_100 := by
  unfold vX6_selectOne_100
  refine s_iload_n hZ.1 dX6_selectOne_100 rfl ?_
  refine s_bipush dX6_selectOne_101 (by decide +kernel) ?_
  exact s_icmp_ne dX6_selectOne_103 (by decide) (wX6_selectOne_131 hZ) (wX6_selectOne_106 hZ)
noncomputable def vX6_selectOne_86 : rx_K := o_ld rx_isR 0 (o_ld rx_isR 0 (o_getf 6 0 (o_getf 11 19 (o_callV 1 6 FX6_fail (vX6_selectOne_159)))))
set_option maxRecDepth 20000 in
theorem wX6_selectOne_86 (hZ : zO b e D A X) : rx_OK (zV b e D A X) mX6_selectOne 3 86 vX6_selectOne_86 := by
  unfold vX6_selectOne_86
  refine s_aload_n hZ.1 dX6_selectOne_86 rfl ?_
  refine s_aload_n hZ.1 dX6_selectOne_87 rfl ?_
  refine yg6_0 dX6_selectOne_88 zw1473 ?_
  refine yg11_19 dX6_selectOne_91 zw1301 ?_
  refine s_callV hZ.1 (Met_X6_fail hZ) (Nat.le_of_ble_eq_true rfl) vy_X6_fail zcl6 zw2749 zw2750 (Or.inl zw2748) dX6_selectOne_94 ?_
  exact s_goto dX6_selectOne_97 (by decide) (wX6_selectOne_159 hZ)
noncomputable def vX6_selectOne_66 : rx_K := o_ld rx_isR 0 (o_getf 6 0 (o_ld rx_isR 5 (o_ld rx_isI 4 (o_ld rx_isI 7 (o_callV 3 11 FX11_selected (o_st rx_isR 8 (o_ld rx_isR 8 (o_nul vX6_selectOne_86 vX6_selectOne_100))))))))
set_option maxRecDepth 20000 in
theorem wX6_selectOne_66 (hZ : zO b e D A X) : rx_OK (zV b e D A X) mX6_selectOne 3 66 vX6_selectOne_66 := by
  unfold vX6_selectOne_66
  refine s_aload_n hZ.1 dX6_selectOne_66 rfl ?_
  refine yg6_0 dX6_selectOne_67 zw1473 ?_
  refine s_aload hZ.1 dX6_selectOne_70 ?_
  refine s_iload hZ.1 dX6_selectOne_72 ?_
  refine s_iload hZ.1 dX6_selectOne_74 ?_
  refine s_callV hZ.1 (Met_X11_selected hZ) (Nat.le_of_ble_eq_true rfl) vy_X11_selected zcl11 zw2030 zw2031 (Or.inl zw2866) dX6_selectOne_76 ?_
  refine s_astore hZ.1 dX6_selectOne_79 (Nat.le_of_ble_eq_true rfl) ?_
  refine s_aload hZ.1 dX6_selectOne_81 ?_
  exact s_ifnonnull dX6_selectOne_83 (by decide) (wX6_selectOne_100 hZ) (wX6_selectOne_86 hZ)
noncomputable def vX6_selectOne_60 : rx_K := o_ld rx_isR 0 (o_const 24 (o_callV 1 6 FX6_fail (o_ret0)))
set_option maxRecDepth 20000 in
theorem wX6_selectOne_60 (hZ : zO b e D A X) : rx_OK (zV b e D A X) mX6_selectOne 3 60 vX6_selectOne_60 := by
  unfold vX6_selectOne_60
  refine s_aload_n hZ.1 dX6_selectOne_60 rfl ?_
  refine s_iconst dX6_selectOne_61 (by decide +kernel) ?_
  refine s_callV hZ.1 (Met_X6_fail hZ) (Nat.le_of_ble_eq_true rfl) vy_X6_fail zcl6 zw2749 zw2750 (Or.inl zw2748) dX6_selectOne_62 ?_
  exact s_vret rfl dX6_selectOne_65
noncomputable def vX6_selectOne_47 : rx_K := o_ld rx_isR 0 (o_getf 6 0 (o_ld rx_isI 7 (o_ld rx_isI 3 (o_callV 2 11 FX11_heir (o_c1 rx_eq vX6_selectOne_60 vX6_selectOne_66)))))
set_option maxRecDepth 20000 in
theorem wX6_selectOne_47 (hZ : zO b e D A X) : rx_OK (zV b e D A X) mX6_selectOne 3 47 vX6_selectOne_47 := by
  unfold vX6_selectOne_47
  refine s_aload_n hZ.1 dX6_selectOne_47 rfl ?_
  refine yg6_0 dX6_selectOne_48 zw1473 ?_
  refine s_iload hZ.1 dX6_selectOne_51 ?_
  refine s_iload_n hZ.1 dX6_selectOne_53 rfl ?_
  refine s_callV hZ.1 (Met_X11_heir hZ) (Nat.le_of_ble_eq_true rfl) vy_X11_heir zcl11 zw1918 zw1919 (Or.inl zw2853) dX6_selectOne_54 ?_
  exact s_if_ne dX6_selectOne_57 (by decide) (wX6_selectOne_66 hZ) (wX6_selectOne_60 hZ)
noncomputable def vX6_selectOne_32 : rx_K := o_ld rx_isR 0 (o_getf 6 8 (o_ld rx_isI 6 (o_ald 0 (o_st rx_isI 7 (o_ld rx_isI 2 (o_const 64 (o_c2 rx_eq vX6_selectOne_47 vX6_selectOne_66)))))))
set_option maxRecDepth 20000 in
theorem wX6_selectOne_32 (hZ : zO b e D A X) : rx_OK (zV b e D A X) mX6_selectOne 3 32 vX6_selectOne_32 := by
  unfold vX6_selectOne_32
  refine s_aload_n hZ.1 dX6_selectOne_32 rfl ?_
  refine yg6_8 dX6_selectOne_33 zw1483 ?_
  refine s_iload hZ.1 dX6_selectOne_36 ?_
  refine s_iald (tt := 0) rfl dX6_selectOne_38 ?_
  refine s_istore hZ.1 dX6_selectOne_39 (Nat.le_of_ble_eq_true rfl) ?_
  refine s_iload_n hZ.1 dX6_selectOne_41 rfl ?_
  refine s_bipush dX6_selectOne_42 (by decide +kernel) ?_
  exact s_icmp_ne dX6_selectOne_44 (by decide) (wX6_selectOne_66 hZ) (wX6_selectOne_47 hZ)
noncomputable def vX6_selectOne_25 : rx_K := o_ld rx_isR 0 (o_const 104 (o_callV 1 6 FX6_fail (o_ret0)))
set_option maxRecDepth 20000 in
theorem wX6_selectOne_25 (hZ : zO b e D A X) : rx_OK (zV b e D A X) mX6_selectOne 3 25 vX6_selectOne_25 := by
  unfold vX6_selectOne_25
  refine s_aload_n hZ.1 dX6_selectOne_25 rfl ?_
  refine s_bipush dX6_selectOne_26 (by decide +kernel) ?_
  refine s_callV hZ.1 (Met_X6_fail hZ) (Nat.le_of_ble_eq_true rfl) vy_X6_fail zcl6 zw2749 zw2750 (Or.inl zw2748) dX6_selectOne_28 ?_
  exact s_vret rfl dX6_selectOne_31
noncomputable def vX6_selectOne_16 : rx_K := o_ld rx_isI 6 (o_ld rx_isR 0 (o_getf 6 10 (o_c2 (fun h x y => rx_lt h y x) vX6_selectOne_25 vX6_selectOne_32)))
set_option maxRecDepth 20000 in
theorem wX6_selectOne_16 (hZ : zO b e D A X) : rx_OK (zV b e D A X) mX6_selectOne 3 16 vX6_selectOne_16 := by
  unfold vX6_selectOne_16
  refine s_iload hZ.1 dX6_selectOne_16 ?_
  refine s_aload_n hZ.1 dX6_selectOne_18 rfl ?_
  refine yg6_10 dX6_selectOne_19 zw1487 ?_
  exact s_icmp_le dX6_selectOne_22 (by decide) (wX6_selectOne_32 hZ) (wX6_selectOne_25 hZ)
noncomputable def vX6_selectOne_0 : rx_K := o_ld rx_isR 0 (o_ld rx_isR 5 (o_getf 7 9 (o_callV 1 6 FX6_peek (o_st rx_isI 6 (o_ld rx_isI 6 (o_c1 (fun h x y => rx_lt h y x) vX6_selectOne_16 vX6_selectOne_25))))))
set_option maxRecDepth 20000 in
theorem wX6_selectOne_0 (hZ : zO b e D A X) : rx_OK (zV b e D A X) mX6_selectOne 3 0 vX6_selectOne_0 := by
  unfold vX6_selectOne_0
  refine s_aload_n hZ.1 dX6_selectOne_0 rfl ?_
  refine s_aload hZ.1 dX6_selectOne_1 ?_
  refine yg7_9 dX6_selectOne_3 zw1026 ?_
  refine s_callV hZ.1 (Met_X6_peek hZ) (Nat.le_of_ble_eq_true rfl) vy_X6_peek zcl6 zw2798 zw163 (Or.inl zw2796) dX6_selectOne_6 ?_
  refine s_istore hZ.1 dX6_selectOne_9 (Nat.le_of_ble_eq_true rfl) ?_
  refine s_iload hZ.1 dX6_selectOne_11 ?_
  exact s_if_le dX6_selectOne_13 (by decide) (wX6_selectOne_25 hZ) (wX6_selectOne_16 hZ)
noncomputable def FX6_selectOne : List Nat → rx_H → Option (Nat × rx_H) := rx_ent 9 vX6_selectOne_0
theorem Met_X6_selectOne (hZ : zO b e D A X) : rx_Met (zV b e D A X) 3 yX6_selectOne mX6_selectOne (FX6_selectOne) := rx_entry hZ.1 (wX6_selectOne_0 hZ) (by decide +kernel) rfl (fun h => by cases h)
end ZM20

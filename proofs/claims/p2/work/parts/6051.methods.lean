section ZM51
variable {b : Nat} {e : Nat → Value} {D : va_G} {A : Nat → ClassId} {X : State → Prop}
noncomputable def vX13_folded_226 (g : Nat → List Nat → rx_H → Option (Nat × rx_H)) (j : Nat → rx_K) : rx_K := o_ld rx_isL 5 (o_ret1 rx_isL)
set_option maxRecDepth 20000 in
theorem wX13_folded_226 {dn : Nat} {g : Nat → List Nat → rx_H → Option (Nat × rx_H)} (hZ : zO b e D A X) (hg : ∀ i y M, vl11[i]? = some (y, M) → rx_Met (zV b e D A X) dn y M (g i)) (hd : 170 ≤ dn) (j : Nat → rx_K) (hj : ∀ k pc, [8, 124][k]? = some pc → rx_OK (zV b e D A X) mX13_folded (dn + 1) pc (j k)) : rx_OK (zV b e D A X) mX13_folded (dn + 1) 226 (vX13_folded_226 g j) := by
  unfold vX13_folded_226
  refine s_lload hZ.1 dX13_folded_226 ?_
  exact s_lret rfl dX13_folded_228
noncomputable def vX13_folded_221 (g : Nat → List Nat → rx_H → Option (Nat × rx_H)) (j : Nat → rx_K) : rx_K := o_stL 5 ((j 1))
set_option maxRecDepth 20000 in
theorem wX13_folded_221 {dn : Nat} {g : Nat → List Nat → rx_H → Option (Nat × rx_H)} (hZ : zO b e D A X) (hg : ∀ i y M, vl11[i]? = some (y, M) → rx_Met (zV b e D A X) dn y M (g i)) (hd : 170 ≤ dn) (j : Nat → rx_K) (hj : ∀ k pc, [8, 124][k]? = some pc → rx_OK (zV b e D A X) mX13_folded (dn + 1) pc (j k)) : rx_OK (zV b e D A X) mX13_folded (dn + 1) 221 (vX13_folded_221 g j) := by
  unfold vX13_folded_221
  refine s_lstore hZ.1 dX13_folded_221 (Nat.le_of_ble_eq_true rfl) ?_
  exact s_goto dX13_folded_223 (by decide) (hj 1 124 rfl)
noncomputable def vX13_folded_204 (g : Nat → List Nat → rx_H → Option (Nat × rx_H)) (j : Nat → rx_K) : rx_K := o_ld rx_isR 0 (o_getf 13 70 (o_ld rx_isI 4 (o_ald 0 (o_ld rx_isL 5 (o_li (fun x => x.toInt32) (o_ld rx_isL 7 (o_li (fun x => x.toInt32) (o_callS 3 FX13_act (o_il (fun x => x.toInt64) ((vX13_folded_221 g j)))))))))))
set_option maxRecDepth 20000 in
theorem wX13_folded_204 {dn : Nat} {g : Nat → List Nat → rx_H → Option (Nat × rx_H)} (hZ : zO b e D A X) (hg : ∀ i y M, vl11[i]? = some (y, M) → rx_Met (zV b e D A X) dn y M (g i)) (hd : 170 ≤ dn) (j : Nat → rx_K) (hj : ∀ k pc, [8, 124][k]? = some pc → rx_OK (zV b e D A X) mX13_folded (dn + 1) pc (j k)) : rx_OK (zV b e D A X) mX13_folded (dn + 1) 204 (vX13_folded_204 g j) := by
  unfold vX13_folded_204
  refine s_aload_n hZ.1 dX13_folded_204 rfl ?_
  refine yg13_70 dX13_folded_205 zw4191 ?_
  refine s_iload hZ.1 dX13_folded_208 ?_
  refine s_iald (tt := 0) rfl dX13_folded_210 ?_
  refine s_lload hZ.1 dX13_folded_211 ?_
  refine s_l2i dX13_folded_213 ?_
  refine s_lload hZ.1 dX13_folded_214 ?_
  refine s_l2i dX13_folded_216 ?_
  refine s_callS hZ.1 (Met_X13_act hZ) (Nat.succ_le_succ (Nat.le_trans (Nat.le_of_ble_eq_true rfl) hd)) vy_X13_act zw3386 (Or.inl zw3385) dX13_folded_217 ?_
  refine s_i2l dX13_folded_220 ?_
  exact (wX13_folded_221 hZ hg hd j hj)
noncomputable def vX13_folded_198 (g : Nat → List Nat → rx_H → Option (Nat × rx_H)) (j : Nat → rx_K) : rx_K := o_const 73786976294838206465 ((vX13_folded_221 g j))
set_option maxRecDepth 20000 in
theorem wX13_folded_198 {dn : Nat} {g : Nat → List Nat → rx_H → Option (Nat × rx_H)} (hZ : zO b e D A X) (hg : ∀ i y M, vl11[i]? = some (y, M) → rx_Met (zV b e D A X) dn y M (g i)) (hd : 170 ≤ dn) (j : Nat → rx_K) (hj : ∀ k pc, [8, 124][k]? = some pc → rx_OK (zV b e D A X) mX13_folded (dn + 1) pc (j k)) : rx_OK (zV b e D A X) mX13_folded (dn + 1) 198 (vX13_folded_198 g j) := by
  unfold vX13_folded_198
  refine s_ldc2 dX13_folded_198 zw3344 (by decide +kernel) ?_
  exact s_goto dX13_folded_201 (by decide) (wX13_folded_221 hZ hg hd j hj)
noncomputable def vX13_folded_189 (g : Nat → List Nat → rx_H → Option (Nat × rx_H)) (j : Nat → rx_K) : rx_K := o_ld rx_isL 7 (o_const 73786976294838206465 (o_bc (fun x y => lg_cmp x y) (o_c1 rx_eq (vX13_folded_198 g j) (vX13_folded_204 g j))))
set_option maxRecDepth 20000 in
theorem wX13_folded_189 {dn : Nat} {g : Nat → List Nat → rx_H → Option (Nat × rx_H)} (hZ : zO b e D A X) (hg : ∀ i y M, vl11[i]? = some (y, M) → rx_Met (zV b e D A X) dn y M (g i)) (hd : 170 ≤ dn) (j : Nat → rx_K) (hj : ∀ k pc, [8, 124][k]? = some pc → rx_OK (zV b e D A X) mX13_folded (dn + 1) pc (j k)) : rx_OK (zV b e D A X) mX13_folded (dn + 1) 189 (vX13_folded_189 g j) := by
  unfold vX13_folded_189
  refine s_lload hZ.1 dX13_folded_189 ?_
  refine s_ldc2 dX13_folded_191 zw3344 (by decide +kernel) ?_
  refine s_lcmp dX13_folded_194 ?_
  exact s_if_ne dX13_folded_195 (by decide) (wX13_folded_204 hZ hg hd j hj) (wX13_folded_198 hZ hg hd j hj)
noncomputable def vX13_folded_166 (g : Nat → List Nat → rx_H → Option (Nat × rx_H)) (j : Nat → rx_K) : rx_K := o_ld rx_isR 0 (o_ld rx_isR 0 (o_getf 13 78 (o_ld rx_isI 4 (o_ald 0 (o_ld rx_isI 2 (o_callV 2 13 (g 0) (o_stL 7 (o_ld rx_isL 5 (o_const 73786976294838206465 (o_bc (fun x y => lg_cmp x y) (o_c1 rx_eq (vX13_folded_198 g j) (vX13_folded_189 g j))))))))))))
set_option maxRecDepth 20000 in
theorem wX13_folded_166 {dn : Nat} {g : Nat → List Nat → rx_H → Option (Nat × rx_H)} (hZ : zO b e D A X) (hg : ∀ i y M, vl11[i]? = some (y, M) → rx_Met (zV b e D A X) dn y M (g i)) (hd : 170 ≤ dn) (j : Nat → rx_K) (hj : ∀ k pc, [8, 124][k]? = some pc → rx_OK (zV b e D A X) mX13_folded (dn + 1) pc (j k)) : rx_OK (zV b e D A X) mX13_folded (dn + 1) 166 (vX13_folded_166 g j) := by
  unfold vX13_folded_166
  refine s_aload_n hZ.1 dX13_folded_166 rfl ?_
  refine s_aload_n hZ.1 dX13_folded_167 rfl ?_
  refine yg13_78 dX13_folded_168 zw4199 ?_
  refine s_iload hZ.1 dX13_folded_171 ?_
  refine s_iald (tt := 0) rfl dX13_folded_173 ?_
  refine s_iload_n hZ.1 dX13_folded_174 rfl ?_
  refine s_callV hZ.1 (hg 0 _ _ rfl) (Nat.le_refl _) vy_X13_folded zcl13 zw3335 zw260 (Or.inl zw3333) dX13_folded_175 ?_
  refine s_lstore hZ.1 dX13_folded_178 (Nat.le_of_ble_eq_true rfl) ?_
  refine s_lload hZ.1 dX13_folded_180 ?_
  refine s_ldc2 dX13_folded_182 zw3344 (by decide +kernel) ?_
  refine s_lcmp dX13_folded_185 ?_
  exact s_if_eq dX13_folded_186 (by decide) (wX13_folded_198 hZ hg hd j hj) (wX13_folded_189 hZ hg hd j hj)
noncomputable def vX13_folded_132 (g : Nat → List Nat → rx_H → Option (Nat × rx_H)) (j : Nat → rx_K) : rx_K := o_ld rx_isR 0 (o_dup (o_getf 13 108 (o_const 8 (o_bi (fun x y => x - y) (o_putf rx_isI 13 108 (o_ld rx_isR 0 (o_getf 13 107 (o_ld rx_isR 0 (o_getf 13 108 (o_ald 0 (o_st rx_isI 4 (o_ld rx_isR 0 (o_getf 13 70 (o_ld rx_isI 4 (o_ald 0 (o_callS 1 FX13_isTwo (o_c1 rx_eq (j 1) (vX13_folded_166 g j))))))))))))))))))
set_option maxRecDepth 20000 in
theorem wX13_folded_132 {dn : Nat} {g : Nat → List Nat → rx_H → Option (Nat × rx_H)} (hZ : zO b e D A X) (hg : ∀ i y M, vl11[i]? = some (y, M) → rx_Met (zV b e D A X) dn y M (g i)) (hd : 170 ≤ dn) (j : Nat → rx_K) (hj : ∀ k pc, [8, 124][k]? = some pc → rx_OK (zV b e D A X) mX13_folded (dn + 1) pc (j k)) : rx_OK (zV b e D A X) mX13_folded (dn + 1) 132 (vX13_folded_132 g j) := by
  unfold vX13_folded_132
  refine s_aload_n hZ.1 dX13_folded_132 rfl ?_
  refine s_dup hZ.1 dX13_folded_133 ?_
  refine yg13_108 dX13_folded_134 zw4228 ?_
  refine s_iconst dX13_folded_137 (by decide +kernel) ?_
  refine s_isub dX13_folded_138 ?_
  refine yp13_108 hZ.1 dX13_folded_139 zw4228 ?_
  refine s_aload_n hZ.1 dX13_folded_142 rfl ?_
  refine yg13_107 dX13_folded_143 zw4227 ?_
  refine s_aload_n hZ.1 dX13_folded_146 rfl ?_
  refine yg13_108 dX13_folded_147 zw4228 ?_
  refine s_iald (tt := 0) rfl dX13_folded_150 ?_
  refine s_istore hZ.1 dX13_folded_151 (Nat.le_of_ble_eq_true rfl) ?_
  refine s_aload_n hZ.1 dX13_folded_153 rfl ?_
  refine yg13_70 dX13_folded_154 zw4191 ?_
  refine s_iload hZ.1 dX13_folded_157 ?_
  refine s_iald (tt := 0) rfl dX13_folded_159 ?_
  refine s_callS hZ.1 (Met_X13_isTwo hZ) (Nat.succ_le_succ (Nat.le_trans (Nat.le_of_ble_eq_true rfl) hd)) vy_X13_isTwo zw3338 (Or.inl zw3337) dX13_folded_160 ?_
  exact s_if_eq dX13_folded_163 (by decide) (hj 1 124 rfl) (wX13_folded_166 hZ hg hd j hj)
noncomputable def vX13_folded_124 (g : Nat → List Nat → rx_H → Option (Nat × rx_H)) (j : Nat → rx_K) : rx_K := o_ld rx_isR 0 (o_getf 13 108 (o_ld rx_isI 3 (o_c2 (fun h x y => rx_lt h y x) (vX13_folded_132 g j) (vX13_folded_226 g j))))
set_option maxRecDepth 20000 in
theorem wX13_folded_124 {dn : Nat} {g : Nat → List Nat → rx_H → Option (Nat × rx_H)} (hZ : zO b e D A X) (hg : ∀ i y M, vl11[i]? = some (y, M) → rx_Met (zV b e D A X) dn y M (g i)) (hd : 170 ≤ dn) (j : Nat → rx_K) (hj : ∀ k pc, [8, 124][k]? = some pc → rx_OK (zV b e D A X) mX13_folded (dn + 1) pc (j k)) : rx_OK (zV b e D A X) mX13_folded (dn + 1) 124 (vX13_folded_124 g j) := by
  unfold vX13_folded_124
  refine s_aload_n hZ.1 dX13_folded_124 rfl ?_
  refine yg13_108 dX13_folded_125 zw4228 ?_
  refine s_iload_n hZ.1 dX13_folded_128 rfl ?_
  exact s_icmp_le dX13_folded_129 (by decide) (wX13_folded_226 hZ hg hd j hj) (wX13_folded_132 hZ hg hd j hj)
noncomputable def vX13_folded_122 (g : Nat → List Nat → rx_H → Option (Nat × rx_H)) (j : Nat → rx_K) : rx_K := o_stL 5 ((vX13_folded_124 g j))
set_option maxRecDepth 20000 in
theorem wX13_folded_122 {dn : Nat} {g : Nat → List Nat → rx_H → Option (Nat × rx_H)} (hZ : zO b e D A X) (hg : ∀ i y M, vl11[i]? = some (y, M) → rx_Met (zV b e D A X) dn y M (g i)) (hd : 170 ≤ dn) (j : Nat → rx_K) (hj : ∀ k pc, [8, 124][k]? = some pc → rx_OK (zV b e D A X) mX13_folded (dn + 1) pc (j k)) : rx_OK (zV b e D A X) mX13_folded (dn + 1) 122 (vX13_folded_122 g j) := by
  unfold vX13_folded_122
  refine s_lstore hZ.1 dX13_folded_122 (Nat.le_of_ble_eq_true rfl) ?_
  exact (wX13_folded_124 hZ hg hd j hj)
noncomputable def vX13_folded_119 (g : Nat → List Nat → rx_H → Option (Nat × rx_H)) (j : Nat → rx_K) : rx_K := o_const 73786976294838206465 ((vX13_folded_122 g j))
set_option maxRecDepth 20000 in
theorem wX13_folded_119 {dn : Nat} {g : Nat → List Nat → rx_H → Option (Nat × rx_H)} (hZ : zO b e D A X) (hg : ∀ i y M, vl11[i]? = some (y, M) → rx_Met (zV b e D A X) dn y M (g i)) (hd : 170 ≤ dn) (j : Nat → rx_K) (hj : ∀ k pc, [8, 124][k]? = some pc → rx_OK (zV b e D A X) mX13_folded (dn + 1) pc (j k)) : rx_OK (zV b e D A X) mX13_folded (dn + 1) 119 (vX13_folded_119 g j) := by
  unfold vX13_folded_119
  refine s_ldc2 dX13_folded_119 zw3344 (by decide +kernel) ?_
  exact (wX13_folded_122 hZ hg hd j hj)
noncomputable def vX13_folded_109 (g : Nat → List Nat → rx_H → Option (Nat × rx_H)) (j : Nat → rx_K) : rx_K := o_ld rx_isR 0 (o_ld rx_isI 4 (o_ld rx_isI 2 (o_callV 2 13 FX13_knownConstant ((vX13_folded_122 g j)))))
set_option maxRecDepth 20000 in
theorem wX13_folded_109 {dn : Nat} {g : Nat → List Nat → rx_H → Option (Nat × rx_H)} (hZ : zO b e D A X) (hg : ∀ i y M, vl11[i]? = some (y, M) → rx_Met (zV b e D A X) dn y M (g i)) (hd : 170 ≤ dn) (j : Nat → rx_K) (hj : ∀ k pc, [8, 124][k]? = some pc → rx_OK (zV b e D A X) mX13_folded (dn + 1) pc (j k)) : rx_OK (zV b e D A X) mX13_folded (dn + 1) 109 (vX13_folded_109 g j) := by
  unfold vX13_folded_109
  refine s_aload_n hZ.1 dX13_folded_109 rfl ?_
  refine s_iload hZ.1 dX13_folded_110 ?_
  refine s_iload_n hZ.1 dX13_folded_112 rfl ?_
  refine s_callV hZ.1 (Met_X13_knownConstant hZ) (Nat.succ_le_succ (Nat.le_trans (Nat.le_of_ble_eq_true rfl) hd)) vy_X13_knownConstant zcl13 zw3342 zw261 (Or.inl zw3340) dX13_folded_113 ?_
  exact s_goto dX13_folded_116 (by decide) (wX13_folded_122 hZ hg hd j hj)
noncomputable def vX13_folded_98 (g : Nat → List Nat → rx_H → Option (Nat × rx_H)) (j : Nat → rx_K) : rx_K := o_ld rx_isR 0 (o_getf 13 70 (o_ld rx_isI 4 (o_ald 0 (o_const 40 (o_c2 rx_eq (vX13_folded_109 g j) (vX13_folded_119 g j))))))
set_option maxRecDepth 20000 in
theorem wX13_folded_98 {dn : Nat} {g : Nat → List Nat → rx_H → Option (Nat × rx_H)} (hZ : zO b e D A X) (hg : ∀ i y M, vl11[i]? = some (y, M) → rx_Met (zV b e D A X) dn y M (g i)) (hd : 170 ≤ dn) (j : Nat → rx_K) (hj : ∀ k pc, [8, 124][k]? = some pc → rx_OK (zV b e D A X) mX13_folded (dn + 1) pc (j k)) : rx_OK (zV b e D A X) mX13_folded (dn + 1) 98 (vX13_folded_98 g j) := by
  unfold vX13_folded_98
  refine s_aload_n hZ.1 dX13_folded_98 rfl ?_
  refine yg13_70 dX13_folded_99 zw4191 ?_
  refine s_iload hZ.1 dX13_folded_102 ?_
  refine s_iald (tt := 0) rfl dX13_folded_104 ?_
  refine s_iconst dX13_folded_105 (by decide +kernel) ?_
  exact s_icmp_ne dX13_folded_106 (by decide) (wX13_folded_119 hZ hg hd j hj) (wX13_folded_109 hZ hg hd j hj)
noncomputable def vX13_folded_87 (g : Nat → List Nat → rx_H → Option (Nat × rx_H)) (j : Nat → rx_K) : rx_K := o_ld rx_isR 0 (o_getf 13 70 (o_ld rx_isI 4 (o_ald 0 (o_const 24 (o_c2 rx_eq (vX13_folded_109 g j) (vX13_folded_98 g j))))))
set_option maxRecDepth 20000 in
theorem wX13_folded_87 {dn : Nat} {g : Nat → List Nat → rx_H → Option (Nat × rx_H)} (hZ : zO b e D A X) (hg : ∀ i y M, vl11[i]? = some (y, M) → rx_Met (zV b e D A X) dn y M (g i)) (hd : 170 ≤ dn) (j : Nat → rx_K) (hj : ∀ k pc, [8, 124][k]? = some pc → rx_OK (zV b e D A X) mX13_folded (dn + 1) pc (j k)) : rx_OK (zV b e D A X) mX13_folded (dn + 1) 87 (vX13_folded_87 g j) := by
  unfold vX13_folded_87
  refine s_aload_n hZ.1 dX13_folded_87 rfl ?_
  refine yg13_70 dX13_folded_88 zw4191 ?_
  refine s_iload hZ.1 dX13_folded_91 ?_
  refine s_iald (tt := 0) rfl dX13_folded_93 ?_
  refine s_iconst dX13_folded_94 (by decide +kernel) ?_
  exact s_icmp_eq dX13_folded_95 (by decide) (wX13_folded_109 hZ hg hd j hj) (wX13_folded_98 hZ hg hd j hj)
noncomputable def vX13_folded_76 (g : Nat → List Nat → rx_H → Option (Nat × rx_H)) (j : Nat → rx_K) : rx_K := o_ld rx_isR 0 (o_getf 13 81 (o_ld rx_isI 4 (o_ald 0 (o_il (fun x => x.toInt64) ((vX13_folded_122 g j))))))
set_option maxRecDepth 20000 in
theorem wX13_folded_76 {dn : Nat} {g : Nat → List Nat → rx_H → Option (Nat × rx_H)} (hZ : zO b e D A X) (hg : ∀ i y M, vl11[i]? = some (y, M) → rx_Met (zV b e D A X) dn y M (g i)) (hd : 170 ≤ dn) (j : Nat → rx_K) (hj : ∀ k pc, [8, 124][k]? = some pc → rx_OK (zV b e D A X) mX13_folded (dn + 1) pc (j k)) : rx_OK (zV b e D A X) mX13_folded (dn + 1) 76 (vX13_folded_76 g j) := by
  unfold vX13_folded_76
  refine s_aload_n hZ.1 dX13_folded_76 rfl ?_
  refine yg13_81 dX13_folded_77 zw4202 ?_
  refine s_iload hZ.1 dX13_folded_80 ?_
  refine s_iald (tt := 0) rfl dX13_folded_82 ?_
  refine s_i2l dX13_folded_83 ?_
  exact s_goto dX13_folded_84 (by decide) (wX13_folded_122 hZ hg hd j hj)
noncomputable def vX13_folded_66 (g : Nat → List Nat → rx_H → Option (Nat × rx_H)) (j : Nat → rx_K) : rx_K := o_ld rx_isR 0 (o_getf 13 70 (o_ld rx_isI 4 (o_ald 0 (o_c1 rx_eq (vX13_folded_76 g j) (vX13_folded_87 g j)))))
set_option maxRecDepth 20000 in
theorem wX13_folded_66 {dn : Nat} {g : Nat → List Nat → rx_H → Option (Nat × rx_H)} (hZ : zO b e D A X) (hg : ∀ i y M, vl11[i]? = some (y, M) → rx_Met (zV b e D A X) dn y M (g i)) (hd : 170 ≤ dn) (j : Nat → rx_K) (hj : ∀ k pc, [8, 124][k]? = some pc → rx_OK (zV b e D A X) mX13_folded (dn + 1) pc (j k)) : rx_OK (zV b e D A X) mX13_folded (dn + 1) 66 (vX13_folded_66 g j) := by
  unfold vX13_folded_66
  refine s_aload_n hZ.1 dX13_folded_66 rfl ?_
  refine yg13_70 dX13_folded_67 zw4191 ?_
  refine s_iload hZ.1 dX13_folded_70 ?_
  refine s_iald (tt := 0) rfl dX13_folded_72 ?_
  exact s_if_ne dX13_folded_73 (by decide) (wX13_folded_87 hZ hg hd j hj) (wX13_folded_76 hZ hg hd j hj)
noncomputable def vX13_folded_33 (g : Nat → List Nat → rx_H → Option (Nat × rx_H)) (j : Nat → rx_K) : rx_K := o_ld rx_isR 0 (o_getf 13 107 (o_ld rx_isR 0 (o_getf 13 108 (o_ld rx_isI 4 (o_ast 0 (fun v => v) rx_isI (o_ld rx_isR 0 (o_dup (o_getf 13 108 (o_const 8 (o_bi (fun x y => x + y) (o_putf rx_isI 13 108 (o_ld rx_isR 0 (o_getf 13 77 (o_ld rx_isI 4 (o_ald 0 (o_st rx_isI 4 ((j 0))))))))))))))))))
set_option maxRecDepth 20000 in
theorem wX13_folded_33 {dn : Nat} {g : Nat → List Nat → rx_H → Option (Nat × rx_H)} (hZ : zO b e D A X) (hg : ∀ i y M, vl11[i]? = some (y, M) → rx_Met (zV b e D A X) dn y M (g i)) (hd : 170 ≤ dn) (j : Nat → rx_K) (hj : ∀ k pc, [8, 124][k]? = some pc → rx_OK (zV b e D A X) mX13_folded (dn + 1) pc (j k)) : rx_OK (zV b e D A X) mX13_folded (dn + 1) 33 (vX13_folded_33 g j) := by
  unfold vX13_folded_33
  refine s_aload_n hZ.1 dX13_folded_33 rfl ?_
  refine yg13_107 dX13_folded_34 zw4227 ?_
  refine s_aload_n hZ.1 dX13_folded_37 rfl ?_
  refine yg13_108 dX13_folded_38 zw4228 ?_
  refine s_iload hZ.1 dX13_folded_41 ?_
  refine s_iast hZ.1 (tt := 0) rfl dX13_folded_43 ?_
  refine s_aload_n hZ.1 dX13_folded_44 rfl ?_
  refine s_dup hZ.1 dX13_folded_45 ?_
  refine yg13_108 dX13_folded_46 zw4228 ?_
  refine s_iconst dX13_folded_49 (by decide +kernel) ?_
  refine s_iadd dX13_folded_50 ?_
  refine yp13_108 hZ.1 dX13_folded_51 zw4228 ?_
  refine s_aload_n hZ.1 dX13_folded_54 rfl ?_
  refine yg13_77 dX13_folded_55 zw4198 ?_
  refine s_iload hZ.1 dX13_folded_58 ?_
  refine s_iald (tt := 0) rfl dX13_folded_60 ?_
  refine s_istore hZ.1 dX13_folded_61 (Nat.le_of_ble_eq_true rfl) ?_
  exact s_goto dX13_folded_63 (by decide) (hj 0 8 rfl)
noncomputable def vX13_folded_21 (g : Nat → List Nat → rx_H → Option (Nat × rx_H)) (j : Nat → rx_K) : rx_K := o_ld rx_isR 0 (o_getf 13 70 (o_ld rx_isI 4 (o_ald 0 (o_const 88 (o_c2 rx_eq (vX13_folded_33 g j) (vX13_folded_66 g j))))))
set_option maxRecDepth 20000 in
theorem wX13_folded_21 {dn : Nat} {g : Nat → List Nat → rx_H → Option (Nat × rx_H)} (hZ : zO b e D A X) (hg : ∀ i y M, vl11[i]? = some (y, M) → rx_Met (zV b e D A X) dn y M (g i)) (hd : 170 ≤ dn) (j : Nat → rx_K) (hj : ∀ k pc, [8, 124][k]? = some pc → rx_OK (zV b e D A X) mX13_folded (dn + 1) pc (j k)) : rx_OK (zV b e D A X) mX13_folded (dn + 1) 21 (vX13_folded_21 g j) := by
  unfold vX13_folded_21
  refine s_aload_n hZ.1 dX13_folded_21 rfl ?_
  refine yg13_70 dX13_folded_22 zw4191 ?_
  refine s_iload hZ.1 dX13_folded_25 ?_
  refine s_iald (tt := 0) rfl dX13_folded_27 ?_
  refine s_bipush dX13_folded_28 (by decide +kernel) ?_
  exact s_icmp_ne dX13_folded_30 (by decide) (wX13_folded_66 hZ hg hd j hj) (wX13_folded_33 hZ hg hd j hj)
noncomputable def vX13_folded_8 (g : Nat → List Nat → rx_H → Option (Nat × rx_H)) (j : Nat → rx_K) : rx_K := o_ld rx_isR 0 (o_getf 13 70 (o_ld rx_isI 4 (o_ald 0 (o_callS 1 FX13_isTwo (o_c1 rx_eq (vX13_folded_21 g j) (vX13_folded_33 g j))))))
set_option maxRecDepth 20000 in
theorem wX13_folded_8 {dn : Nat} {g : Nat → List Nat → rx_H → Option (Nat × rx_H)} (hZ : zO b e D A X) (hg : ∀ i y M, vl11[i]? = some (y, M) → rx_Met (zV b e D A X) dn y M (g i)) (hd : 170 ≤ dn) (j : Nat → rx_K) (hj : ∀ k pc, [8, 124][k]? = some pc → rx_OK (zV b e D A X) mX13_folded (dn + 1) pc (j k)) : rx_OK (zV b e D A X) mX13_folded (dn + 1) 8 (vX13_folded_8 g j) := by
  unfold vX13_folded_8
  refine s_aload_n hZ.1 dX13_folded_8 rfl ?_
  refine yg13_70 dX13_folded_9 zw4191 ?_
  refine s_iload hZ.1 dX13_folded_12 ?_
  refine s_iald (tt := 0) rfl dX13_folded_14 ?_
  refine s_callS hZ.1 (Met_X13_isTwo hZ) (Nat.succ_le_succ (Nat.le_trans (Nat.le_of_ble_eq_true rfl) hd)) vy_X13_isTwo zw3338 (Or.inl zw3337) dX13_folded_15 ?_
  exact s_if_ne dX13_folded_18 (by decide) (wX13_folded_33 hZ hg hd j hj) (wX13_folded_21 hZ hg hd j hj)
noncomputable def vX13_folded_0 (g : Nat → List Nat → rx_H → Option (Nat × rx_H)) (j : Nat → rx_K) : rx_K := o_ld rx_isR 0 (o_getf 13 108 (o_st rx_isI 3 (o_ld rx_isI 1 (o_st rx_isI 4 ((vX13_folded_8 g j))))))
set_option maxRecDepth 20000 in
theorem wX13_folded_0 {dn : Nat} {g : Nat → List Nat → rx_H → Option (Nat × rx_H)} (hZ : zO b e D A X) (hg : ∀ i y M, vl11[i]? = some (y, M) → rx_Met (zV b e D A X) dn y M (g i)) (hd : 170 ≤ dn) (j : Nat → rx_K) (hj : ∀ k pc, [8, 124][k]? = some pc → rx_OK (zV b e D A X) mX13_folded (dn + 1) pc (j k)) : rx_OK (zV b e D A X) mX13_folded (dn + 1) 0 (vX13_folded_0 g j) := by
  unfold vX13_folded_0
  refine s_aload_n hZ.1 dX13_folded_0 rfl ?_
  refine yg13_108 dX13_folded_1 zw4228 ?_
  refine s_istore_n hZ.1 dX13_folded_4 rfl (Nat.le_of_ble_eq_true rfl) ?_
  refine s_iload_n hZ.1 dX13_folded_5 rfl ?_
  refine s_istore hZ.1 dX13_folded_6 (Nat.le_of_ble_eq_true rfl) ?_
  exact (wX13_folded_8 hZ hg hd j hj)
noncomputable def vhX13_folded (g : Nat → List Nat → rx_H → Option (Nat × rx_H)) (j : Nat → rx_K) : List rx_K := [vX13_folded_8 g j, vX13_folded_124 g j]
theorem vlX13_folded {dn : Nat} {g : Nat → List Nat → rx_H → Option (Nat × rx_H)} (hZ : zO b e D A X) (hg : ∀ i y M, vl11[i]? = some (y, M) → rx_Met (zV b e D A X) dn y M (g i)) (hd : 170 ≤ dn) : ∀ n k pc, [8, 124][k]? = some pc → rx_OK (zV b e D A X) mX13_folded (dn + 1) pc (rx_J (vhX13_folded g) n k) := rx_loop fun j hj k pc h => by
  match k, h with
  | 0, h =>
    have e9 := Option.some.inj (show some 8 = some pc from h)
    subst e9
    exact wX13_folded_8 hZ hg hd j hj
  | 1, h =>
    have e9 := Option.some.inj (show some 124 = some pc from h)
    subst e9
    exact wX13_folded_124 hZ hg hd j hj
  | _ + 2, h => exact absurd h (by simp)
noncomputable def FX13_folded (g : Nat → List Nat → rx_H → Option (Nat × rx_H)) : List Nat → rx_H → Option (Nat × rx_H) := rx_ent 9 (vX13_folded_0 g (rx_J (vhX13_folded g) 4000000000))
theorem Met_X13_folded {dn : Nat} {g : Nat → List Nat → rx_H → Option (Nat × rx_H)} (hZ : zO b e D A X) (hg : ∀ i y M, vl11[i]? = some (y, M) → rx_Met (zV b e D A X) dn y M (g i)) (hd : 170 ≤ dn) : rx_Met (zV b e D A X) (dn + 1) yX13_folded mX13_folded (FX13_folded g) := rx_entry hZ.1 (wX13_folded_0 hZ hg hd _ (vlX13_folded hZ hg hd 4000000000)) (by decide +kernel) rfl (fun h => by cases h)
noncomputable def q11 (n : Nat) : Nat → List Nat → rx_H → Option (Nat × rx_H) := Nat.rec (fun _ _ _ => none) (fun _ ih i => rx_nth [FX13_folded ih] i (fun _ _ => none)) n
theorem q11_ok (hZ : zO b e D A X) : ∀ n i y M, vl11[i]? = some (y, M) → rx_Met (zV b e D A X) (170 + n) y M (q11 n i)
  | 0 => fun i y M _ As h r h2 hf => by cases hf
  | n + 1 => fun i y M h => by
    match i, h with
    | 0, h => cases h; exact Met_X13_folded hZ (q11_ok hZ n) (Nat.le_add_right 170 n)
    | _ + 1, h => exact absurd h (by simp)
abbrev mX13_constants : rx_M := (RX13, cX13_constants, 7, none, false)
theorem vy_X13_constants : rx_Y (zV b e D A X) yX13_constants mX13_constants 0 := ⟨zw3332, zw431, by decide, by decide +kernel, by decide +kernel, by decide +kernel⟩
noncomputable def vX13_constants_176 (j : Nat → rx_K) : rx_K := o_ret0
set_option maxRecDepth 20000 in
theorem wX13_constants_176 (hZ : zO b e D A X) (j : Nat → rx_K) (hj : ∀ k pc, [2, 27][k]? = some pc → rx_OK (zV b e D A X) mX13_constants 371 pc (j k)) : rx_OK (zV b e D A X) mX13_constants 371 176 (vX13_constants_176 j) := by
  unfold vX13_constants_176
  exact s_vret rfl dX13_constants_176
noncomputable def vX13_constants_170 (j : Nat → rx_K) : rx_K := o_inc 1 (1) ((j 0))
set_option maxRecDepth 20000 in
theorem wX13_constants_170 (hZ : zO b e D A X) (j : Nat → rx_K) (hj : ∀ k pc, [2, 27][k]? = some pc → rx_OK (zV b e D A X) mX13_constants 371 pc (j k)) : rx_OK (zV b e D A X) mX13_constants 371 170 (vX13_constants_170 j) := by
  unfold vX13_constants_170
  refine s_iinc hZ.1 dX13_constants_170 (Nat.le_of_ble_eq_true rfl) ?_
  exact s_goto dX13_constants_173 (by decide) (hj 0 2 rfl)
noncomputable def vX13_constants_164 (j : Nat → rx_K) : rx_K := o_inc 3 (1) ((j 1))
set_option maxRecDepth 20000 in
theorem wX13_constants_164 (hZ : zO b e D A X) (j : Nat → rx_K) (hj : ∀ k pc, [2, 27][k]? = some pc → rx_OK (zV b e D A X) mX13_constants 371 pc (j k)) : rx_OK (zV b e D A X) mX13_constants 371 164 (vX13_constants_164 j) := by
  unfold vX13_constants_164
  refine s_iinc hZ.1 dX13_constants_164 (Nat.le_of_ble_eq_true rfl) ?_
  exact s_goto dX13_constants_167 (by decide) (hj 1 27 rfl)
noncomputable def vX13_constants_163 (j : Nat → rx_K) : rx_K := o_ast 0 (fun v => v) rx_isI ((vX13_constants_164 j))
set_option maxRecDepth 20000 in
theorem wX13_constants_163 (hZ : zO b e D A X) (j : Nat → rx_K) (hj : ∀ k pc, [2, 27][k]? = some pc → rx_OK (zV b e D A X) mX13_constants 371 pc (j k)) : rx_OK (zV b e D A X) mX13_constants 371 163 (vX13_constants_163 j) := by
  unfold vX13_constants_163
  refine s_iast hZ.1 (tt := 0) rfl dX13_constants_163 ?_
  exact (wX13_constants_164 hZ j hj)
noncomputable def vX13_constants_162 (j : Nat → rx_K) : rx_K := o_const 0 ((vX13_constants_163 j))
set_option maxRecDepth 20000 in
theorem wX13_constants_162 (hZ : zO b e D A X) (j : Nat → rx_K) (hj : ∀ k pc, [2, 27][k]? = some pc → rx_OK (zV b e D A X) mX13_constants 371 pc (j k)) : rx_OK (zV b e D A X) mX13_constants 371 162 (vX13_constants_162 j) := by
  unfold vX13_constants_162
  refine s_iconst dX13_constants_162 (by decide +kernel) ?_
  exact (wX13_constants_163 hZ j hj)
noncomputable def vX13_constants_156 (j : Nat → rx_K) : rx_K := o_ld rx_isL 5 (o_li (fun x => x.toInt32) ((vX13_constants_163 j)))
set_option maxRecDepth 20000 in
theorem wX13_constants_156 (hZ : zO b e D A X) (j : Nat → rx_K) (hj : ∀ k pc, [2, 27][k]? = some pc → rx_OK (zV b e D A X) mX13_constants 371 pc (j k)) : rx_OK (zV b e D A X) mX13_constants 371 156 (vX13_constants_156 j) := by
  unfold vX13_constants_156
  refine s_lload hZ.1 dX13_constants_156 ?_
  refine s_l2i dX13_constants_158 ?_
  exact s_goto dX13_constants_159 (by decide) (wX13_constants_163 hZ j hj)
noncomputable def vX13_constants_140 (j : Nat → rx_K) : rx_K := o_ast 3 (fun v => v) rx_isZ (o_ld rx_isR 0 (o_getf 13 65 (o_ld rx_isI 4 (o_ld rx_isL 5 (o_const 73786976294838206465 (o_bc (fun x y => lg_cmp x y) (o_c1 rx_eq (vX13_constants_162 j) (vX13_constants_156 j))))))))
set_option maxRecDepth 20000 in
theorem wX13_constants_140 (hZ : zO b e D A X) (j : Nat → rx_K) (hj : ∀ k pc, [2, 27][k]? = some pc → rx_OK (zV b e D A X) mX13_constants 371 pc (j k)) : rx_OK (zV b e D A X) mX13_constants 371 140 (vX13_constants_140 j) := by
  unfold vX13_constants_140
  refine s_zast (tt := 3) rfl dX13_constants_140 ?_
  refine s_aload_n hZ.1 dX13_constants_141 rfl ?_
  refine yg13_65 dX13_constants_142 zw4186 ?_
  refine s_iload hZ.1 dX13_constants_145 ?_
  refine s_lload hZ.1 dX13_constants_147 ?_
  refine s_ldc2 dX13_constants_149 zw3344 (by decide +kernel) ?_
  refine s_lcmp dX13_constants_152 ?_
  exact s_if_eq dX13_constants_153 (by decide) (wX13_constants_162 hZ j hj) (wX13_constants_156 hZ j hj)
noncomputable def vX13_constants_139 (j : Nat → rx_K) : rx_K := o_const 0 ((vX13_constants_140 j))
set_option maxRecDepth 20000 in
theorem wX13_constants_139 (hZ : zO b e D A X) (j : Nat → rx_K) (hj : ∀ k pc, [2, 27][k]? = some pc → rx_OK (zV b e D A X) mX13_constants 371 pc (j k)) : rx_OK (zV b e D A X) mX13_constants 371 139 (vX13_constants_139 j) := by
  unfold vX13_constants_139
  refine s_iconst dX13_constants_139 (by decide +kernel) ?_
  exact (wX13_constants_140 hZ j hj)
noncomputable def vX13_constants_135 (j : Nat → rx_K) : rx_K := o_const 8 ((vX13_constants_140 j))
set_option maxRecDepth 20000 in
theorem wX13_constants_135 (hZ : zO b e D A X) (j : Nat → rx_K) (hj : ∀ k pc, [2, 27][k]? = some pc → rx_OK (zV b e D A X) mX13_constants 371 pc (j k)) : rx_OK (zV b e D A X) mX13_constants 371 135 (vX13_constants_135 j) := by
  unfold vX13_constants_135
  refine s_iconst dX13_constants_135 (by decide +kernel) ?_
  exact s_goto dX13_constants_136 (by decide) (wX13_constants_140 hZ j hj)
noncomputable def vX13_constants_101 (j : Nat → rx_K) : rx_K := o_ld rx_isR 0 (o_const 0 (o_putf rx_isI 13 108 (o_ld rx_isR 0 (o_ld rx_isR 0 (o_getf 13 60 (o_ld rx_isI 4 (o_ald 0 (o_ld rx_isI 2 (o_callV 2 13 (q11 200 0) (o_stL 5 (o_ld rx_isR 0 (o_getf 13 64 (o_ld rx_isI 4 (o_ld rx_isL 5 (o_const 73786976294838206465 (o_bc (fun x y => lg_cmp x y) (o_c1 rx_eq (vX13_constants_139 j) (vX13_constants_135 j))))))))))))))))))
set_option maxRecDepth 20000 in
theorem wX13_constants_101 (hZ : zO b e D A X) (j : Nat → rx_K) (hj : ∀ k pc, [2, 27][k]? = some pc → rx_OK (zV b e D A X) mX13_constants 371 pc (j k)) : rx_OK (zV b e D A X) mX13_constants 371 101 (vX13_constants_101 j) := by
  unfold vX13_constants_101
  refine s_aload_n hZ.1 dX13_constants_101 rfl ?_
  refine s_iconst dX13_constants_102 (by decide +kernel) ?_
  refine yp13_108 hZ.1 dX13_constants_103 zw4228 ?_
  refine s_aload_n hZ.1 dX13_constants_106 rfl ?_
  refine s_aload_n hZ.1 dX13_constants_107 rfl ?_
  refine yg13_60 dX13_constants_108 zw4181 ?_
  refine s_iload hZ.1 dX13_constants_111 ?_
  refine s_iald (tt := 0) rfl dX13_constants_113 ?_
  refine s_iload_n hZ.1 dX13_constants_114 rfl ?_
  refine s_callV hZ.1 (q11_ok hZ 200 0 _ _ rfl) (Nat.le_of_ble_eq_true rfl) vy_X13_folded zcl13 zw3335 zw260 (Or.inl zw3333) dX13_constants_115 ?_
  refine s_lstore hZ.1 dX13_constants_118 (Nat.le_of_ble_eq_true rfl) ?_
  refine s_aload_n hZ.1 dX13_constants_120 rfl ?_
  refine yg13_64 dX13_constants_121 zw4185 ?_
  refine s_iload hZ.1 dX13_constants_124 ?_
  refine s_lload hZ.1 dX13_constants_126 ?_
  refine s_ldc2 dX13_constants_128 zw3344 (by decide +kernel) ?_
  refine s_lcmp dX13_constants_131 ?_
  exact s_if_eq dX13_constants_132 (by decide) (wX13_constants_139 hZ j hj) (wX13_constants_135 hZ j hj)
noncomputable def vX13_constants_89 (j : Nat → rx_K) : rx_K := o_ld rx_isR 0 (o_getf 13 60 (o_ld rx_isI 4 (o_ald 0 (o_const 34359738352 (o_c2 rx_eq (vX13_constants_164 j) (vX13_constants_101 j))))))
set_option maxRecDepth 20000 in
theorem wX13_constants_89 (hZ : zO b e D A X) (j : Nat → rx_K) (hj : ∀ k pc, [2, 27][k]? = some pc → rx_OK (zV b e D A X) mX13_constants 371 pc (j k)) : rx_OK (zV b e D A X) mX13_constants 371 89 (vX13_constants_89 j) := by
  unfold vX13_constants_89
  refine s_aload_n hZ.1 dX13_constants_89 rfl ?_
  refine yg13_60 dX13_constants_90 zw4181 ?_
  refine s_iload hZ.1 dX13_constants_93 ?_
  refine s_iald (tt := 0) rfl dX13_constants_95 ?_
  refine s_bipush dX13_constants_96 (by decide +kernel) ?_
  exact s_icmp_eq dX13_constants_98 (by decide) (wX13_constants_164 hZ j hj) (wX13_constants_101 hZ j hj)
noncomputable def vX13_constants_75 (j : Nat → rx_K) : rx_K := o_ld rx_isR 0 (o_getf 13 53 (o_ld rx_isI 4 (o_ald 1 (o_const 17 (o_bc (fun x y => lg_cmp x y) (o_c1 rx_eq (vX13_constants_89 j) (vX13_constants_164 j)))))))
set_option maxRecDepth 20000 in
theorem wX13_constants_75 (hZ : zO b e D A X) (j : Nat → rx_K) (hj : ∀ k pc, [2, 27][k]? = some pc → rx_OK (zV b e D A X) mX13_constants 371 pc (j k)) : rx_OK (zV b e D A X) mX13_constants 371 75 (vX13_constants_75 j) := by
  unfold vX13_constants_75
  refine s_aload_n hZ.1 dX13_constants_75 rfl ?_
  refine yg13_53 dX13_constants_76 zw4174 ?_
  refine s_iload hZ.1 dX13_constants_79 ?_
  refine s_lald (tt := 1) rfl dX13_constants_81 ?_
  refine s_ldc2 dX13_constants_82 zw3066 (by decide +kernel) ?_
  refine s_lcmp dX13_constants_85 ?_
  exact s_if_ne dX13_constants_86 (by decide) (wX13_constants_164 hZ j hj) (wX13_constants_89 hZ j hj)
noncomputable def vX13_constants_65 (j : Nat → rx_K) : rx_K := o_ld rx_isR 0 (o_getf 13 46 (o_ld rx_isI 4 (o_ald 3 (o_c1 rx_eq (vX13_constants_164 j) (vX13_constants_75 j)))))
set_option maxRecDepth 20000 in
theorem wX13_constants_65 (hZ : zO b e D A X) (j : Nat → rx_K) (hj : ∀ k pc, [2, 27][k]? = some pc → rx_OK (zV b e D A X) mX13_constants 371 pc (j k)) : rx_OK (zV b e D A X) mX13_constants 371 65 (vX13_constants_65 j) := by
  unfold vX13_constants_65
  refine s_aload_n hZ.1 dX13_constants_65 rfl ?_
  refine yg13_46 dX13_constants_66 zw4167 ?_
  refine s_iload hZ.1 dX13_constants_69 ?_
  refine s_zald (tt := 3) rfl dX13_constants_71 ?_
  exact s_if_eq dX13_constants_72 (by decide) (wX13_constants_164 hZ j hj) (wX13_constants_75 hZ j hj)
noncomputable def vX13_constants_55 (j : Nat → rx_K) : rx_K := o_ld rx_isR 0 (o_getf 13 45 (o_ld rx_isI 4 (o_ald 3 (o_c1 rx_eq (vX13_constants_164 j) (vX13_constants_65 j)))))
set_option maxRecDepth 20000 in
theorem wX13_constants_55 (hZ : zO b e D A X) (j : Nat → rx_K) (hj : ∀ k pc, [2, 27][k]? = some pc → rx_OK (zV b e D A X) mX13_constants 371 pc (j k)) : rx_OK (zV b e D A X) mX13_constants 371 55 (vX13_constants_55 j) := by
  unfold vX13_constants_55
  refine s_aload_n hZ.1 dX13_constants_55 rfl ?_
  refine yg13_45 dX13_constants_56 zw4166 ?_
  refine s_iload hZ.1 dX13_constants_59 ?_
  refine s_zald (tt := 3) rfl dX13_constants_61 ?_
  exact s_if_eq dX13_constants_62 (by decide) (wX13_constants_164 hZ j hj) (wX13_constants_65 hZ j hj)
noncomputable def vX13_constants_37 (j : Nat → rx_K) : rx_K := o_ld rx_isI 2 (o_const 272 (o_bi (fun x y => x * y) (o_ld rx_isI 3 (o_bi (fun x y => x + y) (o_st rx_isI 4 (o_ld rx_isR 0 (o_getf 13 42 (o_ld rx_isI 4 (o_ald 0 (o_c1 rx_eq (vX13_constants_55 j) (vX13_constants_164 j)))))))))))
set_option maxRecDepth 20000 in
theorem wX13_constants_37 (hZ : zO b e D A X) (j : Nat → rx_K) (hj : ∀ k pc, [2, 27][k]? = some pc → rx_OK (zV b e D A X) mX13_constants 371 pc (j k)) : rx_OK (zV b e D A X) mX13_constants 371 37 (vX13_constants_37 j) := by
  unfold vX13_constants_37
  refine s_iload_n hZ.1 dX13_constants_37 rfl ?_
  refine s_bipush dX13_constants_38 (by decide +kernel) ?_
  refine s_imul dX13_constants_40 ?_
  refine s_iload_n hZ.1 dX13_constants_41 rfl ?_
  refine s_iadd dX13_constants_42 ?_
  refine s_istore hZ.1 dX13_constants_43 (Nat.le_of_ble_eq_true rfl) ?_
  refine s_aload_n hZ.1 dX13_constants_45 rfl ?_
  refine yg13_42 dX13_constants_46 zw4163 ?_
  refine s_iload hZ.1 dX13_constants_49 ?_
  refine s_iald (tt := 0) rfl dX13_constants_51 ?_
  exact s_if_ne dX13_constants_52 (by decide) (wX13_constants_164 hZ j hj) (wX13_constants_55 hZ j hj)
noncomputable def vX13_constants_27 (j : Nat → rx_K) : rx_K := o_ld rx_isI 3 (o_ld rx_isR 0 (o_getf 13 41 (o_ld rx_isI 2 (o_ald 0 (o_c2 rx_lt (vX13_constants_37 j) (vX13_constants_170 j))))))
set_option maxRecDepth 20000 in
theorem wX13_constants_27 (hZ : zO b e D A X) (j : Nat → rx_K) (hj : ∀ k pc, [2, 27][k]? = some pc → rx_OK (zV b e D A X) mX13_constants 371 pc (j k)) : rx_OK (zV b e D A X) mX13_constants 371 27 (vX13_constants_27 j) := by
  unfold vX13_constants_27
  refine s_iload_n hZ.1 dX13_constants_27 rfl ?_
  refine s_aload_n hZ.1 dX13_constants_28 rfl ?_
  refine yg13_41 dX13_constants_29 zw4162 ?_
  refine s_iload_n hZ.1 dX13_constants_32 rfl ?_
  refine s_iald (tt := 0) rfl dX13_constants_33 ?_
  exact s_icmp_ge dX13_constants_34 (by decide) (wX13_constants_170 hZ j hj) (wX13_constants_37 hZ j hj)
noncomputable def vX13_constants_15 (j : Nat → rx_K) : rx_K := o_ld rx_isR 0 (o_getf 13 19 (o_const 96 (o_bi (fun x y => x * y) (o_ld rx_isI 1 (o_bi (fun x y => x + y) (o_st rx_isI 2 (o_const 0 (o_st rx_isI 3 ((vX13_constants_27 j))))))))))
set_option maxRecDepth 20000 in
theorem wX13_constants_15 (hZ : zO b e D A X) (j : Nat → rx_K) (hj : ∀ k pc, [2, 27][k]? = some pc → rx_OK (zV b e D A X) mX13_constants 371 pc (j k)) : rx_OK (zV b e D A X) mX13_constants 371 15 (vX13_constants_15 j) := by
  unfold vX13_constants_15
  refine s_aload_n hZ.1 dX13_constants_15 rfl ?_
  refine yg13_19 dX13_constants_16 zw4140 ?_
  refine s_bipush dX13_constants_19 (by decide +kernel) ?_
  refine s_imul dX13_constants_21 ?_
  refine s_iload_n hZ.1 dX13_constants_22 rfl ?_
  refine s_iadd dX13_constants_23 ?_
  refine s_istore_n hZ.1 dX13_constants_24 rfl (Nat.le_of_ble_eq_true rfl) ?_
  refine s_iconst dX13_constants_25 (by decide +kernel) ?_
  refine s_istore_n hZ.1 dX13_constants_26 rfl (Nat.le_of_ble_eq_true rfl) ?_
  exact (wX13_constants_27 hZ j hj)
noncomputable def vX13_constants_2 (j : Nat → rx_K) : rx_K := o_ld rx_isI 1 (o_ld rx_isR 0 (o_getf 13 23 (o_ld rx_isR 0 (o_getf 13 19 (o_ald 0 (o_c2 rx_lt (vX13_constants_15 j) (vX13_constants_176 j)))))))
set_option maxRecDepth 20000 in
theorem wX13_constants_2 (hZ : zO b e D A X) (j : Nat → rx_K) (hj : ∀ k pc, [2, 27][k]? = some pc → rx_OK (zV b e D A X) mX13_constants 371 pc (j k)) : rx_OK (zV b e D A X) mX13_constants 371 2 (vX13_constants_2 j) := by
  unfold vX13_constants_2
  refine s_iload_n hZ.1 dX13_constants_2 rfl ?_
  refine s_aload_n hZ.1 dX13_constants_3 rfl ?_
  refine yg13_23 dX13_constants_4 zw4144 ?_
  refine s_aload_n hZ.1 dX13_constants_7 rfl ?_
  refine yg13_19 dX13_constants_8 zw4140 ?_
  refine s_iald (tt := 0) rfl dX13_constants_11 ?_
  exact s_icmp_ge dX13_constants_12 (by decide) (wX13_constants_176 hZ j hj) (wX13_constants_15 hZ j hj)
noncomputable def vX13_constants_0 (j : Nat → rx_K) : rx_K := o_const 0 (o_st rx_isI 1 ((vX13_constants_2 j)))
set_option maxRecDepth 20000 in
theorem wX13_constants_0 (hZ : zO b e D A X) (j : Nat → rx_K) (hj : ∀ k pc, [2, 27][k]? = some pc → rx_OK (zV b e D A X) mX13_constants 371 pc (j k)) : rx_OK (zV b e D A X) mX13_constants 371 0 (vX13_constants_0 j) := by
  unfold vX13_constants_0
  refine s_iconst dX13_constants_0 (by decide +kernel) ?_
  refine s_istore_n hZ.1 dX13_constants_1 rfl (Nat.le_of_ble_eq_true rfl) ?_
  exact (wX13_constants_2 hZ j hj)
noncomputable def vhX13_constants (j : Nat → rx_K) : List rx_K := [vX13_constants_2 j, vX13_constants_27 j]
theorem vlX13_constants (hZ : zO b e D A X) : ∀ n k pc, [2, 27][k]? = some pc → rx_OK (zV b e D A X) mX13_constants 371 pc (rx_J (vhX13_constants) n k) := rx_loop fun j hj k pc h => by
  match k, h with
  | 0, h =>
    have e9 := Option.some.inj (show some 2 = some pc from h)
    subst e9
    exact wX13_constants_2 hZ j hj
  | 1, h =>
    have e9 := Option.some.inj (show some 27 = some pc from h)
    subst e9
    exact wX13_constants_27 hZ j hj
  | _ + 2, h => exact absurd h (by simp)
noncomputable def FX13_constants : List Nat → rx_H → Option (Nat × rx_H) := rx_ent 7 (vX13_constants_0 (rx_J (vhX13_constants) 4000000000))
theorem Met_X13_constants (hZ : zO b e D A X) : rx_Met (zV b e D A X) 371 yX13_constants mX13_constants (FX13_constants) := rx_entry hZ.1 (wX13_constants_0 hZ _ (vlX13_constants hZ 4000000000)) (by decide +kernel) rfl (fun h => by cases h)
abbrev mX13_beginsBySuper : rx_M := (RX13, cX13_beginsBySuper, 3, (some .boolean), false)
theorem vy_X13_beginsBySuper : rx_Y (zV b e D A X) yX13_beginsBySuper mX13_beginsBySuper 1 := ⟨zw3482, zw431, by decide, by decide +kernel, by decide +kernel, by decide +kernel⟩
noncomputable def vX13_beginsBySuper_50 : rx_K := o_ret1 rx_isZ
set_option maxRecDepth 20000 in
theorem wX13_beginsBySuper_50 (hZ : zO b e D A X) : rx_OK (zV b e D A X) mX13_beginsBySuper 0 50 vX13_beginsBySuper_50 := by
  unfold vX13_beginsBySuper_50
  exact s_zret rx_z_ok rfl dX13_beginsBySuper_50
noncomputable def vX13_beginsBySuper_49 : rx_K := o_const 0 (vX13_beginsBySuper_50)
set_option maxRecDepth 20000 in
theorem wX13_beginsBySuper_49 (hZ : zO b e D A X) : rx_OK (zV b e D A X) mX13_beginsBySuper 0 49 vX13_beginsBySuper_49 := by
  unfold vX13_beginsBySuper_49
  refine s_iconst dX13_beginsBySuper_49 (by decide +kernel) ?_
  exact (wX13_beginsBySuper_50 hZ)
noncomputable def vX13_beginsBySuper_45 : rx_K := o_const 8 (vX13_beginsBySuper_50)
set_option maxRecDepth 20000 in
theorem wX13_beginsBySuper_45 (hZ : zO b e D A X) : rx_OK (zV b e D A X) mX13_beginsBySuper 0 45 vX13_beginsBySuper_45 := by
  unfold vX13_beginsBySuper_45
  refine s_iconst dX13_beginsBySuper_45 (by decide +kernel) ?_
  exact s_goto dX13_beginsBySuper_46 (by decide) (wX13_beginsBySuper_50 hZ)
noncomputable def vX13_beginsBySuper_34 : rx_K := o_ld rx_isR 0 (o_getf 13 70 (o_ld rx_isI 2 (o_ald 0 (o_const 224 (o_c2 rx_eq vX13_beginsBySuper_45 vX13_beginsBySuper_49)))))
set_option maxRecDepth 20000 in
theorem wX13_beginsBySuper_34 (hZ : zO b e D A X) : rx_OK (zV b e D A X) mX13_beginsBySuper 0 34 vX13_beginsBySuper_34 := by
  unfold vX13_beginsBySuper_34
  refine s_aload_n hZ.1 dX13_beginsBySuper_34 rfl ?_
  refine yg13_70 dX13_beginsBySuper_35 zw4191 ?_
  refine s_iload_n hZ.1 dX13_beginsBySuper_38 rfl ?_
  refine s_iald (tt := 0) rfl dX13_beginsBySuper_39 ?_
  refine s_bipush dX13_beginsBySuper_40 (by decide +kernel) ?_
  exact s_icmp_ne dX13_beginsBySuper_42 (by decide) (wX13_beginsBySuper_49 hZ) (wX13_beginsBySuper_45 hZ)
noncomputable def vX13_beginsBySuper_27 : rx_K := o_st rx_isI 2 (o_ld rx_isI 2 (o_const 34359738352 (o_c2 rx_eq vX13_beginsBySuper_49 vX13_beginsBySuper_34)))
set_option maxRecDepth 20000 in
theorem wX13_beginsBySuper_27 (hZ : zO b e D A X) : rx_OK (zV b e D A X) mX13_beginsBySuper 0 27 vX13_beginsBySuper_27 := by
  unfold vX13_beginsBySuper_27
  refine s_istore_n hZ.1 dX13_beginsBySuper_27 rfl (Nat.le_of_ble_eq_true rfl) ?_
  refine s_iload_n hZ.1 dX13_beginsBySuper_28 rfl ?_
  refine s_bipush dX13_beginsBySuper_29 (by decide +kernel) ?_
  exact s_icmp_eq dX13_beginsBySuper_31 (by decide) (wX13_beginsBySuper_49 hZ) (wX13_beginsBySuper_34 hZ)
noncomputable def vX13_beginsBySuper_16 : rx_K := o_ld rx_isR 0 (o_getf 13 77 (o_ld rx_isR 0 (o_getf 13 61 (o_ld rx_isI 1 (o_ald 0 (o_ald 0 (vX13_beginsBySuper_27)))))))
set_option maxRecDepth 20000 in
theorem wX13_beginsBySuper_16 (hZ : zO b e D A X) : rx_OK (zV b e D A X) mX13_beginsBySuper 0 16 vX13_beginsBySuper_16 := by
  unfold vX13_beginsBySuper_16
  refine s_aload_n hZ.1 dX13_beginsBySuper_16 rfl ?_
  refine yg13_77 dX13_beginsBySuper_17 zw4198 ?_
  refine s_aload_n hZ.1 dX13_beginsBySuper_20 rfl ?_
  refine yg13_61 dX13_beginsBySuper_21 zw4182 ?_
  refine s_iload_n hZ.1 dX13_beginsBySuper_24 rfl ?_
  refine s_iald (tt := 0) rfl dX13_beginsBySuper_25 ?_
  refine s_iald (tt := 0) rfl dX13_beginsBySuper_26 ?_
  exact (wX13_beginsBySuper_27 hZ)
noncomputable def vX13_beginsBySuper_11 : rx_K := o_const 34359738352 (vX13_beginsBySuper_27)
set_option maxRecDepth 20000 in
theorem wX13_beginsBySuper_11 (hZ : zO b e D A X) : rx_OK (zV b e D A X) mX13_beginsBySuper 0 11 vX13_beginsBySuper_11 := by
  unfold vX13_beginsBySuper_11
  refine s_bipush dX13_beginsBySuper_11 (by decide +kernel) ?_
  exact s_goto dX13_beginsBySuper_13 (by decide) (wX13_beginsBySuper_27 hZ)
noncomputable def vX13_beginsBySuper_0 : rx_K := o_ld rx_isR 0 (o_getf 13 61 (o_ld rx_isI 1 (o_ald 0 (o_const 34359738352 (o_c2 rx_eq vX13_beginsBySuper_11 vX13_beginsBySuper_16)))))
set_option maxRecDepth 20000 in
theorem wX13_beginsBySuper_0 (hZ : zO b e D A X) : rx_OK (zV b e D A X) mX13_beginsBySuper 0 0 vX13_beginsBySuper_0 := by
  unfold vX13_beginsBySuper_0
  refine s_aload_n hZ.1 dX13_beginsBySuper_0 rfl ?_
  refine yg13_61 dX13_beginsBySuper_1 zw4182 ?_
  refine s_iload_n hZ.1 dX13_beginsBySuper_4 rfl ?_
  refine s_iald (tt := 0) rfl dX13_beginsBySuper_5 ?_
  refine s_bipush dX13_beginsBySuper_6 (by decide +kernel) ?_
  exact s_icmp_ne dX13_beginsBySuper_8 (by decide) (wX13_beginsBySuper_16 hZ) (wX13_beginsBySuper_11 hZ)
noncomputable def FX13_beginsBySuper : List Nat → rx_H → Option (Nat × rx_H) := rx_ent 3 vX13_beginsBySuper_0
theorem Met_X13_beginsBySuper (hZ : zO b e D A X) : rx_Met (zV b e D A X) 0 yX13_beginsBySuper mX13_beginsBySuper (FX13_beginsBySuper) := rx_entry hZ.1 (wX13_beginsBySuper_0 hZ) (by decide +kernel) rfl (fun h => by cases h)
abbrev mX13_canEnd : rx_M := (RX13, cX13_canEnd, 3, (some .boolean), false)
theorem vy_X13_canEnd : rx_Y (zV b e D A X) yX13_canEnd mX13_canEnd 1 := ⟨zw3502, zw431, by decide, by decide +kernel, by decide +kernel, by decide +kernel⟩
abbrev vl12 : List (MethodName × rx_M) := [(yX13_canEnd, mX13_canEnd)]
noncomputable def vX13_canEnd_160 (g : Nat → List Nat → rx_H → Option (Nat × rx_H)) (j : Nat → rx_K) : rx_K := o_const 8 (o_ret1 rx_isZ)
set_option maxRecDepth 20000 in
theorem wX13_canEnd_160 {dn : Nat} {g : Nat → List Nat → rx_H → Option (Nat × rx_H)} (hZ : zO b e D A X) (hg : ∀ i y M, vl12[i]? = some (y, M) → rx_Met (zV b e D A X) dn y M (g i)) (hd : 0 ≤ dn) (j : Nat → rx_K) (hj : ∀ k pc, [57][k]? = some pc → rx_OK (zV b e D A X) mX13_canEnd (dn + 1) pc (j k)) : rx_OK (zV b e D A X) mX13_canEnd (dn + 1) 160 (vX13_canEnd_160 g j) := by
  unfold vX13_canEnd_160
  refine s_iconst dX13_canEnd_160 (by decide +kernel) ?_
  exact s_zret rx_z_ok rfl dX13_canEnd_161
noncomputable def vX13_canEnd_159 (g : Nat → List Nat → rx_H → Option (Nat × rx_H)) (j : Nat → rx_K) : rx_K := o_ret1 rx_isZ
set_option maxRecDepth 20000 in
theorem wX13_canEnd_159 {dn : Nat} {g : Nat → List Nat → rx_H → Option (Nat × rx_H)} (hZ : zO b e D A X) (hg : ∀ i y M, vl12[i]? = some (y, M) → rx_Met (zV b e D A X) dn y M (g i)) (hd : 0 ≤ dn) (j : Nat → rx_K) (hj : ∀ k pc, [57][k]? = some pc → rx_OK (zV b e D A X) mX13_canEnd (dn + 1) pc (j k)) : rx_OK (zV b e D A X) mX13_canEnd (dn + 1) 159 (vX13_canEnd_159 g j) := by
  unfold vX13_canEnd_159
  exact s_zret rx_z_ok rfl dX13_canEnd_159
noncomputable def vX13_canEnd_158 (g : Nat → List Nat → rx_H → Option (Nat × rx_H)) (j : Nat → rx_K) : rx_K := o_const 0 ((vX13_canEnd_159 g j))
set_option maxRecDepth 20000 in
theorem wX13_canEnd_158 {dn : Nat} {g : Nat → List Nat → rx_H → Option (Nat × rx_H)} (hZ : zO b e D A X) (hg : ∀ i y M, vl12[i]? = some (y, M) → rx_Met (zV b e D A X) dn y M (g i)) (hd : 0 ≤ dn) (j : Nat → rx_K) (hj : ∀ k pc, [57][k]? = some pc → rx_OK (zV b e D A X) mX13_canEnd (dn + 1) pc (j k)) : rx_OK (zV b e D A X) mX13_canEnd (dn + 1) 158 (vX13_canEnd_158 g j) := by
  unfold vX13_canEnd_158
  refine s_iconst dX13_canEnd_158 (by decide +kernel) ?_
  exact (wX13_canEnd_159 hZ hg hd j hj)
noncomputable def vX13_canEnd_154 (g : Nat → List Nat → rx_H → Option (Nat × rx_H)) (j : Nat → rx_K) : rx_K := o_const 8 ((vX13_canEnd_159 g j))
set_option maxRecDepth 20000 in
theorem wX13_canEnd_154 {dn : Nat} {g : Nat → List Nat → rx_H → Option (Nat × rx_H)} (hZ : zO b e D A X) (hg : ∀ i y M, vl12[i]? = some (y, M) → rx_Met (zV b e D A X) dn y M (g i)) (hd : 0 ≤ dn) (j : Nat → rx_K) (hj : ∀ k pc, [57][k]? = some pc → rx_OK (zV b e D A X) mX13_canEnd (dn + 1) pc (j k)) : rx_OK (zV b e D A X) mX13_canEnd (dn + 1) 154 (vX13_canEnd_154 g j) := by
  unfold vX13_canEnd_154
  refine s_iconst dX13_canEnd_154 (by decide +kernel) ?_
  exact s_goto dX13_canEnd_155 (by decide) (wX13_canEnd_159 hZ hg hd j hj)
noncomputable def vX13_canEnd_141 (g : Nat → List Nat → rx_H → Option (Nat × rx_H)) (j : Nat → rx_K) : rx_K := o_ld rx_isR 0 (o_ld rx_isR 0 (o_getf 13 78 (o_ld rx_isI 1 (o_ald 0 (o_callV 1 13 (g 0) (o_c1 rx_eq (vX13_canEnd_158 g j) (vX13_canEnd_154 g j)))))))
set_option maxRecDepth 20000 in
theorem wX13_canEnd_141 {dn : Nat} {g : Nat → List Nat → rx_H → Option (Nat × rx_H)} (hZ : zO b e D A X) (hg : ∀ i y M, vl12[i]? = some (y, M) → rx_Met (zV b e D A X) dn y M (g i)) (hd : 0 ≤ dn) (j : Nat → rx_K) (hj : ∀ k pc, [57][k]? = some pc → rx_OK (zV b e D A X) mX13_canEnd (dn + 1) pc (j k)) : rx_OK (zV b e D A X) mX13_canEnd (dn + 1) 141 (vX13_canEnd_141 g j) := by
  unfold vX13_canEnd_141
  refine s_aload_n hZ.1 dX13_canEnd_141 rfl ?_
  refine s_aload_n hZ.1 dX13_canEnd_142 rfl ?_
  refine yg13_78 dX13_canEnd_143 zw4199 ?_
  refine s_iload_n hZ.1 dX13_canEnd_146 rfl ?_
  refine s_iald (tt := 0) rfl dX13_canEnd_147 ?_
  refine s_callV hZ.1 (hg 0 _ _ rfl) (Nat.le_refl _) vy_X13_canEnd zcl13 zw3501 zw299 (Or.inl zw3499) dX13_canEnd_148 ?_
  exact s_if_eq dX13_canEnd_151 (by decide) (wX13_canEnd_158 hZ hg hd j hj) (wX13_canEnd_154 hZ hg hd j hj)
noncomputable def vX13_canEnd_128 (g : Nat → List Nat → rx_H → Option (Nat × rx_H)) (j : Nat → rx_K) : rx_K := o_ld rx_isR 0 (o_ld rx_isR 0 (o_getf 13 77 (o_ld rx_isI 1 (o_ald 0 (o_callV 1 13 (g 0) (o_c1 rx_eq (vX13_canEnd_141 g j) (vX13_canEnd_154 g j)))))))
set_option maxRecDepth 20000 in
theorem wX13_canEnd_128 {dn : Nat} {g : Nat → List Nat → rx_H → Option (Nat × rx_H)} (hZ : zO b e D A X) (hg : ∀ i y M, vl12[i]? = some (y, M) → rx_Met (zV b e D A X) dn y M (g i)) (hd : 0 ≤ dn) (j : Nat → rx_K) (hj : ∀ k pc, [57][k]? = some pc → rx_OK (zV b e D A X) mX13_canEnd (dn + 1) pc (j k)) : rx_OK (zV b e D A X) mX13_canEnd (dn + 1) 128 (vX13_canEnd_128 g j) := by
  unfold vX13_canEnd_128
  refine s_aload_n hZ.1 dX13_canEnd_128 rfl ?_
  refine s_aload_n hZ.1 dX13_canEnd_129 rfl ?_
  refine yg13_77 dX13_canEnd_130 zw4198 ?_
  refine s_iload_n hZ.1 dX13_canEnd_133 rfl ?_
  refine s_iald (tt := 0) rfl dX13_canEnd_134 ?_
  refine s_callV hZ.1 (hg 0 _ _ rfl) (Nat.le_refl _) vy_X13_canEnd zcl13 zw3501 zw299 (Or.inl zw3499) dX13_canEnd_135 ?_
  exact s_if_ne dX13_canEnd_138 (by decide) (wX13_canEnd_154 hZ hg hd j hj) (wX13_canEnd_141 hZ hg hd j hj)
noncomputable def vX13_canEnd_127 (g : Nat → List Nat → rx_H → Option (Nat × rx_H)) (j : Nat → rx_K) : rx_K := o_ret1 rx_isZ
set_option maxRecDepth 20000 in
theorem wX13_canEnd_127 {dn : Nat} {g : Nat → List Nat → rx_H → Option (Nat × rx_H)} (hZ : zO b e D A X) (hg : ∀ i y M, vl12[i]? = some (y, M) → rx_Met (zV b e D A X) dn y M (g i)) (hd : 0 ≤ dn) (j : Nat → rx_K) (hj : ∀ k pc, [57][k]? = some pc → rx_OK (zV b e D A X) mX13_canEnd (dn + 1) pc (j k)) : rx_OK (zV b e D A X) mX13_canEnd (dn + 1) 127 (vX13_canEnd_127 g j) := by
  unfold vX13_canEnd_127
  exact s_zret rx_z_ok rfl dX13_canEnd_127
noncomputable def vX13_canEnd_126 (g : Nat → List Nat → rx_H → Option (Nat × rx_H)) (j : Nat → rx_K) : rx_K := o_const 0 ((vX13_canEnd_127 g j))
set_option maxRecDepth 20000 in
theorem wX13_canEnd_126 {dn : Nat} {g : Nat → List Nat → rx_H → Option (Nat × rx_H)} (hZ : zO b e D A X) (hg : ∀ i y M, vl12[i]? = some (y, M) → rx_Met (zV b e D A X) dn y M (g i)) (hd : 0 ≤ dn) (j : Nat → rx_K) (hj : ∀ k pc, [57][k]? = some pc → rx_OK (zV b e D A X) mX13_canEnd (dn + 1) pc (j k)) : rx_OK (zV b e D A X) mX13_canEnd (dn + 1) 126 (vX13_canEnd_126 g j) := by
  unfold vX13_canEnd_126
  refine s_iconst dX13_canEnd_126 (by decide +kernel) ?_
  exact (wX13_canEnd_127 hZ hg hd j hj)
noncomputable def vX13_canEnd_122 (g : Nat → List Nat → rx_H → Option (Nat × rx_H)) (j : Nat → rx_K) : rx_K := o_const 8 ((vX13_canEnd_127 g j))
set_option maxRecDepth 20000 in
theorem wX13_canEnd_122 {dn : Nat} {g : Nat → List Nat → rx_H → Option (Nat × rx_H)} (hZ : zO b e D A X) (hg : ∀ i y M, vl12[i]? = some (y, M) → rx_Met (zV b e D A X) dn y M (g i)) (hd : 0 ≤ dn) (j : Nat → rx_K) (hj : ∀ k pc, [57][k]? = some pc → rx_OK (zV b e D A X) mX13_canEnd (dn + 1) pc (j k)) : rx_OK (zV b e D A X) mX13_canEnd (dn + 1) 122 (vX13_canEnd_122 g j) := by
  unfold vX13_canEnd_122
  refine s_iconst dX13_canEnd_122 (by decide +kernel) ?_
  exact s_goto dX13_canEnd_123 (by decide) (wX13_canEnd_127 hZ hg hd j hj)
noncomputable def vX13_canEnd_109 (g : Nat → List Nat → rx_H → Option (Nat × rx_H)) (j : Nat → rx_K) : rx_K := o_ld rx_isR 0 (o_ld rx_isR 0 (o_getf 13 79 (o_ld rx_isI 1 (o_ald 0 (o_callV 1 13 (g 0) (o_c1 rx_eq (vX13_canEnd_126 g j) (vX13_canEnd_122 g j)))))))
set_option maxRecDepth 20000 in
theorem wX13_canEnd_109 {dn : Nat} {g : Nat → List Nat → rx_H → Option (Nat × rx_H)} (hZ : zO b e D A X) (hg : ∀ i y M, vl12[i]? = some (y, M) → rx_Met (zV b e D A X) dn y M (g i)) (hd : 0 ≤ dn) (j : Nat → rx_K) (hj : ∀ k pc, [57][k]? = some pc → rx_OK (zV b e D A X) mX13_canEnd (dn + 1) pc (j k)) : rx_OK (zV b e D A X) mX13_canEnd (dn + 1) 109 (vX13_canEnd_109 g j) := by
  unfold vX13_canEnd_109
  refine s_aload_n hZ.1 dX13_canEnd_109 rfl ?_
  refine s_aload_n hZ.1 dX13_canEnd_110 rfl ?_
  refine yg13_79 dX13_canEnd_111 zw4200 ?_
  refine s_iload_n hZ.1 dX13_canEnd_114 rfl ?_
  refine s_iald (tt := 0) rfl dX13_canEnd_115 ?_
  refine s_callV hZ.1 (hg 0 _ _ rfl) (Nat.le_refl _) vy_X13_canEnd zcl13 zw3501 zw299 (Or.inl zw3499) dX13_canEnd_116 ?_
  exact s_if_eq dX13_canEnd_119 (by decide) (wX13_canEnd_126 hZ hg hd j hj) (wX13_canEnd_122 hZ hg hd j hj)
noncomputable def vX13_canEnd_96 (g : Nat → List Nat → rx_H → Option (Nat × rx_H)) (j : Nat → rx_K) : rx_K := o_ld rx_isR 0 (o_ld rx_isR 0 (o_getf 13 78 (o_ld rx_isI 1 (o_ald 0 (o_callV 1 13 (g 0) (o_c1 rx_eq (vX13_canEnd_109 g j) (vX13_canEnd_122 g j)))))))
set_option maxRecDepth 20000 in
theorem wX13_canEnd_96 {dn : Nat} {g : Nat → List Nat → rx_H → Option (Nat × rx_H)} (hZ : zO b e D A X) (hg : ∀ i y M, vl12[i]? = some (y, M) → rx_Met (zV b e D A X) dn y M (g i)) (hd : 0 ≤ dn) (j : Nat → rx_K) (hj : ∀ k pc, [57][k]? = some pc → rx_OK (zV b e D A X) mX13_canEnd (dn + 1) pc (j k)) : rx_OK (zV b e D A X) mX13_canEnd (dn + 1) 96 (vX13_canEnd_96 g j) := by
  unfold vX13_canEnd_96
  refine s_aload_n hZ.1 dX13_canEnd_96 rfl ?_
  refine s_aload_n hZ.1 dX13_canEnd_97 rfl ?_
  refine yg13_78 dX13_canEnd_98 zw4199 ?_
  refine s_iload_n hZ.1 dX13_canEnd_101 rfl ?_
  refine s_iald (tt := 0) rfl dX13_canEnd_102 ?_
  refine s_callV hZ.1 (hg 0 _ _ rfl) (Nat.le_refl _) vy_X13_canEnd zcl13 zw3501 zw299 (Or.inl zw3499) dX13_canEnd_103 ?_
  exact s_if_ne dX13_canEnd_106 (by decide) (wX13_canEnd_122 hZ hg hd j hj) (wX13_canEnd_109 hZ hg hd j hj)
noncomputable def vX13_canEnd_85 (g : Nat → List Nat → rx_H → Option (Nat × rx_H)) (j : Nat → rx_K) : rx_K := o_ld rx_isR 0 (o_getf 13 79 (o_ld rx_isI 1 (o_ald 0 (o_const 34359738352 (o_c2 rx_eq (vX13_canEnd_122 g j) (vX13_canEnd_96 g j))))))
set_option maxRecDepth 20000 in
theorem wX13_canEnd_85 {dn : Nat} {g : Nat → List Nat → rx_H → Option (Nat × rx_H)} (hZ : zO b e D A X) (hg : ∀ i y M, vl12[i]? = some (y, M) → rx_Met (zV b e D A X) dn y M (g i)) (hd : 0 ≤ dn) (j : Nat → rx_K) (hj : ∀ k pc, [57][k]? = some pc → rx_OK (zV b e D A X) mX13_canEnd (dn + 1) pc (j k)) : rx_OK (zV b e D A X) mX13_canEnd (dn + 1) 85 (vX13_canEnd_85 g j) := by
  unfold vX13_canEnd_85
  refine s_aload_n hZ.1 dX13_canEnd_85 rfl ?_
  refine yg13_79 dX13_canEnd_86 zw4200 ?_
  refine s_iload_n hZ.1 dX13_canEnd_89 rfl ?_
  refine s_iald (tt := 0) rfl dX13_canEnd_90 ?_
  refine s_bipush dX13_canEnd_91 (by decide +kernel) ?_
  exact s_icmp_eq dX13_canEnd_93 (by decide) (wX13_canEnd_122 hZ hg hd j hj) (wX13_canEnd_96 hZ hg hd j hj)
noncomputable def vX13_canEnd_83 (g : Nat → List Nat → rx_H → Option (Nat × rx_H)) (j : Nat → rx_K) : rx_K := o_const 8 (o_ret1 rx_isZ)
set_option maxRecDepth 20000 in
theorem wX13_canEnd_83 {dn : Nat} {g : Nat → List Nat → rx_H → Option (Nat × rx_H)} (hZ : zO b e D A X) (hg : ∀ i y M, vl12[i]? = some (y, M) → rx_Met (zV b e D A X) dn y M (g i)) (hd : 0 ≤ dn) (j : Nat → rx_K) (hj : ∀ k pc, [57][k]? = some pc → rx_OK (zV b e D A X) mX13_canEnd (dn + 1) pc (j k)) : rx_OK (zV b e D A X) mX13_canEnd (dn + 1) 83 (vX13_canEnd_83 g j) := by
  unfold vX13_canEnd_83
  refine s_iconst dX13_canEnd_83 (by decide +kernel) ?_
  exact s_zret rx_z_ok rfl dX13_canEnd_84
noncomputable def vX13_canEnd_73 (g : Nat → List Nat → rx_H → Option (Nat × rx_H)) (j : Nat → rx_K) : rx_K := o_ld rx_isR 0 (o_getf 13 80 (o_ld rx_isI 2 (o_ald 0 (o_st rx_isI 2 ((j 0))))))
set_option maxRecDepth 20000 in
theorem wX13_canEnd_73 {dn : Nat} {g : Nat → List Nat → rx_H → Option (Nat × rx_H)} (hZ : zO b e D A X) (hg : ∀ i y M, vl12[i]? = some (y, M) → rx_Met (zV b e D A X) dn y M (g i)) (hd : 0 ≤ dn) (j : Nat → rx_K) (hj : ∀ k pc, [57][k]? = some pc → rx_OK (zV b e D A X) mX13_canEnd (dn + 1) pc (j k)) : rx_OK (zV b e D A X) mX13_canEnd (dn + 1) 73 (vX13_canEnd_73 g j) := by
  unfold vX13_canEnd_73
  refine s_aload_n hZ.1 dX13_canEnd_73 rfl ?_
  refine yg13_80 dX13_canEnd_74 zw4201 ?_
  refine s_iload_n hZ.1 dX13_canEnd_77 rfl ?_
  refine s_iald (tt := 0) rfl dX13_canEnd_78 ?_
  refine s_istore_n hZ.1 dX13_canEnd_79 rfl (Nat.le_of_ble_eq_true rfl) ?_
  exact s_goto dX13_canEnd_80 (by decide) (hj 0 57 rfl)
noncomputable def vX13_canEnd_71 (g : Nat → List Nat → rx_H → Option (Nat × rx_H)) (j : Nat → rx_K) : rx_K := o_const 0 (o_ret1 rx_isZ)
set_option maxRecDepth 20000 in
theorem wX13_canEnd_71 {dn : Nat} {g : Nat → List Nat → rx_H → Option (Nat × rx_H)} (hZ : zO b e D A X) (hg : ∀ i y M, vl12[i]? = some (y, M) → rx_Met (zV b e D A X) dn y M (g i)) (hd : 0 ≤ dn) (j : Nat → rx_K) (hj : ∀ k pc, [57][k]? = some pc → rx_OK (zV b e D A X) mX13_canEnd (dn + 1) pc (j k)) : rx_OK (zV b e D A X) mX13_canEnd (dn + 1) 71 (vX13_canEnd_71 g j) := by
  unfold vX13_canEnd_71
  refine s_iconst dX13_canEnd_71 (by decide +kernel) ?_
  exact s_zret rx_z_ok rfl dX13_canEnd_72
noncomputable def vX13_canEnd_63 (g : Nat → List Nat → rx_H → Option (Nat × rx_H)) (j : Nat → rx_K) : rx_K := o_ld rx_isR 0 (o_ld rx_isI 2 (o_callV 1 13 (g 0) (o_c1 rx_eq (vX13_canEnd_71 g j) (vX13_canEnd_73 g j))))
set_option maxRecDepth 20000 in
theorem wX13_canEnd_63 {dn : Nat} {g : Nat → List Nat → rx_H → Option (Nat × rx_H)} (hZ : zO b e D A X) (hg : ∀ i y M, vl12[i]? = some (y, M) → rx_Met (zV b e D A X) dn y M (g i)) (hd : 0 ≤ dn) (j : Nat → rx_K) (hj : ∀ k pc, [57][k]? = some pc → rx_OK (zV b e D A X) mX13_canEnd (dn + 1) pc (j k)) : rx_OK (zV b e D A X) mX13_canEnd (dn + 1) 63 (vX13_canEnd_63 g j) := by
  unfold vX13_canEnd_63
  refine s_aload_n hZ.1 dX13_canEnd_63 rfl ?_
  refine s_iload_n hZ.1 dX13_canEnd_64 rfl ?_
  refine s_callV hZ.1 (hg 0 _ _ rfl) (Nat.le_refl _) vy_X13_canEnd zcl13 zw3501 zw299 (Or.inl zw3499) dX13_canEnd_65 ?_
  exact s_if_ne dX13_canEnd_68 (by decide) (wX13_canEnd_73 hZ hg hd j hj) (wX13_canEnd_71 hZ hg hd j hj)
noncomputable def vX13_canEnd_57 (g : Nat → List Nat → rx_H → Option (Nat × rx_H)) (j : Nat → rx_K) : rx_K := o_ld rx_isI 2 (o_const 34359738352 (o_c2 rx_eq (vX13_canEnd_83 g j) (vX13_canEnd_63 g j)))
set_option maxRecDepth 20000 in
theorem wX13_canEnd_57 {dn : Nat} {g : Nat → List Nat → rx_H → Option (Nat × rx_H)} (hZ : zO b e D A X) (hg : ∀ i y M, vl12[i]? = some (y, M) → rx_Met (zV b e D A X) dn y M (g i)) (hd : 0 ≤ dn) (j : Nat → rx_K) (hj : ∀ k pc, [57][k]? = some pc → rx_OK (zV b e D A X) mX13_canEnd (dn + 1) pc (j k)) : rx_OK (zV b e D A X) mX13_canEnd (dn + 1) 57 (vX13_canEnd_57 g j) := by
  unfold vX13_canEnd_57
  refine s_iload_n hZ.1 dX13_canEnd_57 rfl ?_
  refine s_bipush dX13_canEnd_58 (by decide +kernel) ?_
  exact s_icmp_eq dX13_canEnd_60 (by decide) (wX13_canEnd_83 hZ hg hd j hj) (wX13_canEnd_63 hZ hg hd j hj)
noncomputable def vX13_canEnd_50 (g : Nat → List Nat → rx_H → Option (Nat × rx_H)) (j : Nat → rx_K) : rx_K := o_ld rx_isR 0 (o_getf 13 77 (o_ld rx_isI 1 (o_ald 0 (o_st rx_isI 2 ((vX13_canEnd_57 g j))))))
set_option maxRecDepth 20000 in
theorem wX13_canEnd_50 {dn : Nat} {g : Nat → List Nat → rx_H → Option (Nat × rx_H)} (hZ : zO b e D A X) (hg : ∀ i y M, vl12[i]? = some (y, M) → rx_Met (zV b e D A X) dn y M (g i)) (hd : 0 ≤ dn) (j : Nat → rx_K) (hj : ∀ k pc, [57][k]? = some pc → rx_OK (zV b e D A X) mX13_canEnd (dn + 1) pc (j k)) : rx_OK (zV b e D A X) mX13_canEnd (dn + 1) 50 (vX13_canEnd_50 g j) := by
  unfold vX13_canEnd_50
  refine s_aload_n hZ.1 dX13_canEnd_50 rfl ?_
  refine yg13_77 dX13_canEnd_51 zw4198 ?_
  refine s_iload_n hZ.1 dX13_canEnd_54 rfl ?_
  refine s_iald (tt := 0) rfl dX13_canEnd_55 ?_
  refine s_istore_n hZ.1 dX13_canEnd_56 rfl (Nat.le_of_ble_eq_true rfl) ?_
  exact (wX13_canEnd_57 hZ hg hd j hj)
noncomputable def vX13_canEnd_48 (g : Nat → List Nat → rx_H → Option (Nat × rx_H)) (j : Nat → rx_K) : rx_K := o_const 0 (o_ret1 rx_isZ)
set_option maxRecDepth 20000 in
theorem wX13_canEnd_48 {dn : Nat} {g : Nat → List Nat → rx_H → Option (Nat × rx_H)} (hZ : zO b e D A X) (hg : ∀ i y M, vl12[i]? = some (y, M) → rx_Met (zV b e D A X) dn y M (g i)) (hd : 0 ≤ dn) (j : Nat → rx_K) (hj : ∀ k pc, [57][k]? = some pc → rx_OK (zV b e D A X) mX13_canEnd (dn + 1) pc (j k)) : rx_OK (zV b e D A X) mX13_canEnd (dn + 1) 48 (vX13_canEnd_48 g j) := by
  unfold vX13_canEnd_48
  refine s_iconst dX13_canEnd_48 (by decide +kernel) ?_
  exact s_zret rx_z_ok rfl dX13_canEnd_49
noncomputable def vX13_canEnd_0 (g : Nat → List Nat → rx_H → Option (Nat × rx_H)) (j : Nat → rx_K) : rx_K := o_ld rx_isR 0 (o_getf 13 70 (o_ld rx_isI 1 (o_ald 0 (o_sw 20 [50, 160, 85, 160, 48, 48, 128] 160 (rx_pk [(48, (vX13_canEnd_48 g j)), (50, (vX13_canEnd_50 g j)), (85, (vX13_canEnd_85 g j)), (128, (vX13_canEnd_128 g j)), (160, (vX13_canEnd_160 g j))])))))
set_option maxRecDepth 20000 in
theorem wX13_canEnd_0 {dn : Nat} {g : Nat → List Nat → rx_H → Option (Nat × rx_H)} (hZ : zO b e D A X) (hg : ∀ i y M, vl12[i]? = some (y, M) → rx_Met (zV b e D A X) dn y M (g i)) (hd : 0 ≤ dn) (j : Nat → rx_K) (hj : ∀ k pc, [57][k]? = some pc → rx_OK (zV b e D A X) mX13_canEnd (dn + 1) pc (j k)) : rx_OK (zV b e D A X) mX13_canEnd (dn + 1) 0 (vX13_canEnd_0 g j) := by
  unfold vX13_canEnd_0
  refine s_aload_n hZ.1 dX13_canEnd_0 rfl ?_
  refine yg13_70 dX13_canEnd_1 zw4191 ?_
  refine s_iload_n hZ.1 dX13_canEnd_4 rfl ?_
  refine s_iald (tt := 0) rfl dX13_canEnd_5 ?_
  exact s_sw dX13_canEnd_6 (by decide) (by decide) (by decide) (by decide) (by decide) (fun b _ => (rx_pk_ok (List.forall_mem_cons.mpr ⟨(wX13_canEnd_48 hZ hg hd j hj), List.forall_mem_cons.mpr ⟨(wX13_canEnd_50 hZ hg hd j hj), List.forall_mem_cons.mpr ⟨(wX13_canEnd_85 hZ hg hd j hj), List.forall_mem_cons.mpr ⟨(wX13_canEnd_128 hZ hg hd j hj), List.forall_mem_cons.mpr ⟨(wX13_canEnd_160 hZ hg hd j hj), fun _ h => absurd h List.not_mem_nil⟩⟩⟩⟩⟩)) b)
noncomputable def vhX13_canEnd (g : Nat → List Nat → rx_H → Option (Nat × rx_H)) (j : Nat → rx_K) : List rx_K := [vX13_canEnd_57 g j]
theorem vlX13_canEnd {dn : Nat} {g : Nat → List Nat → rx_H → Option (Nat × rx_H)} (hZ : zO b e D A X) (hg : ∀ i y M, vl12[i]? = some (y, M) → rx_Met (zV b e D A X) dn y M (g i)) (hd : 0 ≤ dn) : ∀ n k pc, [57][k]? = some pc → rx_OK (zV b e D A X) mX13_canEnd (dn + 1) pc (rx_J (vhX13_canEnd g) n k) := rx_loop fun j hj k pc h => by
  match k, h with
  | 0, h =>
    have e9 := Option.some.inj (show some 57 = some pc from h)
    subst e9
    exact wX13_canEnd_57 hZ hg hd j hj
  | _ + 1, h => exact absurd h (by simp)
noncomputable def FX13_canEnd (g : Nat → List Nat → rx_H → Option (Nat × rx_H)) : List Nat → rx_H → Option (Nat × rx_H) := rx_ent 3 (vX13_canEnd_0 g (rx_J (vhX13_canEnd g) 4000000000))
theorem Met_X13_canEnd {dn : Nat} {g : Nat → List Nat → rx_H → Option (Nat × rx_H)} (hZ : zO b e D A X) (hg : ∀ i y M, vl12[i]? = some (y, M) → rx_Met (zV b e D A X) dn y M (g i)) (hd : 0 ≤ dn) : rx_Met (zV b e D A X) (dn + 1) yX13_canEnd mX13_canEnd (FX13_canEnd g) := rx_entry hZ.1 (wX13_canEnd_0 hZ hg hd _ (vlX13_canEnd hZ hg hd 4000000000)) (by decide +kernel) rfl (fun h => by cases h)
noncomputable def q12 (n : Nat) : Nat → List Nat → rx_H → Option (Nat × rx_H) := Nat.rec (fun _ _ _ => none) (fun _ ih i => rx_nth [FX13_canEnd ih] i (fun _ _ => none)) n
theorem q12_ok (hZ : zO b e D A X) : ∀ n i y M, vl12[i]? = some (y, M) → rx_Met (zV b e D A X) (0 + n) y M (q12 n i)
  | 0 => fun i y M _ As h r h2 hf => by cases hf
  | n + 1 => fun i y M h => by
    match i, h with
    | 0, h => cases h; exact Met_X13_canEnd hZ (q12_ok hZ n) (Nat.le_add_right 0 n)
    | _ + 1, h => exact absurd h (by simp)
abbrev mX13_keepParams : rx_M := (RX13, cX13_keepParams, 4, none, false)
theorem vy_X13_keepParams : rx_Y (zV b e D A X) yX13_keepParams mX13_keepParams 2 := ⟨zw3443, zw431, by decide, by decide +kernel, by decide +kernel, by decide +kernel⟩
noncomputable def vX13_keepParams_50 (j : Nat → rx_K) : rx_K := o_ret0
set_option maxRecDepth 20000 in
theorem wX13_keepParams_50 (hZ : zO b e D A X) (j : Nat → rx_K) (hj : ∀ k pc, [14][k]? = some pc → rx_OK (zV b e D A X) mX13_keepParams 0 pc (j k)) : rx_OK (zV b e D A X) mX13_keepParams 0 50 (vX13_keepParams_50 j) := by
  unfold vX13_keepParams_50
  exact s_vret rfl dX13_keepParams_50
noncomputable def vX13_keepParams_24 (j : Nat → rx_K) : rx_K := o_ld rx_isR 0 (o_getf 13 86 (o_const 32 (o_ld rx_isI 1 (o_bi (fun x y => x * y) (o_ld rx_isI 3 (o_bi (fun x y => x + y) (o_ld rx_isR 0 (o_getf 13 56 (o_const 32 (o_ld rx_isI 2 (o_bi (fun x y => x * y) (o_ld rx_isI 3 (o_bi (fun x y => x + y) (o_ald 1 (o_ast 1 (fun v => v) rx_isL (o_inc 3 (1) ((j 0))))))))))))))))))
set_option maxRecDepth 20000 in
theorem wX13_keepParams_24 (hZ : zO b e D A X) (j : Nat → rx_K) (hj : ∀ k pc, [14][k]? = some pc → rx_OK (zV b e D A X) mX13_keepParams 0 pc (j k)) : rx_OK (zV b e D A X) mX13_keepParams 0 24 (vX13_keepParams_24 j) := by
  unfold vX13_keepParams_24
  refine s_aload_n hZ.1 dX13_keepParams_24 rfl ?_
  refine yg13_86 dX13_keepParams_25 zw4207 ?_
  refine s_iconst dX13_keepParams_28 (by decide +kernel) ?_
  refine s_iload_n hZ.1 dX13_keepParams_29 rfl ?_
  refine s_imul dX13_keepParams_30 ?_
  refine s_iload_n hZ.1 dX13_keepParams_31 rfl ?_
  refine s_iadd dX13_keepParams_32 ?_
  refine s_aload_n hZ.1 dX13_keepParams_33 rfl ?_
  refine yg13_56 dX13_keepParams_34 zw4177 ?_
  refine s_iconst dX13_keepParams_37 (by decide +kernel) ?_
  refine s_iload_n hZ.1 dX13_keepParams_38 rfl ?_
  refine s_imul dX13_keepParams_39 ?_
  refine s_iload_n hZ.1 dX13_keepParams_40 rfl ?_
  refine s_iadd dX13_keepParams_41 ?_
  refine s_lald (tt := 1) rfl dX13_keepParams_42 ?_
  refine s_last (tt := 1) rfl dX13_keepParams_43 ?_
  refine s_iinc hZ.1 dX13_keepParams_44 (Nat.le_of_ble_eq_true rfl) ?_
  exact s_goto dX13_keepParams_47 (by decide) (hj 0 14 rfl)
noncomputable def vX13_keepParams_14 (j : Nat → rx_K) : rx_K := o_ld rx_isI 3 (o_ld rx_isR 0 (o_getf 13 55 (o_ld rx_isI 2 (o_ald 0 (o_c2 rx_lt (vX13_keepParams_24 j) (vX13_keepParams_50 j))))))
set_option maxRecDepth 20000 in
theorem wX13_keepParams_14 (hZ : zO b e D A X) (j : Nat → rx_K) (hj : ∀ k pc, [14][k]? = some pc → rx_OK (zV b e D A X) mX13_keepParams 0 pc (j k)) : rx_OK (zV b e D A X) mX13_keepParams 0 14 (vX13_keepParams_14 j) := by
  unfold vX13_keepParams_14
  refine s_iload_n hZ.1 dX13_keepParams_14 rfl ?_
  refine s_aload_n hZ.1 dX13_keepParams_15 rfl ?_
  refine yg13_55 dX13_keepParams_16 zw4176 ?_
  refine s_iload_n hZ.1 dX13_keepParams_19 rfl ?_
  refine s_iald (tt := 0) rfl dX13_keepParams_20 ?_
  exact s_icmp_ge dX13_keepParams_21 (by decide) (wX13_keepParams_50 hZ j hj) (wX13_keepParams_24 hZ j hj)
noncomputable def vX13_keepParams_0 (j : Nat → rx_K) : rx_K := o_ld rx_isR 0 (o_getf 13 85 (o_ld rx_isI 1 (o_ld rx_isR 0 (o_getf 13 55 (o_ld rx_isI 2 (o_ald 0 (o_ast 0 (fun v => v) rx_isI (o_const 0 (o_st rx_isI 3 ((vX13_keepParams_14 j)))))))))))
set_option maxRecDepth 20000 in
theorem wX13_keepParams_0 (hZ : zO b e D A X) (j : Nat → rx_K) (hj : ∀ k pc, [14][k]? = some pc → rx_OK (zV b e D A X) mX13_keepParams 0 pc (j k)) : rx_OK (zV b e D A X) mX13_keepParams 0 0 (vX13_keepParams_0 j) := by
  unfold vX13_keepParams_0
  refine s_aload_n hZ.1 dX13_keepParams_0 rfl ?_
  refine yg13_85 dX13_keepParams_1 zw4206 ?_
  refine s_iload_n hZ.1 dX13_keepParams_4 rfl ?_
  refine s_aload_n hZ.1 dX13_keepParams_5 rfl ?_
  refine yg13_55 dX13_keepParams_6 zw4176 ?_
  refine s_iload_n hZ.1 dX13_keepParams_9 rfl ?_
  refine s_iald (tt := 0) rfl dX13_keepParams_10 ?_
  refine s_iast hZ.1 (tt := 0) rfl dX13_keepParams_11 ?_
  refine s_iconst dX13_keepParams_12 (by decide +kernel) ?_
  refine s_istore_n hZ.1 dX13_keepParams_13 rfl (Nat.le_of_ble_eq_true rfl) ?_
  exact (wX13_keepParams_14 hZ j hj)
noncomputable def vhX13_keepParams (j : Nat → rx_K) : List rx_K := [vX13_keepParams_14 j]
theorem vlX13_keepParams (hZ : zO b e D A X) : ∀ n k pc, [14][k]? = some pc → rx_OK (zV b e D A X) mX13_keepParams 0 pc (rx_J (vhX13_keepParams) n k) := rx_loop fun j hj k pc h => by
  match k, h with
  | 0, h =>
    have e9 := Option.some.inj (show some 14 = some pc from h)
    subst e9
    exact wX13_keepParams_14 hZ j hj
  | _ + 1, h => exact absurd h (by simp)
noncomputable def FX13_keepParams : List Nat → rx_H → Option (Nat × rx_H) := rx_ent 4 (vX13_keepParams_0 (rx_J (vhX13_keepParams) 4000000000))
theorem Met_X13_keepParams (hZ : zO b e D A X) : rx_Met (zV b e D A X) 0 yX13_keepParams mX13_keepParams (FX13_keepParams) := rx_entry hZ.1 (wX13_keepParams_0 hZ _ (vlX13_keepParams hZ 4000000000)) (by decide +kernel) rfl (fun h => by cases h)
abbrev mX13_means : rx_M := (RX13, cX13_means, 5, (some .long), false)
theorem vy_X13_means : rx_Y (zV b e D A X) yX13_means mX13_means 3 := ⟨zw3439, zw431, by decide, by decide +kernel, by decide +kernel, by decide +kernel⟩
noncomputable def vX13_means_19 : rx_K := o_ast 0 (fun v => v) rx_isI (o_ld rx_isR 0 (o_getf 13 83 (o_ld rx_isI 1 (o_ld rx_isL 3 (o_ast 1 (fun v => v) rx_isL (o_ld rx_isR 0 (o_getf 13 84 (o_ld rx_isI 1 (o_ld rx_isR 0 (o_getf 13 53 (o_ld rx_isI 2 (o_ald 1 (o_ast 1 (fun v => v) rx_isL (o_ld rx_isR 0 (o_ld rx_isI 1 (o_ld rx_isI 2 (o_callV 2 13 FX13_keepParams (o_ld rx_isR 0 (o_getf 13 53 (o_ld rx_isI 2 (o_ald 1 (o_ret1 rx_isL))))))))))))))))))))))
set_option maxRecDepth 20000 in
theorem wX13_means_19 (hZ : zO b e D A X) : rx_OK (zV b e D A X) mX13_means 1 19 vX13_means_19 := by
  unfold vX13_means_19
  refine s_iast hZ.1 (tt := 0) rfl dX13_means_19 ?_
  refine s_aload_n hZ.1 dX13_means_20 rfl ?_
  refine yg13_83 dX13_means_21 zw4204 ?_
  refine s_iload_n hZ.1 dX13_means_24 rfl ?_
  refine s_lload_n hZ.1 dX13_means_25 rfl ?_
  refine s_last (tt := 1) rfl dX13_means_26 ?_
  refine s_aload_n hZ.1 dX13_means_27 rfl ?_
  refine yg13_84 dX13_means_28 zw4205 ?_
  refine s_iload_n hZ.1 dX13_means_31 rfl ?_
  refine s_aload_n hZ.1 dX13_means_32 rfl ?_
  refine yg13_53 dX13_means_33 zw4174 ?_
  refine s_iload_n hZ.1 dX13_means_36 rfl ?_
  refine s_lald (tt := 1) rfl dX13_means_37 ?_
  refine s_last (tt := 1) rfl dX13_means_38 ?_
  refine s_aload_n hZ.1 dX13_means_39 rfl ?_
  refine s_iload_n hZ.1 dX13_means_40 rfl ?_
  refine s_iload_n hZ.1 dX13_means_41 rfl ?_
  refine s_callV hZ.1 (Met_X13_keepParams hZ) (Nat.le_of_ble_eq_true rfl) vy_X13_keepParams zcl13 zw3442 zw285 (Or.inl zw3440) dX13_means_42 ?_
  refine s_aload_n hZ.1 dX13_means_45 rfl ?_
  refine yg13_53 dX13_means_46 zw4174 ?_
  refine s_iload_n hZ.1 dX13_means_49 rfl ?_
  refine s_lald (tt := 1) rfl dX13_means_50 ?_
  exact s_lret rfl dX13_means_51
noncomputable def vX13_means_18 : rx_K := o_const 0 (vX13_means_19)
set_option maxRecDepth 20000 in
theorem wX13_means_18 (hZ : zO b e D A X) : rx_OK (zV b e D A X) mX13_means 1 18 vX13_means_18 := by
  unfold vX13_means_18
  refine s_iconst dX13_means_18 (by decide +kernel) ?_
  exact (wX13_means_19 hZ)
noncomputable def vX13_means_14 : rx_K := o_const 8 (vX13_means_19)
set_option maxRecDepth 20000 in
theorem wX13_means_14 (hZ : zO b e D A X) : rx_OK (zV b e D A X) mX13_means 1 14 vX13_means_14 := by
  unfold vX13_means_14
  refine s_iconst dX13_means_14 (by decide +kernel) ?_
  exact s_goto dX13_means_15 (by decide) (wX13_means_19 hZ)
noncomputable def vX13_means_0 : rx_K := o_ld rx_isR 0 (o_getf 13 82 (o_ld rx_isI 1 (o_ld rx_isR 0 (o_getf 13 45 (o_ld rx_isI 2 (o_ald 3 (o_c1 rx_eq vX13_means_18 vX13_means_14)))))))
set_option maxRecDepth 20000 in
theorem wX13_means_0 (hZ : zO b e D A X) : rx_OK (zV b e D A X) mX13_means 1 0 vX13_means_0 := by
  unfold vX13_means_0
  refine s_aload_n hZ.1 dX13_means_0 rfl ?_
  refine yg13_82 dX13_means_1 zw4203 ?_
  refine s_iload_n hZ.1 dX13_means_4 rfl ?_
  refine s_aload_n hZ.1 dX13_means_5 rfl ?_
  refine yg13_45 dX13_means_6 zw4166 ?_
  refine s_iload_n hZ.1 dX13_means_9 rfl ?_
  refine s_zald (tt := 3) rfl dX13_means_10 ?_
  exact s_if_eq dX13_means_11 (by decide) (wX13_means_18 hZ) (wX13_means_14 hZ)
noncomputable def FX13_means : List Nat → rx_H → Option (Nat × rx_H) := rx_ent 5 vX13_means_0
theorem Met_X13_means (hZ : zO b e D A X) : rx_Met (zV b e D A X) 1 yX13_means mX13_means (FX13_means) := rx_entry hZ.1 (wX13_means_0 hZ) (by decide +kernel) rfl (fun h => by cases h)
abbrev mX13_best : rx_M := (RX13, cX13_best, 5, (some .int), false)
theorem vy_X13_best : rx_Y (zV b e D A X) yX13_best mX13_best 0 := ⟨zw3435, zw431, by decide, by decide +kernel, by decide +kernel, by decide +kernel⟩
noncomputable def vX13_best_115 (j : Nat → rx_K) : rx_K := o_const 34359738352 (o_ret1 rx_isI)
set_option maxRecDepth 20000 in
theorem wX13_best_115 (hZ : zO b e D A X) (j : Nat → rx_K) (hj : ∀ k pc, [2, 14, 29][k]? = some pc → rx_OK (zV b e D A X) mX13_best 5 pc (j k)) : rx_OK (zV b e D A X) mX13_best 5 115 (vX13_best_115 j) := by
  unfold vX13_best_115
  refine s_bipush dX13_best_115 (by decide +kernel) ?_
  exact s_iret hZ.1 rfl dX13_best_117
noncomputable def vX13_best_109 (j : Nat → rx_K) : rx_K := o_inc 1 (1) ((j 0))
set_option maxRecDepth 20000 in
theorem wX13_best_109 (hZ : zO b e D A X) (j : Nat → rx_K) (hj : ∀ k pc, [2, 14, 29][k]? = some pc → rx_OK (zV b e D A X) mX13_best 5 pc (j k)) : rx_OK (zV b e D A X) mX13_best 5 109 (vX13_best_109 j) := by
  unfold vX13_best_109
  refine s_iinc hZ.1 dX13_best_109 (Nat.le_of_ble_eq_true rfl) ?_
  exact s_goto dX13_best_112 (by decide) (hj 0 2 rfl)
noncomputable def vX13_best_102 (j : Nat → rx_K) : rx_K := o_ld rx_isR 0 (o_getf 13 115 (o_ld rx_isI 1 (o_ald 0 (o_ret1 rx_isI))))
set_option maxRecDepth 20000 in
theorem wX13_best_102 (hZ : zO b e D A X) (j : Nat → rx_K) (hj : ∀ k pc, [2, 14, 29][k]? = some pc → rx_OK (zV b e D A X) mX13_best 5 pc (j k)) : rx_OK (zV b e D A X) mX13_best 5 102 (vX13_best_102 j) := by
  unfold vX13_best_102
  refine s_aload_n hZ.1 dX13_best_102 rfl ?_
  refine yg13_115 dX13_best_103 zw4235 ?_
  refine s_iload_n hZ.1 dX13_best_106 rfl ?_
  refine s_iald (tt := 0) rfl dX13_best_107 ?_
  exact s_iret hZ.1 rfl dX13_best_108
noncomputable def vX13_best_98 (j : Nat → rx_K) : rx_K := o_ld rx_isI 2 (o_c1 rx_eq (vX13_best_109 j) (vX13_best_102 j))
set_option maxRecDepth 20000 in
theorem wX13_best_98 (hZ : zO b e D A X) (j : Nat → rx_K) (hj : ∀ k pc, [2, 14, 29][k]? = some pc → rx_OK (zV b e D A X) mX13_best 5 pc (j k)) : rx_OK (zV b e D A X) mX13_best 5 98 (vX13_best_98 j) := by
  unfold vX13_best_98
  refine s_iload_n hZ.1 dX13_best_98 rfl ?_
  exact s_if_eq dX13_best_99 (by decide) (wX13_best_109 hZ j hj) (wX13_best_102 hZ j hj)
noncomputable def vX13_best_92 (j : Nat → rx_K) : rx_K := o_inc 3 (1) ((j 1))
set_option maxRecDepth 20000 in
theorem wX13_best_92 (hZ : zO b e D A X) (j : Nat → rx_K) (hj : ∀ k pc, [2, 14, 29][k]? = some pc → rx_OK (zV b e D A X) mX13_best 5 pc (j k)) : rx_OK (zV b e D A X) mX13_best 5 92 (vX13_best_92 j) := by
  unfold vX13_best_92
  refine s_iinc hZ.1 dX13_best_92 (Nat.le_of_ble_eq_true rfl) ?_
  exact s_goto dX13_best_95 (by decide) (hj 1 14 rfl)
noncomputable def vX13_best_85 (j : Nat → rx_K) : rx_K := o_st rx_isI 2 (o_inc 4 (1) ((j 2)))
set_option maxRecDepth 20000 in
theorem wX13_best_85 (hZ : zO b e D A X) (j : Nat → rx_K) (hj : ∀ k pc, [2, 14, 29][k]? = some pc → rx_OK (zV b e D A X) mX13_best 5 pc (j k)) : rx_OK (zV b e D A X) mX13_best 5 85 (vX13_best_85 j) := by
  unfold vX13_best_85
  refine s_istore_n hZ.1 dX13_best_85 rfl (Nat.le_of_ble_eq_true rfl) ?_
  refine s_iinc hZ.1 dX13_best_86 (Nat.le_of_ble_eq_true rfl) ?_
  exact s_goto dX13_best_89 (by decide) (hj 2 29 rfl)
noncomputable def vX13_best_49 (j : Nat → rx_K) : rx_K := o_ld rx_isR 0 (o_ld rx_isR 0 (o_getf 13 56 (o_const 32 (o_ld rx_isR 0 (o_getf 13 115 (o_ld rx_isI 1 (o_ald 0 (o_bi (fun x y => x * y) (o_ld rx_isI 4 (o_bi (fun x y => x + y) (o_ald 1 (o_ld rx_isR 0 (o_getf 13 56 (o_const 32 (o_ld rx_isR 0 (o_getf 13 115 (o_ld rx_isI 3 (o_ald 0 (o_bi (fun x y => x * y) (o_ld rx_isI 4 (o_bi (fun x y => x + y) (o_ald 1 (o_callV 2 13 FX13_fits ((vX13_best_85 j)))))))))))))))))))))))))
set_option maxRecDepth 20000 in
theorem wX13_best_49 (hZ : zO b e D A X) (j : Nat → rx_K) (hj : ∀ k pc, [2, 14, 29][k]? = some pc → rx_OK (zV b e D A X) mX13_best 5 pc (j k)) : rx_OK (zV b e D A X) mX13_best 5 49 (vX13_best_49 j) := by
  unfold vX13_best_49
  refine s_aload_n hZ.1 dX13_best_49 rfl ?_
  refine s_aload_n hZ.1 dX13_best_50 rfl ?_
  refine yg13_56 dX13_best_51 zw4177 ?_
  refine s_iconst dX13_best_54 (by decide +kernel) ?_
  refine s_aload_n hZ.1 dX13_best_55 rfl ?_
  refine yg13_115 dX13_best_56 zw4235 ?_
  refine s_iload_n hZ.1 dX13_best_59 rfl ?_
  refine s_iald (tt := 0) rfl dX13_best_60 ?_
  refine s_imul dX13_best_61 ?_
  refine s_iload hZ.1 dX13_best_62 ?_
  refine s_iadd dX13_best_64 ?_
  refine s_lald (tt := 1) rfl dX13_best_65 ?_
  refine s_aload_n hZ.1 dX13_best_66 rfl ?_
  refine yg13_56 dX13_best_67 zw4177 ?_
  refine s_iconst dX13_best_70 (by decide +kernel) ?_
  refine s_aload_n hZ.1 dX13_best_71 rfl ?_
  refine yg13_115 dX13_best_72 zw4235 ?_
  refine s_iload_n hZ.1 dX13_best_75 rfl ?_
  refine s_iald (tt := 0) rfl dX13_best_76 ?_
  refine s_imul dX13_best_77 ?_
  refine s_iload hZ.1 dX13_best_78 ?_
  refine s_iadd dX13_best_80 ?_
  refine s_lald (tt := 1) rfl dX13_best_81 ?_
  refine s_callV hZ.1 (Met_X13_fits hZ) (Nat.le_of_ble_eq_true rfl) vy_X13_fits zcl13 zw3278 zw246 (Or.inl zw3276) dX13_best_82 ?_
  exact (wX13_best_85 hZ j hj)
noncomputable def vX13_best_45 (j : Nat → rx_K) : rx_K := o_ld rx_isI 2 (o_c1 rx_eq (vX13_best_92 j) (vX13_best_49 j))
set_option maxRecDepth 20000 in
theorem wX13_best_45 (hZ : zO b e D A X) (j : Nat → rx_K) (hj : ∀ k pc, [2, 14, 29][k]? = some pc → rx_OK (zV b e D A X) mX13_best 5 pc (j k)) : rx_OK (zV b e D A X) mX13_best 5 45 (vX13_best_45 j) := by
  unfold vX13_best_45
  refine s_iload_n hZ.1 dX13_best_45 rfl ?_
  exact s_if_eq dX13_best_46 (by decide) (wX13_best_92 hZ j hj) (wX13_best_49 hZ j hj)
noncomputable def vX13_best_29 (j : Nat → rx_K) : rx_K := o_ld rx_isI 4 (o_ld rx_isR 0 (o_getf 13 55 (o_ld rx_isR 0 (o_getf 13 115 (o_ld rx_isI 1 (o_ald 0 (o_ald 0 (o_c2 rx_lt (vX13_best_45 j) (vX13_best_92 j)))))))))
set_option maxRecDepth 20000 in
theorem wX13_best_29 (hZ : zO b e D A X) (j : Nat → rx_K) (hj : ∀ k pc, [2, 14, 29][k]? = some pc → rx_OK (zV b e D A X) mX13_best 5 pc (j k)) : rx_OK (zV b e D A X) mX13_best 5 29 (vX13_best_29 j) := by
  unfold vX13_best_29
  refine s_iload hZ.1 dX13_best_29 ?_
  refine s_aload_n hZ.1 dX13_best_31 rfl ?_
  refine yg13_55 dX13_best_32 zw4176 ?_
  refine s_aload_n hZ.1 dX13_best_35 rfl ?_
  refine yg13_115 dX13_best_36 zw4235 ?_
  refine s_iload_n hZ.1 dX13_best_39 rfl ?_
  refine s_iald (tt := 0) rfl dX13_best_40 ?_
  refine s_iald (tt := 0) rfl dX13_best_41 ?_
  exact s_icmp_ge dX13_best_42 (by decide) (wX13_best_92 hZ j hj) (wX13_best_45 hZ j hj)
noncomputable def vX13_best_26 (j : Nat → rx_K) : rx_K := o_const 0 (o_st rx_isI 4 ((vX13_best_29 j)))
set_option maxRecDepth 20000 in
theorem wX13_best_26 (hZ : zO b e D A X) (j : Nat → rx_K) (hj : ∀ k pc, [2, 14, 29][k]? = some pc → rx_OK (zV b e D A X) mX13_best 5 pc (j k)) : rx_OK (zV b e D A X) mX13_best 5 26 (vX13_best_26 j) := by
  unfold vX13_best_26
  refine s_iconst dX13_best_26 (by decide +kernel) ?_
  refine s_istore hZ.1 dX13_best_27 (Nat.le_of_ble_eq_true rfl) ?_
  exact (wX13_best_29 hZ j hj)
noncomputable def vX13_best_22 (j : Nat → rx_K) : rx_K := o_ld rx_isI 2 (o_c1 rx_eq (vX13_best_98 j) (vX13_best_26 j))
set_option maxRecDepth 20000 in
theorem wX13_best_22 (hZ : zO b e D A X) (j : Nat → rx_K) (hj : ∀ k pc, [2, 14, 29][k]? = some pc → rx_OK (zV b e D A X) mX13_best 5 pc (j k)) : rx_OK (zV b e D A X) mX13_best 5 22 (vX13_best_22 j) := by
  unfold vX13_best_22
  refine s_iload_n hZ.1 dX13_best_22 rfl ?_
  exact s_if_eq dX13_best_23 (by decide) (wX13_best_98 hZ j hj) (wX13_best_26 hZ j hj)
noncomputable def vX13_best_14 (j : Nat → rx_K) : rx_K := o_ld rx_isI 3 (o_ld rx_isR 0 (o_getf 13 116 (o_c2 rx_lt (vX13_best_22 j) (vX13_best_98 j))))
set_option maxRecDepth 20000 in
theorem wX13_best_14 (hZ : zO b e D A X) (j : Nat → rx_K) (hj : ∀ k pc, [2, 14, 29][k]? = some pc → rx_OK (zV b e D A X) mX13_best 5 pc (j k)) : rx_OK (zV b e D A X) mX13_best 5 14 (vX13_best_14 j) := by
  unfold vX13_best_14
  refine s_iload_n hZ.1 dX13_best_14 rfl ?_
  refine s_aload_n hZ.1 dX13_best_15 rfl ?_
  refine yg13_116 dX13_best_16 zw4236 ?_
  exact s_icmp_ge dX13_best_19 (by decide) (wX13_best_98 hZ j hj) (wX13_best_22 hZ j hj)
noncomputable def vX13_best_10 (j : Nat → rx_K) : rx_K := o_const 8 (o_st rx_isI 2 (o_const 0 (o_st rx_isI 3 ((vX13_best_14 j)))))
set_option maxRecDepth 20000 in
theorem wX13_best_10 (hZ : zO b e D A X) (j : Nat → rx_K) (hj : ∀ k pc, [2, 14, 29][k]? = some pc → rx_OK (zV b e D A X) mX13_best 5 pc (j k)) : rx_OK (zV b e D A X) mX13_best 5 10 (vX13_best_10 j) := by
  unfold vX13_best_10
  refine s_iconst dX13_best_10 (by decide +kernel) ?_
  refine s_istore_n hZ.1 dX13_best_11 rfl (Nat.le_of_ble_eq_true rfl) ?_
  refine s_iconst dX13_best_12 (by decide +kernel) ?_
  refine s_istore_n hZ.1 dX13_best_13 rfl (Nat.le_of_ble_eq_true rfl) ?_
  exact (wX13_best_14 hZ j hj)
noncomputable def vX13_best_2 (j : Nat → rx_K) : rx_K := o_ld rx_isI 1 (o_ld rx_isR 0 (o_getf 13 116 (o_c2 rx_lt (vX13_best_10 j) (vX13_best_115 j))))
set_option maxRecDepth 20000 in
theorem wX13_best_2 (hZ : zO b e D A X) (j : Nat → rx_K) (hj : ∀ k pc, [2, 14, 29][k]? = some pc → rx_OK (zV b e D A X) mX13_best 5 pc (j k)) : rx_OK (zV b e D A X) mX13_best 5 2 (vX13_best_2 j) := by
  unfold vX13_best_2
  refine s_iload_n hZ.1 dX13_best_2 rfl ?_
  refine s_aload_n hZ.1 dX13_best_3 rfl ?_
  refine yg13_116 dX13_best_4 zw4236 ?_
  exact s_icmp_ge dX13_best_7 (by decide) (wX13_best_115 hZ j hj) (wX13_best_10 hZ j hj)
noncomputable def vX13_best_0 (j : Nat → rx_K) : rx_K := o_const 0 (o_st rx_isI 1 ((vX13_best_2 j)))
set_option maxRecDepth 20000 in
theorem wX13_best_0 (hZ : zO b e D A X) (j : Nat → rx_K) (hj : ∀ k pc, [2, 14, 29][k]? = some pc → rx_OK (zV b e D A X) mX13_best 5 pc (j k)) : rx_OK (zV b e D A X) mX13_best 5 0 (vX13_best_0 j) := by
  unfold vX13_best_0
  refine s_iconst dX13_best_0 (by decide +kernel) ?_
  refine s_istore_n hZ.1 dX13_best_1 rfl (Nat.le_of_ble_eq_true rfl) ?_
  exact (wX13_best_2 hZ j hj)
noncomputable def vhX13_best (j : Nat → rx_K) : List rx_K := [vX13_best_2 j, vX13_best_14 j, vX13_best_29 j]
theorem vlX13_best (hZ : zO b e D A X) : ∀ n k pc, [2, 14, 29][k]? = some pc → rx_OK (zV b e D A X) mX13_best 5 pc (rx_J (vhX13_best) n k) := rx_loop fun j hj k pc h => by
  match k, h with
  | 0, h =>
    have e9 := Option.some.inj (show some 2 = some pc from h)
    subst e9
    exact wX13_best_2 hZ j hj
  | 1, h =>
    have e9 := Option.some.inj (show some 14 = some pc from h)
    subst e9
    exact wX13_best_14 hZ j hj
  | 2, h =>
    have e9 := Option.some.inj (show some 29 = some pc from h)
    subst e9
    exact wX13_best_29 hZ j hj
  | _ + 3, h => exact absurd h (by simp)
noncomputable def FX13_best : List Nat → rx_H → Option (Nat × rx_H) := rx_ent 5 (vX13_best_0 (rx_J (vhX13_best) 4000000000))
theorem Met_X13_best (hZ : zO b e D A X) : rx_Met (zV b e D A X) 5 yX13_best mX13_best (FX13_best) := rx_entry hZ.1 (wX13_best_0 hZ _ (vlX13_best hZ 4000000000)) (by decide +kernel) rfl (fun h => by cases h)
end ZM51

section ZM4
variable {b : Nat} {e : Nat → Value} {D : va_G} {A : Nat → ClassId} {X : State → Prop}
noncomputable def vX0_superCall_218 (g : Nat → List Nat → rx_H → Option (Nat × rx_H)) : rx_K := o_ld rx_isR 0 (o_ld rx_isR 1 (o_const 0 (o_const 8 (o_callV 3 0 FX0_statics (o_ret1 rx_isZ)))))
set_option maxRecDepth 20000 in
theorem wX0_superCall_218 {dn : Nat} {g : Nat → List Nat → rx_H → Option (Nat × rx_H)} (hZ : zO b e D A X) (hg : ∀ i y M, vl1[i]? = some (y, M) → rx_Met (zV b e D A X) dn y M (g i)) (hd : 3 ≤ dn) : rx_OK (zV b e D A X) mX0_superCall (dn + 1) 218 (vX0_superCall_218 g) := by
  unfold vX0_superCall_218
  refine s_aload_n hZ.1 dX0_superCall_218 rfl ?_
  refine s_aload_n hZ.1 dX0_superCall_219 rfl ?_
  refine s_iconst dX0_superCall_220 (by decide +kernel) ?_
  refine s_iconst dX0_superCall_221 (by decide +kernel) ?_
  refine s_callV hZ.1 (Met_X0_statics hZ) (Nat.succ_le_succ (Nat.le_trans (Nat.le_of_ble_eq_true rfl) hd)) vy_X0_statics zcl0 zw2111 zw69 (Or.inl zw2109) dX0_superCall_222 ?_
  exact s_zret rx_z_ok rfl dX0_superCall_225
noncomputable def vX0_superCall_214 (g : Nat → List Nat → rx_H → Option (Nat × rx_H)) : rx_K := o_callV 2 0 FX0_fail (o_ret1 rx_isZ)
set_option maxRecDepth 20000 in
theorem wX0_superCall_214 {dn : Nat} {g : Nat → List Nat → rx_H → Option (Nat × rx_H)} (hZ : zO b e D A X) (hg : ∀ i y M, vl1[i]? = some (y, M) → rx_Met (zV b e D A X) dn y M (g i)) (hd : 3 ≤ dn) : rx_OK (zV b e D A X) mX0_superCall (dn + 1) 214 (vX0_superCall_214 g) := by
  unfold vX0_superCall_214
  refine s_callV hZ.1 (Met_X0_fail hZ) (Nat.succ_le_succ (Nat.le_trans (Nat.le_of_ble_eq_true rfl) hd)) vy_X0_fail zcl0 zw2095 zw65 (Or.inl zw2093) dX0_superCall_214 ?_
  exact s_zret rx_z_ok rfl dX0_superCall_217
noncomputable def vX0_superCall_210 (g : Nat → List Nat → rx_H → Option (Nat × rx_H)) : rx_K := o_ld rx_isR 1 (o_getf 8 1 ((vX0_superCall_214 g)))
set_option maxRecDepth 20000 in
theorem wX0_superCall_210 {dn : Nat} {g : Nat → List Nat → rx_H → Option (Nat × rx_H)} (hZ : zO b e D A X) (hg : ∀ i y M, vl1[i]? = some (y, M) → rx_Met (zV b e D A X) dn y M (g i)) (hd : 3 ≤ dn) : rx_OK (zV b e D A X) mX0_superCall (dn + 1) 210 (vX0_superCall_210 g) := by
  unfold vX0_superCall_210
  refine s_aload_n hZ.1 dX0_superCall_210 rfl ?_
  refine yg8_1 dX0_superCall_211 zw462 ?_
  exact (wX0_superCall_214 hZ hg hd)
noncomputable def vX0_superCall_201 (g : Nat → List Nat → rx_H → Option (Nat × rx_H)) : rx_K := o_ld rx_isR 1 (o_getf 8 1 (o_const 16 (o_bi (fun x y => x + y) ((vX0_superCall_214 g)))))
set_option maxRecDepth 20000 in
theorem wX0_superCall_201 {dn : Nat} {g : Nat → List Nat → rx_H → Option (Nat × rx_H)} (hZ : zO b e D A X) (hg : ∀ i y M, vl1[i]? = some (y, M) → rx_Met (zV b e D A X) dn y M (g i)) (hd : 3 ≤ dn) : rx_OK (zV b e D A X) mX0_superCall (dn + 1) 201 (vX0_superCall_201 g) := by
  unfold vX0_superCall_201
  refine s_aload_n hZ.1 dX0_superCall_201 rfl ?_
  refine yg8_1 dX0_superCall_202 zw462 ?_
  refine s_iconst dX0_superCall_205 (by decide +kernel) ?_
  refine s_iadd dX0_superCall_206 ?_
  exact s_goto dX0_superCall_207 (by decide) (wX0_superCall_214 hZ hg hd)
noncomputable def vX0_superCall_194 (g : Nat → List Nat → rx_H → Option (Nat × rx_H)) : rx_K := o_ld rx_isR 0 (o_const 112 (o_ld rx_isI 2 (o_c1 rx_eq (vX0_superCall_210 g) (vX0_superCall_201 g))))
set_option maxRecDepth 20000 in
theorem wX0_superCall_194 {dn : Nat} {g : Nat → List Nat → rx_H → Option (Nat × rx_H)} (hZ : zO b e D A X) (hg : ∀ i y M, vl1[i]? = some (y, M) → rx_Met (zV b e D A X) dn y M (g i)) (hd : 3 ≤ dn) : rx_OK (zV b e D A X) mX0_superCall (dn + 1) 194 (vX0_superCall_194 g) := by
  unfold vX0_superCall_194
  refine s_aload_n hZ.1 dX0_superCall_194 rfl ?_
  refine s_bipush dX0_superCall_195 (by decide +kernel) ?_
  refine s_iload_n hZ.1 dX0_superCall_197 rfl ?_
  exact s_if_eq dX0_superCall_198 (by decide) (wX0_superCall_210 hZ hg hd) (wX0_superCall_201 hZ hg hd)
noncomputable def vX0_superCall_187 (g : Nat → List Nat → rx_H → Option (Nat × rx_H)) : rx_K := o_ld rx_isR 0 (o_getf 0 8 (o_c1 rx_eq (vX0_superCall_218 g) (vX0_superCall_194 g)))
set_option maxRecDepth 20000 in
theorem wX0_superCall_187 {dn : Nat} {g : Nat → List Nat → rx_H → Option (Nat × rx_H)} (hZ : zO b e D A X) (hg : ∀ i y M, vl1[i]? = some (y, M) → rx_Met (zV b e D A X) dn y M (g i)) (hd : 3 ≤ dn) : rx_OK (zV b e D A X) mX0_superCall (dn + 1) 187 (vX0_superCall_187 g) := by
  unfold vX0_superCall_187
  refine s_aload_n hZ.1 dX0_superCall_187 rfl ?_
  refine yg0_8 dX0_superCall_188 zw671 ?_
  exact s_if_eq dX0_superCall_191 (by decide) (wX0_superCall_218 hZ hg hd) (wX0_superCall_194 hZ hg hd)
noncomputable def vX0_superCall_176 (g : Nat → List Nat → rx_H → Option (Nat × rx_H)) : rx_K := o_ld rx_isR 0 (o_const 96 (o_ld rx_isR 1 (o_getf 8 2 (o_callV 2 0 FX0_fail (o_ret1 rx_isZ)))))
set_option maxRecDepth 20000 in
theorem wX0_superCall_176 {dn : Nat} {g : Nat → List Nat → rx_H → Option (Nat × rx_H)} (hZ : zO b e D A X) (hg : ∀ i y M, vl1[i]? = some (y, M) → rx_Met (zV b e D A X) dn y M (g i)) (hd : 3 ≤ dn) : rx_OK (zV b e D A X) mX0_superCall (dn + 1) 176 (vX0_superCall_176 g) := by
  unfold vX0_superCall_176
  refine s_aload_n hZ.1 dX0_superCall_176 rfl ?_
  refine s_bipush dX0_superCall_177 (by decide +kernel) ?_
  refine s_aload_n hZ.1 dX0_superCall_179 rfl ?_
  refine yg8_2 dX0_superCall_180 zw465 ?_
  refine s_callV hZ.1 (Met_X0_fail hZ) (Nat.succ_le_succ (Nat.le_trans (Nat.le_of_ble_eq_true rfl) hd)) vy_X0_fail zcl0 zw2095 zw65 (Or.inl zw2093) dX0_superCall_183 ?_
  exact s_zret rx_z_ok rfl dX0_superCall_186
noncomputable def vX0_superCall_165 (g : Nat → List Nat → rx_H → Option (Nat × rx_H)) : rx_K := o_ld rx_isR 0 (o_ld rx_isR 1 (o_ld rx_isI 3 (o_ld rx_isR 5 (o_callV 3 0 FX0_calls (o_c1 rx_eq (vX0_superCall_176 g) (vX0_superCall_187 g))))))
set_option maxRecDepth 20000 in
theorem wX0_superCall_165 {dn : Nat} {g : Nat → List Nat → rx_H → Option (Nat × rx_H)} (hZ : zO b e D A X) (hg : ∀ i y M, vl1[i]? = some (y, M) → rx_Met (zV b e D A X) dn y M (g i)) (hd : 3 ≤ dn) : rx_OK (zV b e D A X) mX0_superCall (dn + 1) 165 (vX0_superCall_165 g) := by
  unfold vX0_superCall_165
  refine s_aload_n hZ.1 dX0_superCall_165 rfl ?_
  refine s_aload_n hZ.1 dX0_superCall_166 rfl ?_
  refine s_iload_n hZ.1 dX0_superCall_167 rfl ?_
  refine s_aload hZ.1 dX0_superCall_168 ?_
  refine s_callV hZ.1 (Met_X0_calls hZ) (Nat.succ_le_succ (Nat.le_trans (Nat.le_of_ble_eq_true rfl) hd)) vy_X0_calls zcl0 zw2134 zw74 (Or.inl zw2132) dX0_superCall_170 ?_
  exact s_if_ne dX0_superCall_173 (by decide) (wX0_superCall_187 hZ hg hd) (wX0_superCall_176 hZ hg hd)
noncomputable def vX0_superCall_157 (g : Nat → List Nat → rx_H → Option (Nat × rx_H)) : rx_K := o_ld rx_isR 5 (o_getf 7 4 (o_c1 rx_eq (vX0_superCall_165 g) (vX0_superCall_176 g)))
set_option maxRecDepth 20000 in
theorem wX0_superCall_157 {dn : Nat} {g : Nat → List Nat → rx_H → Option (Nat × rx_H)} (hZ : zO b e D A X) (hg : ∀ i y M, vl1[i]? = some (y, M) → rx_Met (zV b e D A X) dn y M (g i)) (hd : 3 ≤ dn) : rx_OK (zV b e D A X) mX0_superCall (dn + 1) 157 (vX0_superCall_157 g) := by
  unfold vX0_superCall_157
  refine s_aload hZ.1 dX0_superCall_157 ?_
  refine yg7_4 dX0_superCall_159 zw987 ?_
  exact s_if_ne dX0_superCall_162 (by decide) (wX0_superCall_176 hZ hg hd) (wX0_superCall_165 hZ hg hd)
noncomputable def vX0_superCall_150 (g : Nat → List Nat → rx_H → Option (Nat × rx_H)) : rx_K := o_st rx_isR 5 (o_ld rx_isR 5 (o_nul (vX0_superCall_176 g) (vX0_superCall_157 g)))
set_option maxRecDepth 20000 in
theorem wX0_superCall_150 {dn : Nat} {g : Nat → List Nat → rx_H → Option (Nat × rx_H)} (hZ : zO b e D A X) (hg : ∀ i y M, vl1[i]? = some (y, M) → rx_Met (zV b e D A X) dn y M (g i)) (hd : 3 ≤ dn) : rx_OK (zV b e D A X) mX0_superCall (dn + 1) 150 (vX0_superCall_150 g) := by
  unfold vX0_superCall_150
  refine s_astore hZ.1 dX0_superCall_150 (Nat.le_of_ble_eq_true rfl) ?_
  refine s_aload hZ.1 dX0_superCall_152 ?_
  exact s_ifnull dX0_superCall_154 (by decide) (wX0_superCall_176 hZ hg hd) (wX0_superCall_157 hZ hg hd)
noncomputable def vX0_superCall_128 (g : Nat → List Nat → rx_H → Option (Nat × rx_H)) : rx_K := o_ld rx_isR 0 (o_ld rx_isI 3 (o_ld rx_isR 0 (o_getf 0 2 (o_getf 9 4 (o_ld rx_isR 1 (o_getf 8 2 (o_ald 1 (o_ld rx_isR 1 (o_getf 8 5 (o_const 0 (o_callV 4 0 FX0_meant ((vX0_superCall_150 g)))))))))))))
set_option maxRecDepth 20000 in
theorem wX0_superCall_128 {dn : Nat} {g : Nat → List Nat → rx_H → Option (Nat × rx_H)} (hZ : zO b e D A X) (hg : ∀ i y M, vl1[i]? = some (y, M) → rx_Met (zV b e D A X) dn y M (g i)) (hd : 3 ≤ dn) : rx_OK (zV b e D A X) mX0_superCall (dn + 1) 128 (vX0_superCall_128 g) := by
  unfold vX0_superCall_128
  refine s_aload_n hZ.1 dX0_superCall_128 rfl ?_
  refine s_iload_n hZ.1 dX0_superCall_129 rfl ?_
  refine s_aload_n hZ.1 dX0_superCall_130 rfl ?_
  refine yg0_2 dX0_superCall_131 zw663 ?_
  refine yg9_4 dX0_superCall_134 zw587 ?_
  refine s_aload_n hZ.1 dX0_superCall_137 rfl ?_
  refine yg8_2 dX0_superCall_138 zw465 ?_
  refine s_lald (tt := 1) rfl dX0_superCall_141 ?_
  refine s_aload_n hZ.1 dX0_superCall_142 rfl ?_
  refine yg8_5 dX0_superCall_143 zw475 ?_
  refine s_iconst dX0_superCall_146 (by decide +kernel) ?_
  refine s_callV hZ.1 (Met_X0_meant hZ) (Nat.succ_le_succ (Nat.le_trans (Nat.le_of_ble_eq_true rfl) hd)) vy_X0_meant zcl0 zw2119 zw71 (Or.inl zw2117) dX0_superCall_147 ?_
  exact (wX0_superCall_150 hZ hg hd)
noncomputable def vX0_superCall_124 (g : Nat → List Nat → rx_H → Option (Nat × rx_H)) : rx_K := o_const 3 ((vX0_superCall_150 g))
set_option maxRecDepth 20000 in
theorem wX0_superCall_124 {dn : Nat} {g : Nat → List Nat → rx_H → Option (Nat × rx_H)} (hZ : zO b e D A X) (hg : ∀ i y M, vl1[i]? = some (y, M) → rx_Met (zV b e D A X) dn y M (g i)) (hd : 3 ≤ dn) : rx_OK (zV b e D A X) mX0_superCall (dn + 1) 124 (vX0_superCall_124 g) := by
  unfold vX0_superCall_124
  refine s_null dX0_superCall_124 ?_
  exact s_goto dX0_superCall_125 (by decide) (wX0_superCall_150 hZ hg hd)
noncomputable def vX0_superCall_117 (g : Nat → List Nat → rx_H → Option (Nat × rx_H)) : rx_K := o_st rx_isI 4 (o_ld rx_isI 4 (o_c1 rx_eq (vX0_superCall_128 g) (vX0_superCall_124 g)))
set_option maxRecDepth 20000 in
theorem wX0_superCall_117 {dn : Nat} {g : Nat → List Nat → rx_H → Option (Nat × rx_H)} (hZ : zO b e D A X) (hg : ∀ i y M, vl1[i]? = some (y, M) → rx_Met (zV b e D A X) dn y M (g i)) (hd : 3 ≤ dn) : rx_OK (zV b e D A X) mX0_superCall (dn + 1) 117 (vX0_superCall_117 g) := by
  unfold vX0_superCall_117
  refine s_istore hZ.1 dX0_superCall_117 (Nat.le_of_ble_eq_true rfl) ?_
  refine s_iload hZ.1 dX0_superCall_119 ?_
  exact s_if_eq dX0_superCall_121 (by decide) (wX0_superCall_128 hZ hg hd) (wX0_superCall_124 hZ hg hd)
noncomputable def vX0_superCall_110 (g : Nat → List Nat → rx_H → Option (Nat × rx_H)) : rx_K := o_ld rx_isR 0 (o_getf 0 5 (o_getf 10 4 ((vX0_superCall_117 g))))
set_option maxRecDepth 20000 in
theorem wX0_superCall_110 {dn : Nat} {g : Nat → List Nat → rx_H → Option (Nat × rx_H)} (hZ : zO b e D A X) (hg : ∀ i y M, vl1[i]? = some (y, M) → rx_Met (zV b e D A X) dn y M (g i)) (hd : 3 ≤ dn) : rx_OK (zV b e D A X) mX0_superCall (dn + 1) 110 (vX0_superCall_110 g) := by
  unfold vX0_superCall_110
  refine s_aload_n hZ.1 dX0_superCall_110 rfl ?_
  refine yg0_5 dX0_superCall_111 zw668 ?_
  refine yg10_4 dX0_superCall_114 zw799 ?_
  exact (wX0_superCall_117 hZ hg hd)
noncomputable def vX0_superCall_106 (g : Nat → List Nat → rx_H → Option (Nat × rx_H)) : rx_K := o_const 0 ((vX0_superCall_117 g))
set_option maxRecDepth 20000 in
theorem wX0_superCall_106 {dn : Nat} {g : Nat → List Nat → rx_H → Option (Nat × rx_H)} (hZ : zO b e D A X) (hg : ∀ i y M, vl1[i]? = some (y, M) → rx_Met (zV b e D A X) dn y M (g i)) (hd : 3 ≤ dn) : rx_OK (zV b e D A X) mX0_superCall (dn + 1) 106 (vX0_superCall_106 g) := by
  unfold vX0_superCall_106
  refine s_iconst dX0_superCall_106 (by decide +kernel) ?_
  exact s_goto dX0_superCall_107 (by decide) (wX0_superCall_117 hZ hg hd)
noncomputable def vX0_superCall_102 (g : Nat → List Nat → rx_H → Option (Nat × rx_H)) : rx_K := o_const 8 ((vX0_superCall_117 g))
set_option maxRecDepth 20000 in
theorem wX0_superCall_102 {dn : Nat} {g : Nat → List Nat → rx_H → Option (Nat × rx_H)} (hZ : zO b e D A X) (hg : ∀ i y M, vl1[i]? = some (y, M) → rx_Met (zV b e D A X) dn y M (g i)) (hd : 3 ≤ dn) : rx_OK (zV b e D A X) mX0_superCall (dn + 1) 102 (vX0_superCall_102 g) := by
  unfold vX0_superCall_102
  refine s_iconst dX0_superCall_102 (by decide +kernel) ?_
  exact s_goto dX0_superCall_103 (by decide) (wX0_superCall_117 hZ hg hd)
noncomputable def vX0_superCall_79 (g : Nat → List Nat → rx_H → Option (Nat × rx_H)) : rx_K := o_ld rx_isR 0 (o_getf 0 5 (o_const 0 (o_ld rx_isR 0 (o_getf 0 2 (o_getf 9 4 (o_ld rx_isR 1 (o_getf 8 1 (o_ald 1 (o_callV 2 10 FX10_has (o_c1 rx_eq (vX0_superCall_102 g) (vX0_superCall_106 g)))))))))))
set_option maxRecDepth 20000 in
theorem wX0_superCall_79 {dn : Nat} {g : Nat → List Nat → rx_H → Option (Nat × rx_H)} (hZ : zO b e D A X) (hg : ∀ i y M, vl1[i]? = some (y, M) → rx_Met (zV b e D A X) dn y M (g i)) (hd : 3 ≤ dn) : rx_OK (zV b e D A X) mX0_superCall (dn + 1) 79 (vX0_superCall_79 g) := by
  unfold vX0_superCall_79
  refine s_aload_n hZ.1 dX0_superCall_79 rfl ?_
  refine yg0_5 dX0_superCall_80 zw668 ?_
  refine s_iconst dX0_superCall_83 (by decide +kernel) ?_
  refine s_aload_n hZ.1 dX0_superCall_84 rfl ?_
  refine yg0_2 dX0_superCall_85 zw663 ?_
  refine yg9_4 dX0_superCall_88 zw587 ?_
  refine s_aload_n hZ.1 dX0_superCall_91 rfl ?_
  refine yg8_1 dX0_superCall_92 zw462 ?_
  refine s_lald (tt := 1) rfl dX0_superCall_95 ?_
  refine s_callV hZ.1 (Met_X10_has hZ) (Nat.succ_le_succ (Nat.le_trans (Nat.le_of_ble_eq_true rfl) hd)) vy_X10_has zcl10 zw1578 zw1579 (Or.inl zw2144) dX0_superCall_96 ?_
  exact s_if_ne dX0_superCall_99 (by decide) (wX0_superCall_106 hZ hg hd) (wX0_superCall_102 hZ hg hd)
noncomputable def vX0_superCall_75 (g : Nat → List Nat → rx_H → Option (Nat × rx_H)) : rx_K := o_ld rx_isI 2 (o_c1 rx_eq (vX0_superCall_110 g) (vX0_superCall_79 g))
set_option maxRecDepth 20000 in
theorem wX0_superCall_75 {dn : Nat} {g : Nat → List Nat → rx_H → Option (Nat × rx_H)} (hZ : zO b e D A X) (hg : ∀ i y M, vl1[i]? = some (y, M) → rx_Met (zV b e D A X) dn y M (g i)) (hd : 3 ≤ dn) : rx_OK (zV b e D A X) mX0_superCall (dn + 1) 75 (vX0_superCall_75 g) := by
  unfold vX0_superCall_75
  refine s_iload_n hZ.1 dX0_superCall_75 rfl ?_
  exact s_if_eq dX0_superCall_76 (by decide) (wX0_superCall_110 hZ hg hd) (wX0_superCall_79 hZ hg hd)
noncomputable def vX0_superCall_73 (g : Nat → List Nat → rx_H → Option (Nat × rx_H)) : rx_K := o_const 0 (o_ret1 rx_isZ)
set_option maxRecDepth 20000 in
theorem wX0_superCall_73 {dn : Nat} {g : Nat → List Nat → rx_H → Option (Nat × rx_H)} (hZ : zO b e D A X) (hg : ∀ i y M, vl1[i]? = some (y, M) → rx_Met (zV b e D A X) dn y M (g i)) (hd : 3 ≤ dn) : rx_OK (zV b e D A X) mX0_superCall (dn + 1) 73 (vX0_superCall_73 g) := by
  unfold vX0_superCall_73
  refine s_iconst dX0_superCall_73 (by decide +kernel) ?_
  exact s_zret rx_z_ok rfl dX0_superCall_74
noncomputable def vX0_superCall_62 (g : Nat → List Nat → rx_H → Option (Nat × rx_H)) : rx_K := o_ld rx_isR 0 (o_ld rx_isR 1 (o_getf 8 5 (o_callV 1 0 (g 4) (o_c1 rx_eq (vX0_superCall_73 g) (vX0_superCall_75 g)))))
set_option maxRecDepth 20000 in
theorem wX0_superCall_62 {dn : Nat} {g : Nat → List Nat → rx_H → Option (Nat × rx_H)} (hZ : zO b e D A X) (hg : ∀ i y M, vl1[i]? = some (y, M) → rx_Met (zV b e D A X) dn y M (g i)) (hd : 3 ≤ dn) : rx_OK (zV b e D A X) mX0_superCall (dn + 1) 62 (vX0_superCall_62 g) := by
  unfold vX0_superCall_62
  refine s_aload_n hZ.1 dX0_superCall_62 rfl ?_
  refine s_aload_n hZ.1 dX0_superCall_63 rfl ?_
  refine yg8_5 dX0_superCall_64 zw475 ?_
  refine s_callV hZ.1 (hg 4 _ _ rfl) (Nat.le_refl _) vy_X0_exprs zcl0 zw2115 zw70 (Or.inl zw2113) dX0_superCall_67 ?_
  exact s_if_ne dX0_superCall_70 (by decide) (wX0_superCall_75 hZ hg hd) (wX0_superCall_73 hZ hg hd)
noncomputable def vX0_superCall_54 (g : Nat → List Nat → rx_H → Option (Nat × rx_H)) : rx_K := o_st rx_isI 3 (o_ld rx_isR 0 (o_getf 0 3 (o_c1 rx_eq (vX0_superCall_62 g) (vX0_superCall_73 g))))
set_option maxRecDepth 20000 in
theorem wX0_superCall_54 {dn : Nat} {g : Nat → List Nat → rx_H → Option (Nat × rx_H)} (hZ : zO b e D A X) (hg : ∀ i y M, vl1[i]? = some (y, M) → rx_Met (zV b e D A X) dn y M (g i)) (hd : 3 ≤ dn) : rx_OK (zV b e D A X) mX0_superCall (dn + 1) 54 (vX0_superCall_54 g) := by
  unfold vX0_superCall_54
  refine s_istore_n hZ.1 dX0_superCall_54 rfl (Nat.le_of_ble_eq_true rfl) ?_
  refine s_aload_n hZ.1 dX0_superCall_55 rfl ?_
  refine yg0_3 dX0_superCall_56 zw664 ?_
  exact s_if_ne dX0_superCall_59 (by decide) (wX0_superCall_73 hZ hg hd) (wX0_superCall_62 hZ hg hd)
noncomputable def vX0_superCall_42 (g : Nat → List Nat → rx_H → Option (Nat × rx_H)) : rx_K := o_ld rx_isR 0 (o_getf 0 0 (o_getf 11 3 (o_ld rx_isR 0 (o_getf 0 6 (o_ald 0 ((vX0_superCall_54 g)))))))
set_option maxRecDepth 20000 in
theorem wX0_superCall_42 {dn : Nat} {g : Nat → List Nat → rx_H → Option (Nat × rx_H)} (hZ : zO b e D A X) (hg : ∀ i y M, vl1[i]? = some (y, M) → rx_Met (zV b e D A X) dn y M (g i)) (hd : 3 ≤ dn) : rx_OK (zV b e D A X) mX0_superCall (dn + 1) 42 (vX0_superCall_42 g) := by
  unfold vX0_superCall_42
  refine s_aload_n hZ.1 dX0_superCall_42 rfl ?_
  refine yg0_0 dX0_superCall_43 zw661 ?_
  refine yg11_3 dX0_superCall_46 zw1263 ?_
  refine s_aload_n hZ.1 dX0_superCall_49 rfl ?_
  refine yg0_6 dX0_superCall_50 zw669 ?_
  refine s_iald (tt := 0) rfl dX0_superCall_53 ?_
  exact (wX0_superCall_54 hZ hg hd)
noncomputable def vX0_superCall_19 (g : Nat → List Nat → rx_H → Option (Nat × rx_H)) : rx_K := o_ld rx_isR 0 (o_ld rx_isR 0 (o_getf 0 2 (o_getf 9 4 (o_ld rx_isR 1 (o_getf 8 1 (o_ald 1 (o_ld rx_isR 1 (o_getf 8 1 (o_callV 2 0 FX0_named ((vX0_superCall_54 g)))))))))))
set_option maxRecDepth 20000 in
theorem wX0_superCall_19 {dn : Nat} {g : Nat → List Nat → rx_H → Option (Nat × rx_H)} (hZ : zO b e D A X) (hg : ∀ i y M, vl1[i]? = some (y, M) → rx_Met (zV b e D A X) dn y M (g i)) (hd : 3 ≤ dn) : rx_OK (zV b e D A X) mX0_superCall (dn + 1) 19 (vX0_superCall_19 g) := by
  unfold vX0_superCall_19
  refine s_aload_n hZ.1 dX0_superCall_19 rfl ?_
  refine s_aload_n hZ.1 dX0_superCall_20 rfl ?_
  refine yg0_2 dX0_superCall_21 zw663 ?_
  refine yg9_4 dX0_superCall_24 zw587 ?_
  refine s_aload_n hZ.1 dX0_superCall_27 rfl ?_
  refine yg8_1 dX0_superCall_28 zw462 ?_
  refine s_lald (tt := 1) rfl dX0_superCall_31 ?_
  refine s_aload_n hZ.1 dX0_superCall_32 rfl ?_
  refine yg8_1 dX0_superCall_33 zw462 ?_
  refine s_callV hZ.1 (Met_X0_named hZ) (Nat.succ_le_succ (Nat.le_trans (Nat.le_of_ble_eq_true rfl) hd)) vy_X0_named zcl0 zw2138 zw75 (Or.inl zw2136) dX0_superCall_36 ?_
  exact s_goto dX0_superCall_39 (by decide) (wX0_superCall_54 hZ hg hd)
noncomputable def vX0_superCall_14 (g : Nat → List Nat → rx_H → Option (Nat × rx_H)) : rx_K := o_st rx_isI 2 (o_ld rx_isI 2 (o_c1 rx_eq (vX0_superCall_42 g) (vX0_superCall_19 g)))
set_option maxRecDepth 20000 in
theorem wX0_superCall_14 {dn : Nat} {g : Nat → List Nat → rx_H → Option (Nat × rx_H)} (hZ : zO b e D A X) (hg : ∀ i y M, vl1[i]? = some (y, M) → rx_Met (zV b e D A X) dn y M (g i)) (hd : 3 ≤ dn) : rx_OK (zV b e D A X) mX0_superCall (dn + 1) 14 (vX0_superCall_14 g) := by
  unfold vX0_superCall_14
  refine s_istore_n hZ.1 dX0_superCall_14 rfl (Nat.le_of_ble_eq_true rfl) ?_
  refine s_iload_n hZ.1 dX0_superCall_15 rfl ?_
  exact s_if_eq dX0_superCall_16 (by decide) (wX0_superCall_42 hZ hg hd) (wX0_superCall_19 hZ hg hd)
noncomputable def vX0_superCall_13 (g : Nat → List Nat → rx_H → Option (Nat × rx_H)) : rx_K := o_const 0 ((vX0_superCall_14 g))
set_option maxRecDepth 20000 in
theorem wX0_superCall_13 {dn : Nat} {g : Nat → List Nat → rx_H → Option (Nat × rx_H)} (hZ : zO b e D A X) (hg : ∀ i y M, vl1[i]? = some (y, M) → rx_Met (zV b e D A X) dn y M (g i)) (hd : 3 ≤ dn) : rx_OK (zV b e D A X) mX0_superCall (dn + 1) 13 (vX0_superCall_13 g) := by
  unfold vX0_superCall_13
  refine s_iconst dX0_superCall_13 (by decide +kernel) ?_
  exact (wX0_superCall_14 hZ hg hd)
noncomputable def vX0_superCall_9 (g : Nat → List Nat → rx_H → Option (Nat × rx_H)) : rx_K := o_const 8 ((vX0_superCall_14 g))
set_option maxRecDepth 20000 in
theorem wX0_superCall_9 {dn : Nat} {g : Nat → List Nat → rx_H → Option (Nat × rx_H)} (hZ : zO b e D A X) (hg : ∀ i y M, vl1[i]? = some (y, M) → rx_Met (zV b e D A X) dn y M (g i)) (hd : 3 ≤ dn) : rx_OK (zV b e D A X) mX0_superCall (dn + 1) 9 (vX0_superCall_9 g) := by
  unfold vX0_superCall_9
  refine s_iconst dX0_superCall_9 (by decide +kernel) ?_
  exact s_goto dX0_superCall_10 (by decide) (wX0_superCall_14 hZ hg hd)
noncomputable def vX0_superCall_0 (g : Nat → List Nat → rx_H → Option (Nat × rx_H)) : rx_K := o_ld rx_isR 1 (o_getf 8 0 (o_const 64 (o_c2 rx_eq (vX0_superCall_9 g) (vX0_superCall_13 g))))
set_option maxRecDepth 20000 in
theorem wX0_superCall_0 {dn : Nat} {g : Nat → List Nat → rx_H → Option (Nat × rx_H)} (hZ : zO b e D A X) (hg : ∀ i y M, vl1[i]? = some (y, M) → rx_Met (zV b e D A X) dn y M (g i)) (hd : 3 ≤ dn) : rx_OK (zV b e D A X) mX0_superCall (dn + 1) 0 (vX0_superCall_0 g) := by
  unfold vX0_superCall_0
  refine s_aload_n hZ.1 dX0_superCall_0 rfl ?_
  refine yg8_0 dX0_superCall_1 zw458 ?_
  refine s_bipush dX0_superCall_4 (by decide +kernel) ?_
  exact s_icmp_ne dX0_superCall_6 (by decide) (wX0_superCall_13 hZ hg hd) (wX0_superCall_9 hZ hg hd)
noncomputable def FX0_superCall (g : Nat → List Nat → rx_H → Option (Nat × rx_H)) : List Nat → rx_H → Option (Nat × rx_H) := rx_ent 6 (vX0_superCall_0 g)
theorem Met_X0_superCall {dn : Nat} {g : Nat → List Nat → rx_H → Option (Nat × rx_H)} (hZ : zO b e D A X) (hg : ∀ i y M, vl1[i]? = some (y, M) → rx_Met (zV b e D A X) dn y M (g i)) (hd : 3 ≤ dn) : rx_Met (zV b e D A X) (dn + 1) yX0_superCall mX0_superCall (FX0_superCall g) := rx_entry hZ.1 (wX0_superCall_0 hZ hg hd) (by decide +kernel) rfl (fun h => by cases h)
noncomputable def vX0_unit_74 (g : Nat → List Nat → rx_H → Option (Nat × rx_H)) (j : Nat → rx_K) : rx_K := o_ld rx_isR 1 (o_ld rx_isL 2 (o_putf rx_isL 8 9 (o_const 8 (o_ret1 rx_isZ))))
set_option maxRecDepth 20000 in
theorem wX0_unit_74 {dn : Nat} {g : Nat → List Nat → rx_H → Option (Nat × rx_H)} (hZ : zO b e D A X) (hg : ∀ i y M, vl1[i]? = some (y, M) → rx_Met (zV b e D A X) dn y M (g i)) (hd : 3 ≤ dn) (j : Nat → rx_K) (hj : ∀ k pc, [40][k]? = some pc → rx_OK (zV b e D A X) mX0_unit (dn + 1) pc (j k)) : rx_OK (zV b e D A X) mX0_unit (dn + 1) 74 (vX0_unit_74 g j) := by
  unfold vX0_unit_74
  refine s_aload_n hZ.1 dX0_unit_74 rfl ?_
  refine s_lload_n hZ.1 dX0_unit_75 rfl ?_
  refine yp8_9 hZ.1 dX0_unit_76 zw492 ?_
  refine s_iconst dX0_unit_79 (by decide +kernel) ?_
  exact s_zret rx_z_ok rfl dX0_unit_80
noncomputable def vX0_unit_58 (g : Nat → List Nat → rx_H → Option (Nat × rx_H)) (j : Nat → rx_K) : rx_K := o_ld rx_isR 4 (o_getf 8 9 (o_stL 2 (o_ld rx_isR 4 (o_getf 8 8 (o_st rx_isR 4 ((j 0)))))))
set_option maxRecDepth 20000 in
theorem wX0_unit_58 {dn : Nat} {g : Nat → List Nat → rx_H → Option (Nat × rx_H)} (hZ : zO b e D A X) (hg : ∀ i y M, vl1[i]? = some (y, M) → rx_Met (zV b e D A X) dn y M (g i)) (hd : 3 ≤ dn) (j : Nat → rx_K) (hj : ∀ k pc, [40][k]? = some pc → rx_OK (zV b e D A X) mX0_unit (dn + 1) pc (j k)) : rx_OK (zV b e D A X) mX0_unit (dn + 1) 58 (vX0_unit_58 g j) := by
  unfold vX0_unit_58
  refine s_aload hZ.1 dX0_unit_58 ?_
  refine yg8_9 dX0_unit_60 zw492 ?_
  refine s_lstore_n hZ.1 dX0_unit_63 rfl (Nat.le_of_ble_eq_true rfl) ?_
  refine s_aload hZ.1 dX0_unit_64 ?_
  refine yg8_8 dX0_unit_66 zw487 ?_
  refine s_astore hZ.1 dX0_unit_69 (Nat.le_of_ble_eq_true rfl) ?_
  exact s_goto dX0_unit_71 (by decide) (hj 0 40 rfl)
noncomputable def vX0_unit_56 (g : Nat → List Nat → rx_H → Option (Nat × rx_H)) (j : Nat → rx_K) : rx_K := o_const 0 (o_ret1 rx_isZ)
set_option maxRecDepth 20000 in
theorem wX0_unit_56 {dn : Nat} {g : Nat → List Nat → rx_H → Option (Nat × rx_H)} (hZ : zO b e D A X) (hg : ∀ i y M, vl1[i]? = some (y, M) → rx_Met (zV b e D A X) dn y M (g i)) (hd : 3 ≤ dn) (j : Nat → rx_K) (hj : ∀ k pc, [40][k]? = some pc → rx_OK (zV b e D A X) mX0_unit (dn + 1) pc (j k)) : rx_OK (zV b e D A X) mX0_unit (dn + 1) 56 (vX0_unit_56 g j) := by
  unfold vX0_unit_56
  refine s_iconst dX0_unit_56 (by decide +kernel) ?_
  exact s_zret rx_z_ok rfl dX0_unit_57
noncomputable def vX0_unit_45 (g : Nat → List Nat → rx_H → Option (Nat × rx_H)) (j : Nat → rx_K) : rx_K := o_ld rx_isR 0 (o_ld rx_isR 1 (o_ld rx_isR 4 (o_ld rx_isL 2 (o_callV 3 0 (g 0) (o_c1 rx_eq (vX0_unit_56 g j) (vX0_unit_58 g j))))))
set_option maxRecDepth 20000 in
theorem wX0_unit_45 {dn : Nat} {g : Nat → List Nat → rx_H → Option (Nat × rx_H)} (hZ : zO b e D A X) (hg : ∀ i y M, vl1[i]? = some (y, M) → rx_Met (zV b e D A X) dn y M (g i)) (hd : 3 ≤ dn) (j : Nat → rx_K) (hj : ∀ k pc, [40][k]? = some pc → rx_OK (zV b e D A X) mX0_unit (dn + 1) pc (j k)) : rx_OK (zV b e D A X) mX0_unit (dn + 1) 45 (vX0_unit_45 g j) := by
  unfold vX0_unit_45
  refine s_aload_n hZ.1 dX0_unit_45 rfl ?_
  refine s_aload_n hZ.1 dX0_unit_46 rfl ?_
  refine s_aload hZ.1 dX0_unit_47 ?_
  refine s_lload_n hZ.1 dX0_unit_49 rfl ?_
  refine s_callV hZ.1 (hg 0 _ _ rfl) (Nat.le_refl _) vy_X0_behind zcl0 zw2160 zw80 (Or.inl zw2158) dX0_unit_50 ?_
  exact s_if_ne dX0_unit_53 (by decide) (wX0_unit_58 hZ hg hd j hj) (wX0_unit_56 hZ hg hd j hj)
noncomputable def vX0_unit_40 (g : Nat → List Nat → rx_H → Option (Nat × rx_H)) (j : Nat → rx_K) : rx_K := o_ld rx_isR 4 (o_nul (vX0_unit_74 g j) (vX0_unit_45 g j))
set_option maxRecDepth 20000 in
theorem wX0_unit_40 {dn : Nat} {g : Nat → List Nat → rx_H → Option (Nat × rx_H)} (hZ : zO b e D A X) (hg : ∀ i y M, vl1[i]? = some (y, M) → rx_Met (zV b e D A X) dn y M (g i)) (hd : 3 ≤ dn) (j : Nat → rx_K) (hj : ∀ k pc, [40][k]? = some pc → rx_OK (zV b e D A X) mX0_unit (dn + 1) pc (j k)) : rx_OK (zV b e D A X) mX0_unit (dn + 1) 40 (vX0_unit_40 g j) := by
  unfold vX0_unit_40
  refine s_aload hZ.1 dX0_unit_40 ?_
  exact s_ifnull dX0_unit_42 (by decide) (wX0_unit_74 hZ hg hd j hj) (wX0_unit_45 hZ hg hd j hj)
noncomputable def vX0_unit_33 (g : Nat → List Nat → rx_H → Option (Nat × rx_H)) (j : Nat → rx_K) : rx_K := o_stL 2 (o_ld rx_isR 1 (o_getf 8 6 (o_st rx_isR 4 ((vX0_unit_40 g j)))))
set_option maxRecDepth 20000 in
theorem wX0_unit_33 {dn : Nat} {g : Nat → List Nat → rx_H → Option (Nat × rx_H)} (hZ : zO b e D A X) (hg : ∀ i y M, vl1[i]? = some (y, M) → rx_Met (zV b e D A X) dn y M (g i)) (hd : 3 ≤ dn) (j : Nat → rx_K) (hj : ∀ k pc, [40][k]? = some pc → rx_OK (zV b e D A X) mX0_unit (dn + 1) pc (j k)) : rx_OK (zV b e D A X) mX0_unit (dn + 1) 33 (vX0_unit_33 g j) := by
  unfold vX0_unit_33
  refine s_lstore_n hZ.1 dX0_unit_33 rfl (Nat.le_of_ble_eq_true rfl) ?_
  refine s_aload_n hZ.1 dX0_unit_34 rfl ?_
  refine yg8_6 dX0_unit_35 zw479 ?_
  refine s_astore hZ.1 dX0_unit_38 (Nat.le_of_ble_eq_true rfl) ?_
  exact (wX0_unit_40 hZ hg hd j hj)
noncomputable def vX0_unit_26 (g : Nat → List Nat → rx_H → Option (Nat × rx_H)) (j : Nat → rx_K) : rx_K := o_ld rx_isR 1 (o_getf 8 5 (o_getf 8 9 ((vX0_unit_33 g j))))
set_option maxRecDepth 20000 in
theorem wX0_unit_26 {dn : Nat} {g : Nat → List Nat → rx_H → Option (Nat × rx_H)} (hZ : zO b e D A X) (hg : ∀ i y M, vl1[i]? = some (y, M) → rx_Met (zV b e D A X) dn y M (g i)) (hd : 3 ≤ dn) (j : Nat → rx_K) (hj : ∀ k pc, [40][k]? = some pc → rx_OK (zV b e D A X) mX0_unit (dn + 1) pc (j k)) : rx_OK (zV b e D A X) mX0_unit (dn + 1) 26 (vX0_unit_26 g j) := by
  unfold vX0_unit_26
  refine s_aload_n hZ.1 dX0_unit_26 rfl ?_
  refine yg8_5 dX0_unit_27 zw475 ?_
  refine yg8_9 dX0_unit_30 zw492 ?_
  exact (wX0_unit_33 hZ hg hd j hj)
noncomputable def vX0_unit_20 (g : Nat → List Nat → rx_H → Option (Nat × rx_H)) (j : Nat → rx_K) : rx_K := o_const 147573952589676412897 ((vX0_unit_33 g j))
set_option maxRecDepth 20000 in
theorem wX0_unit_20 {dn : Nat} {g : Nat → List Nat → rx_H → Option (Nat × rx_H)} (hZ : zO b e D A X) (hg : ∀ i y M, vl1[i]? = some (y, M) → rx_Met (zV b e D A X) dn y M (g i)) (hd : 3 ≤ dn) (j : Nat → rx_K) (hj : ∀ k pc, [40][k]? = some pc → rx_OK (zV b e D A X) mX0_unit (dn + 1) pc (j k)) : rx_OK (zV b e D A X) mX0_unit (dn + 1) 20 (vX0_unit_20 g j) := by
  unfold vX0_unit_20
  refine s_ldc2 dX0_unit_20 zw2062 (by decide +kernel) ?_
  exact s_goto dX0_unit_23 (by decide) (wX0_unit_33 hZ hg hd j hj)
noncomputable def vX0_unit_13 (g : Nat → List Nat → rx_H → Option (Nat × rx_H)) (j : Nat → rx_K) : rx_K := o_ld rx_isR 1 (o_getf 8 5 (o_nul (vX0_unit_20 g j) (vX0_unit_26 g j)))
set_option maxRecDepth 20000 in
theorem wX0_unit_13 {dn : Nat} {g : Nat → List Nat → rx_H → Option (Nat × rx_H)} (hZ : zO b e D A X) (hg : ∀ i y M, vl1[i]? = some (y, M) → rx_Met (zV b e D A X) dn y M (g i)) (hd : 3 ≤ dn) (j : Nat → rx_K) (hj : ∀ k pc, [40][k]? = some pc → rx_OK (zV b e D A X) mX0_unit (dn + 1) pc (j k)) : rx_OK (zV b e D A X) mX0_unit (dn + 1) 13 (vX0_unit_13 g j) := by
  unfold vX0_unit_13
  refine s_aload_n hZ.1 dX0_unit_13 rfl ?_
  refine yg8_5 dX0_unit_14 zw475 ?_
  exact s_ifnonnull dX0_unit_17 (by decide) (wX0_unit_26 hZ hg hd j hj) (wX0_unit_20 hZ hg hd j hj)
noncomputable def vX0_unit_11 (g : Nat → List Nat → rx_H → Option (Nat × rx_H)) (j : Nat → rx_K) : rx_K := o_const 0 (o_ret1 rx_isZ)
set_option maxRecDepth 20000 in
theorem wX0_unit_11 {dn : Nat} {g : Nat → List Nat → rx_H → Option (Nat × rx_H)} (hZ : zO b e D A X) (hg : ∀ i y M, vl1[i]? = some (y, M) → rx_Met (zV b e D A X) dn y M (g i)) (hd : 3 ≤ dn) (j : Nat → rx_K) (hj : ∀ k pc, [40][k]? = some pc → rx_OK (zV b e D A X) mX0_unit (dn + 1) pc (j k)) : rx_OK (zV b e D A X) mX0_unit (dn + 1) 11 (vX0_unit_11 g j) := by
  unfold vX0_unit_11
  refine s_iconst dX0_unit_11 (by decide +kernel) ?_
  exact s_zret rx_z_ok rfl dX0_unit_12
noncomputable def vX0_unit_0 (g : Nat → List Nat → rx_H → Option (Nat × rx_H)) (j : Nat → rx_K) : rx_K := o_ld rx_isR 0 (o_ld rx_isR 1 (o_getf 8 5 (o_callV 1 0 (g 3) (o_c1 rx_eq (vX0_unit_11 g j) (vX0_unit_13 g j)))))
set_option maxRecDepth 20000 in
theorem wX0_unit_0 {dn : Nat} {g : Nat → List Nat → rx_H → Option (Nat × rx_H)} (hZ : zO b e D A X) (hg : ∀ i y M, vl1[i]? = some (y, M) → rx_Met (zV b e D A X) dn y M (g i)) (hd : 3 ≤ dn) (j : Nat → rx_K) (hj : ∀ k pc, [40][k]? = some pc → rx_OK (zV b e D A X) mX0_unit (dn + 1) pc (j k)) : rx_OK (zV b e D A X) mX0_unit (dn + 1) 0 (vX0_unit_0 g j) := by
  unfold vX0_unit_0
  refine s_aload_n hZ.1 dX0_unit_0 rfl ?_
  refine s_aload_n hZ.1 dX0_unit_1 rfl ?_
  refine yg8_5 dX0_unit_2 zw475 ?_
  refine s_callV hZ.1 (hg 3 _ _ rfl) (Nat.le_refl _) vy_X0_expr zcl0 zw2090 zw64 (Or.inl zw2088) dX0_unit_5 ?_
  exact s_if_ne dX0_unit_8 (by decide) (wX0_unit_13 hZ hg hd j hj) (wX0_unit_11 hZ hg hd j hj)
noncomputable def vhX0_unit (g : Nat → List Nat → rx_H → Option (Nat × rx_H)) (j : Nat → rx_K) : List rx_K := [vX0_unit_40 g j]
theorem vlX0_unit {dn : Nat} {g : Nat → List Nat → rx_H → Option (Nat × rx_H)} (hZ : zO b e D A X) (hg : ∀ i y M, vl1[i]? = some (y, M) → rx_Met (zV b e D A X) dn y M (g i)) (hd : 3 ≤ dn) : ∀ n k pc, [40][k]? = some pc → rx_OK (zV b e D A X) mX0_unit (dn + 1) pc (rx_J (vhX0_unit g) n k) := rx_loop fun j hj k pc h => by
  match k, h with
  | 0, h =>
    have e9 := Option.some.inj (show some 40 = some pc from h)
    subst e9
    exact wX0_unit_40 hZ hg hd j hj
  | _ + 1, h => exact absurd h (by simp)
noncomputable def FX0_unit (g : Nat → List Nat → rx_H → Option (Nat × rx_H)) : List Nat → rx_H → Option (Nat × rx_H) := rx_ent 5 (vX0_unit_0 g (rx_J (vhX0_unit g) 4000000000))
theorem Met_X0_unit {dn : Nat} {g : Nat → List Nat → rx_H → Option (Nat × rx_H)} (hZ : zO b e D A X) (hg : ∀ i y M, vl1[i]? = some (y, M) → rx_Met (zV b e D A X) dn y M (g i)) (hd : 3 ≤ dn) : rx_Met (zV b e D A X) (dn + 1) yX0_unit mX0_unit (FX0_unit g) := rx_entry hZ.1 (wX0_unit_0 hZ hg hd _ (vlX0_unit hZ hg hd 4000000000)) (by decide +kernel) rfl (fun h => by cases h)
noncomputable def q1 (n : Nat) : Nat → List Nat → rx_H → Option (Nat × rx_H) := Nat.rec (fun _ _ _ => none) (fun _ ih i => rx_nth [FX0_behind ih, FX0_chain ih, FX0_compare ih, FX0_expr ih, FX0_exprs ih, FX0_made ih, FX0_superCall ih, FX0_unit ih] i (fun _ _ => none)) n
theorem q1_ok (hZ : zO b e D A X) : ∀ n i y M, vl1[i]? = some (y, M) → rx_Met (zV b e D A X) (3 + n) y M (q1 n i)
  | 0 => fun i y M _ As h r h2 hf => by cases hf
  | n + 1 => fun i y M h => by
    match i, h with
    | 0, h => cases h; exact Met_X0_behind hZ (q1_ok hZ n) (Nat.le_add_right 3 n)
    | 1, h => cases h; exact Met_X0_chain hZ (q1_ok hZ n) (Nat.le_add_right 3 n)
    | 2, h => cases h; exact Met_X0_compare hZ (q1_ok hZ n) (Nat.le_add_right 3 n)
    | 3, h => cases h; exact Met_X0_expr hZ (q1_ok hZ n) (Nat.le_add_right 3 n)
    | 4, h => cases h; exact Met_X0_exprs hZ (q1_ok hZ n) (Nat.le_add_right 3 n)
    | 5, h => cases h; exact Met_X0_made hZ (q1_ok hZ n) (Nat.le_add_right 3 n)
    | 6, h => cases h; exact Met_X0_superCall hZ (q1_ok hZ n) (Nat.le_add_right 3 n)
    | 7, h => cases h; exact Met_X0_unit hZ (q1_ok hZ n) (Nat.le_add_right 3 n)
    | _ + 8, h => exact absurd h (by simp)
abbrev mX0_local : rx_M := (RX0, cX0_local, 6, (some .int), false)
theorem vy_X0_local : rx_Y (zV b e D A X) yX0_local mX0_local 3 := ⟨zw2177, zw421, by decide, by decide +kernel, by decide +kernel, by decide +kernel⟩
noncomputable def vX0_local_90 : rx_K := o_bi (fun x y => x + y) (o_ret1 rx_isI)
set_option maxRecDepth 20000 in
theorem wX0_local_90 (hZ : zO b e D A X) : rx_OK (zV b e D A X) mX0_local 1 90 vX0_local_90 := by
  unfold vX0_local_90
  refine s_iadd dX0_local_90 ?_
  exact s_iret hZ.1 rfl dX0_local_91
noncomputable def vX0_local_89 : rx_K := o_const 8 (vX0_local_90)
set_option maxRecDepth 20000 in
theorem wX0_local_89 (hZ : zO b e D A X) : rx_OK (zV b e D A X) mX0_local 1 89 vX0_local_89 := by
  unfold vX0_local_89
  refine s_iconst dX0_local_89 (by decide +kernel) ?_
  exact (wX0_local_90 hZ)
noncomputable def vX0_local_85 : rx_K := o_const 0 (vX0_local_90)
set_option maxRecDepth 20000 in
theorem wX0_local_85 (hZ : zO b e D A X) : rx_OK (zV b e D A X) mX0_local 1 85 vX0_local_85 := by
  unfold vX0_local_85
  refine s_iconst dX0_local_85 (by decide +kernel) ?_
  exact s_goto dX0_local_86 (by decide) (wX0_local_90 hZ)
noncomputable def vX0_local_57 : rx_K := o_ld rx_isR 0 (o_ld rx_isR 0 (o_getf 0 12 (o_ld rx_isR 0 (o_getf 0 11 (o_mm z_max (o_putf rx_isI 0 12 (o_ld rx_isR 0 (o_getf 0 11 (o_const 8 (o_bi (fun x y => x - y) (o_ld rx_isR 0 (o_getf 0 8 (o_c1 rx_eq vX0_local_89 vX0_local_85)))))))))))))
set_option maxRecDepth 20000 in
theorem wX0_local_57 (hZ : zO b e D A X) : rx_OK (zV b e D A X) mX0_local 1 57 vX0_local_57 := by
  unfold vX0_local_57
  refine s_aload_n hZ.1 dX0_local_57 rfl ?_
  refine s_aload_n hZ.1 dX0_local_58 rfl ?_
  refine yg0_12 dX0_local_59 zw675 ?_
  refine s_aload_n hZ.1 dX0_local_62 rfl ?_
  refine yg0_11 dX0_local_63 zw674 ?_
  refine s_mmax hZ.1 (Nat.le_of_ble_eq_true rfl) zw2178 zw2179 zw432 zmath_max dX0_local_66 ?_
  refine yp0_12 hZ.1 dX0_local_69 zw675 ?_
  refine s_aload_n hZ.1 dX0_local_72 rfl ?_
  refine yg0_11 dX0_local_73 zw674 ?_
  refine s_iconst dX0_local_76 (by decide +kernel) ?_
  refine s_isub dX0_local_77 ?_
  refine s_aload_n hZ.1 dX0_local_78 rfl ?_
  refine yg0_8 dX0_local_79 zw671 ?_
  exact s_if_eq dX0_local_82 (by decide) (wX0_local_89 hZ) (wX0_local_85 hZ)
noncomputable def vX0_local_27 : rx_K := o_ld rx_isR 0 (o_getf 0 9 (o_ld rx_isR 0 (o_getf 0 11 (o_ld rx_isL 3 (o_ast 1 (fun v => v) rx_isL (o_ld rx_isR 0 (o_getf 0 10 (o_ld rx_isR 0 (o_getf 0 11 (o_ld rx_isL 1 (o_ast 1 (fun v => v) rx_isL (o_ld rx_isR 0 (o_dup (o_getf 0 11 (o_const 8 (o_bi (fun x y => x + y) (o_putf rx_isI 0 11 (vX0_local_57))))))))))))))))))
set_option maxRecDepth 20000 in
theorem wX0_local_27 (hZ : zO b e D A X) : rx_OK (zV b e D A X) mX0_local 1 27 vX0_local_27 := by
  unfold vX0_local_27
  refine s_aload_n hZ.1 dX0_local_27 rfl ?_
  refine yg0_9 dX0_local_28 zw672 ?_
  refine s_aload_n hZ.1 dX0_local_31 rfl ?_
  refine yg0_11 dX0_local_32 zw674 ?_
  refine s_lload_n hZ.1 dX0_local_35 rfl ?_
  refine s_last (tt := 1) rfl dX0_local_36 ?_
  refine s_aload_n hZ.1 dX0_local_37 rfl ?_
  refine yg0_10 dX0_local_38 zw673 ?_
  refine s_aload_n hZ.1 dX0_local_41 rfl ?_
  refine yg0_11 dX0_local_42 zw674 ?_
  refine s_lload_n hZ.1 dX0_local_45 rfl ?_
  refine s_last (tt := 1) rfl dX0_local_46 ?_
  refine s_aload_n hZ.1 dX0_local_47 rfl ?_
  refine s_dup hZ.1 dX0_local_48 ?_
  refine yg0_11 dX0_local_49 zw674 ?_
  refine s_iconst dX0_local_52 (by decide +kernel) ?_
  refine s_iadd dX0_local_53 ?_
  refine yp0_11 hZ.1 dX0_local_54 zw674 ?_
  exact (wX0_local_57 hZ)
noncomputable def vX0_local_17 : rx_K := o_ld rx_isR 0 (o_getf 0 11 (o_const 5600 (o_c2 rx_lt vX0_local_27 vX0_local_57)))
set_option maxRecDepth 20000 in
theorem wX0_local_17 (hZ : zO b e D A X) : rx_OK (zV b e D A X) mX0_local 1 17 vX0_local_17 := by
  unfold vX0_local_17
  refine s_aload_n hZ.1 dX0_local_17 rfl ?_
  refine yg0_11 dX0_local_18 zw674 ?_
  refine s_sipush dX0_local_21 (by decide +kernel) ?_
  exact s_icmp_ge dX0_local_24 (by decide) (wX0_local_57 hZ) (wX0_local_27 hZ)
noncomputable def vX0_local_8 : rx_K := o_ld rx_isR 0 (o_const 128 (o_ld rx_isI 5 (o_callV 2 0 FX0_fail (o_pop (vX0_local_17)))))
set_option maxRecDepth 20000 in
theorem wX0_local_8 (hZ : zO b e D A X) : rx_OK (zV b e D A X) mX0_local 1 8 vX0_local_8 := by
  unfold vX0_local_8
  refine s_aload_n hZ.1 dX0_local_8 rfl ?_
  refine s_bipush dX0_local_9 (by decide +kernel) ?_
  refine s_iload hZ.1 dX0_local_11 ?_
  refine s_callV hZ.1 (Met_X0_fail hZ) (Nat.le_of_ble_eq_true rfl) vy_X0_fail zcl0 zw2095 zw65 (Or.inl zw2093) dX0_local_13 ?_
  refine s_pop hZ.1 dX0_local_16 ?_
  exact (wX0_local_17 hZ)
noncomputable def vX0_local_0 : rx_K := o_ld rx_isR 0 (o_ld rx_isL 3 (o_callV 1 0 FX0_localOf (o_c1 rx_lt vX0_local_17 vX0_local_8)))
set_option maxRecDepth 20000 in
theorem wX0_local_0 (hZ : zO b e D A X) : rx_OK (zV b e D A X) mX0_local 1 0 vX0_local_0 := by
  unfold vX0_local_0
  refine s_aload_n hZ.1 dX0_local_0 rfl ?_
  refine s_lload_n hZ.1 dX0_local_1 rfl ?_
  refine s_callV hZ.1 (Met_X0_localOf hZ) (Nat.le_of_ble_eq_true rfl) vy_X0_localOf zcl0 zw2103 zw67 (Or.inl zw2101) dX0_local_2 ?_
  exact s_if_lt dX0_local_5 (by decide) (wX0_local_17 hZ) (wX0_local_8 hZ)
noncomputable def FX0_local : List Nat → rx_H → Option (Nat × rx_H) := rx_ent 6 vX0_local_0
theorem Met_X0_local (hZ : zO b e D A X) : rx_Met (zV b e D A X) 1 yX0_local mX0_local (FX0_local) := rx_entry hZ.1 (wX0_local_0 hZ) (by decide +kernel) rfl (fun h => by cases h)
abbrev mX0_isCall : rx_M := (RX0, cX0_isCall, 3, (some .boolean), false)
theorem vy_X0_isCall : rx_Y (zV b e D A X) yX0_isCall mX0_isCall 1 := ⟨zw2215, zw421, by decide, by decide +kernel, by decide +kernel, by decide +kernel⟩
noncomputable def vX0_isCall_101 (j : Nat → rx_K) : rx_K := o_ret1 rx_isZ
set_option maxRecDepth 20000 in
theorem wX0_isCall_101 (hZ : zO b e D A X) (j : Nat → rx_K) (hj : ∀ k pc, [19][k]? = some pc → rx_OK (zV b e D A X) mX0_isCall 0 pc (j k)) : rx_OK (zV b e D A X) mX0_isCall 0 101 (vX0_isCall_101 j) := by
  unfold vX0_isCall_101
  exact s_zret rx_z_ok rfl dX0_isCall_101
noncomputable def vX0_isCall_100 (j : Nat → rx_K) : rx_K := o_const 0 ((vX0_isCall_101 j))
set_option maxRecDepth 20000 in
theorem wX0_isCall_100 (hZ : zO b e D A X) (j : Nat → rx_K) (hj : ∀ k pc, [19][k]? = some pc → rx_OK (zV b e D A X) mX0_isCall 0 pc (j k)) : rx_OK (zV b e D A X) mX0_isCall 0 100 (vX0_isCall_100 j) := by
  unfold vX0_isCall_100
  refine s_iconst dX0_isCall_100 (by decide +kernel) ?_
  exact (wX0_isCall_101 hZ j hj)
noncomputable def vX0_isCall_96 (j : Nat → rx_K) : rx_K := o_const 8 ((vX0_isCall_101 j))
set_option maxRecDepth 20000 in
theorem wX0_isCall_96 (hZ : zO b e D A X) (j : Nat → rx_K) (hj : ∀ k pc, [19][k]? = some pc → rx_OK (zV b e D A X) mX0_isCall 0 pc (j k)) : rx_OK (zV b e D A X) mX0_isCall 0 96 (vX0_isCall_96 j) := by
  unfold vX0_isCall_96
  refine s_iconst dX0_isCall_96 (by decide +kernel) ?_
  exact s_goto dX0_isCall_97 (by decide) (wX0_isCall_101 hZ j hj)
noncomputable def vX0_isCall_87 (j : Nat → rx_K) : rx_K := o_ld rx_isR 0 (o_getf 8 0 (o_const 80 (o_c2 rx_eq (vX0_isCall_96 j) (vX0_isCall_100 j))))
set_option maxRecDepth 20000 in
theorem wX0_isCall_87 (hZ : zO b e D A X) (j : Nat → rx_K) (hj : ∀ k pc, [19][k]? = some pc → rx_OK (zV b e D A X) mX0_isCall 0 pc (j k)) : rx_OK (zV b e D A X) mX0_isCall 0 87 (vX0_isCall_87 j) := by
  unfold vX0_isCall_87
  refine s_aload_n hZ.1 dX0_isCall_87 rfl ?_
  refine yg8_0 dX0_isCall_88 zw458 ?_
  refine s_bipush dX0_isCall_91 (by decide +kernel) ?_
  exact s_icmp_ne dX0_isCall_93 (by decide) (wX0_isCall_100 hZ j hj) (wX0_isCall_96 hZ j hj)
noncomputable def vX0_isCall_78 (j : Nat → rx_K) : rx_K := o_ld rx_isR 0 (o_getf 8 0 (o_const 72 (o_c2 rx_eq (vX0_isCall_96 j) (vX0_isCall_87 j))))
set_option maxRecDepth 20000 in
theorem wX0_isCall_78 (hZ : zO b e D A X) (j : Nat → rx_K) (hj : ∀ k pc, [19][k]? = some pc → rx_OK (zV b e D A X) mX0_isCall 0 pc (j k)) : rx_OK (zV b e D A X) mX0_isCall 0 78 (vX0_isCall_78 j) := by
  unfold vX0_isCall_78
  refine s_aload_n hZ.1 dX0_isCall_78 rfl ?_
  refine yg8_0 dX0_isCall_79 zw458 ?_
  refine s_bipush dX0_isCall_82 (by decide +kernel) ?_
  exact s_icmp_eq dX0_isCall_84 (by decide) (wX0_isCall_96 hZ j hj) (wX0_isCall_87 hZ j hj)
noncomputable def vX0_isCall_69 (j : Nat → rx_K) : rx_K := o_ld rx_isR 0 (o_getf 8 0 (o_const 64 (o_c2 rx_eq (vX0_isCall_96 j) (vX0_isCall_78 j))))
set_option maxRecDepth 20000 in
theorem wX0_isCall_69 (hZ : zO b e D A X) (j : Nat → rx_K) (hj : ∀ k pc, [19][k]? = some pc → rx_OK (zV b e D A X) mX0_isCall 0 pc (j k)) : rx_OK (zV b e D A X) mX0_isCall 0 69 (vX0_isCall_69 j) := by
  unfold vX0_isCall_69
  refine s_aload_n hZ.1 dX0_isCall_69 rfl ?_
  refine yg8_0 dX0_isCall_70 zw458 ?_
  refine s_bipush dX0_isCall_73 (by decide +kernel) ?_
  exact s_icmp_eq dX0_isCall_75 (by decide) (wX0_isCall_96 hZ j hj) (wX0_isCall_78 hZ j hj)
noncomputable def vX0_isCall_60 (j : Nat → rx_K) : rx_K := o_ld rx_isR 0 (o_getf 8 0 (o_const 56 (o_c2 rx_eq (vX0_isCall_96 j) (vX0_isCall_69 j))))
set_option maxRecDepth 20000 in
theorem wX0_isCall_60 (hZ : zO b e D A X) (j : Nat → rx_K) (hj : ∀ k pc, [19][k]? = some pc → rx_OK (zV b e D A X) mX0_isCall 0 pc (j k)) : rx_OK (zV b e D A X) mX0_isCall 0 60 (vX0_isCall_60 j) := by
  unfold vX0_isCall_60
  refine s_aload_n hZ.1 dX0_isCall_60 rfl ?_
  refine yg8_0 dX0_isCall_61 zw458 ?_
  refine s_bipush dX0_isCall_64 (by decide +kernel) ?_
  exact s_icmp_eq dX0_isCall_66 (by decide) (wX0_isCall_96 hZ j hj) (wX0_isCall_69 hZ j hj)
noncomputable def vX0_isCall_52 (j : Nat → rx_K) : rx_K := o_ld rx_isR 0 (o_getf 8 0 (o_const 40 (o_c2 rx_eq (vX0_isCall_96 j) (vX0_isCall_60 j))))
set_option maxRecDepth 20000 in
theorem wX0_isCall_52 (hZ : zO b e D A X) (j : Nat → rx_K) (hj : ∀ k pc, [19][k]? = some pc → rx_OK (zV b e D A X) mX0_isCall 0 pc (j k)) : rx_OK (zV b e D A X) mX0_isCall 0 52 (vX0_isCall_52 j) := by
  unfold vX0_isCall_52
  refine s_aload_n hZ.1 dX0_isCall_52 rfl ?_
  refine yg8_0 dX0_isCall_53 zw458 ?_
  refine s_iconst dX0_isCall_56 (by decide +kernel) ?_
  exact s_icmp_eq dX0_isCall_57 (by decide) (wX0_isCall_96 hZ j hj) (wX0_isCall_60 hZ j hj)
noncomputable def vX0_isCall_51 (j : Nat → rx_K) : rx_K := o_ret1 rx_isZ
set_option maxRecDepth 20000 in
theorem wX0_isCall_51 (hZ : zO b e D A X) (j : Nat → rx_K) (hj : ∀ k pc, [19][k]? = some pc → rx_OK (zV b e D A X) mX0_isCall 0 pc (j k)) : rx_OK (zV b e D A X) mX0_isCall 0 51 (vX0_isCall_51 j) := by
  unfold vX0_isCall_51
  exact s_zret rx_z_ok rfl dX0_isCall_51
noncomputable def vX0_isCall_50 (j : Nat → rx_K) : rx_K := o_const 0 ((vX0_isCall_51 j))
set_option maxRecDepth 20000 in
theorem wX0_isCall_50 (hZ : zO b e D A X) (j : Nat → rx_K) (hj : ∀ k pc, [19][k]? = some pc → rx_OK (zV b e D A X) mX0_isCall 0 pc (j k)) : rx_OK (zV b e D A X) mX0_isCall 0 50 (vX0_isCall_50 j) := by
  unfold vX0_isCall_50
  refine s_iconst dX0_isCall_50 (by decide +kernel) ?_
  exact (wX0_isCall_51 hZ j hj)
noncomputable def vX0_isCall_46 (j : Nat → rx_K) : rx_K := o_const 8 ((vX0_isCall_51 j))
set_option maxRecDepth 20000 in
theorem wX0_isCall_46 (hZ : zO b e D A X) (j : Nat → rx_K) (hj : ∀ k pc, [19][k]? = some pc → rx_OK (zV b e D A X) mX0_isCall 0 pc (j k)) : rx_OK (zV b e D A X) mX0_isCall 0 46 (vX0_isCall_46 j) := by
  unfold vX0_isCall_46
  refine s_iconst dX0_isCall_46 (by decide +kernel) ?_
  exact s_goto dX0_isCall_47 (by decide) (wX0_isCall_51 hZ j hj)
noncomputable def vX0_isCall_37 (j : Nat → rx_K) : rx_K := o_ld rx_isR 1 (o_getf 8 0 (o_const 120 (o_c2 rx_eq (vX0_isCall_46 j) (vX0_isCall_50 j))))
set_option maxRecDepth 20000 in
theorem wX0_isCall_37 (hZ : zO b e D A X) (j : Nat → rx_K) (hj : ∀ k pc, [19][k]? = some pc → rx_OK (zV b e D A X) mX0_isCall 0 pc (j k)) : rx_OK (zV b e D A X) mX0_isCall 0 37 (vX0_isCall_37 j) := by
  unfold vX0_isCall_37
  refine s_aload_n hZ.1 dX0_isCall_37 rfl ?_
  refine yg8_0 dX0_isCall_38 zw458 ?_
  refine s_bipush dX0_isCall_41 (by decide +kernel) ?_
  exact s_icmp_ne dX0_isCall_43 (by decide) (wX0_isCall_50 hZ j hj) (wX0_isCall_46 hZ j hj)
noncomputable def vX0_isCall_33 (j : Nat → rx_K) : rx_K := o_ld rx_isR 1 (o_nul (vX0_isCall_50 j) (vX0_isCall_37 j))
set_option maxRecDepth 20000 in
theorem wX0_isCall_33 (hZ : zO b e D A X) (j : Nat → rx_K) (hj : ∀ k pc, [19][k]? = some pc → rx_OK (zV b e D A X) mX0_isCall 0 pc (j k)) : rx_OK (zV b e D A X) mX0_isCall 0 33 (vX0_isCall_33 j) := by
  unfold vX0_isCall_33
  refine s_aload_n hZ.1 dX0_isCall_33 rfl ?_
  exact s_ifnull dX0_isCall_34 (by decide) (wX0_isCall_50 hZ j hj) (wX0_isCall_37 hZ j hj)
noncomputable def vX0_isCall_23 (j : Nat → rx_K) : rx_K := o_ld rx_isR 2 (o_st rx_isR 1 (o_ld rx_isR 2 (o_getf 8 8 (o_st rx_isR 2 ((j 0))))))
set_option maxRecDepth 20000 in
theorem wX0_isCall_23 (hZ : zO b e D A X) (j : Nat → rx_K) (hj : ∀ k pc, [19][k]? = some pc → rx_OK (zV b e D A X) mX0_isCall 0 pc (j k)) : rx_OK (zV b e D A X) mX0_isCall 0 23 (vX0_isCall_23 j) := by
  unfold vX0_isCall_23
  refine s_aload_n hZ.1 dX0_isCall_23 rfl ?_
  refine s_astore_n hZ.1 dX0_isCall_24 rfl (Nat.le_of_ble_eq_true rfl) ?_
  refine s_aload_n hZ.1 dX0_isCall_25 rfl ?_
  refine yg8_8 dX0_isCall_26 zw487 ?_
  refine s_astore_n hZ.1 dX0_isCall_29 rfl (Nat.le_of_ble_eq_true rfl) ?_
  exact s_goto dX0_isCall_30 (by decide) (hj 0 19 rfl)
noncomputable def vX0_isCall_19 (j : Nat → rx_K) : rx_K := o_ld rx_isR 2 (o_nul (vX0_isCall_33 j) (vX0_isCall_23 j))
set_option maxRecDepth 20000 in
theorem wX0_isCall_19 (hZ : zO b e D A X) (j : Nat → rx_K) (hj : ∀ k pc, [19][k]? = some pc → rx_OK (zV b e D A X) mX0_isCall 0 pc (j k)) : rx_OK (zV b e D A X) mX0_isCall 0 19 (vX0_isCall_19 j) := by
  unfold vX0_isCall_19
  refine s_aload_n hZ.1 dX0_isCall_19 rfl ?_
  exact s_ifnull dX0_isCall_20 (by decide) (wX0_isCall_33 hZ j hj) (wX0_isCall_23 hZ j hj)
noncomputable def vX0_isCall_9 (j : Nat → rx_K) : rx_K := o_ld rx_isR 0 (o_getf 8 6 (o_st rx_isR 1 (o_ld rx_isR 0 (o_getf 8 6 (o_st rx_isR 2 ((vX0_isCall_19 j)))))))
set_option maxRecDepth 20000 in
theorem wX0_isCall_9 (hZ : zO b e D A X) (j : Nat → rx_K) (hj : ∀ k pc, [19][k]? = some pc → rx_OK (zV b e D A X) mX0_isCall 0 pc (j k)) : rx_OK (zV b e D A X) mX0_isCall 0 9 (vX0_isCall_9 j) := by
  unfold vX0_isCall_9
  refine s_aload_n hZ.1 dX0_isCall_9 rfl ?_
  refine yg8_6 dX0_isCall_10 zw479 ?_
  refine s_astore_n hZ.1 dX0_isCall_13 rfl (Nat.le_of_ble_eq_true rfl) ?_
  refine s_aload_n hZ.1 dX0_isCall_14 rfl ?_
  refine yg8_6 dX0_isCall_15 zw479 ?_
  refine s_astore_n hZ.1 dX0_isCall_18 rfl (Nat.le_of_ble_eq_true rfl) ?_
  exact (wX0_isCall_19 hZ j hj)
noncomputable def vX0_isCall_0 (j : Nat → rx_K) : rx_K := o_ld rx_isR 0 (o_getf 8 0 (o_const 104 (o_c2 rx_eq (vX0_isCall_9 j) (vX0_isCall_52 j))))
set_option maxRecDepth 20000 in
theorem wX0_isCall_0 (hZ : zO b e D A X) (j : Nat → rx_K) (hj : ∀ k pc, [19][k]? = some pc → rx_OK (zV b e D A X) mX0_isCall 0 pc (j k)) : rx_OK (zV b e D A X) mX0_isCall 0 0 (vX0_isCall_0 j) := by
  unfold vX0_isCall_0
  refine s_aload_n hZ.1 dX0_isCall_0 rfl ?_
  refine yg8_0 dX0_isCall_1 zw458 ?_
  refine s_bipush dX0_isCall_4 (by decide +kernel) ?_
  exact s_icmp_ne dX0_isCall_6 (by decide) (wX0_isCall_52 hZ j hj) (wX0_isCall_9 hZ j hj)
noncomputable def vhX0_isCall (j : Nat → rx_K) : List rx_K := [vX0_isCall_19 j]
theorem vlX0_isCall (hZ : zO b e D A X) : ∀ n k pc, [19][k]? = some pc → rx_OK (zV b e D A X) mX0_isCall 0 pc (rx_J (vhX0_isCall) n k) := rx_loop fun j hj k pc h => by
  match k, h with
  | 0, h =>
    have e9 := Option.some.inj (show some 19 = some pc from h)
    subst e9
    exact wX0_isCall_19 hZ j hj
  | _ + 1, h => exact absurd h (by simp)
noncomputable def FX0_isCall : List Nat → rx_H → Option (Nat × rx_H) := rx_ent 3 (vX0_isCall_0 (rx_J (vhX0_isCall) 4000000000))
theorem Met_X0_isCall (hZ : zO b e D A X) : rx_Met (zV b e D A X) 0 yX0_isCall mX0_isCall (FX0_isCall) := rx_entry hZ.1 (wX0_isCall_0 hZ _ (vlX0_isCall hZ 4000000000)) (by decide +kernel) rfl (fun h => by cases h)
abbrev mX0_let : rx_M := (RX0, cX0_let, 2, (some .boolean), false)
theorem vy_X0_let : rx_Y (zV b e D A X) yX0_let mX0_let 1 := ⟨zw2191, zw421, by decide, by decide +kernel, by decide +kernel, by decide +kernel⟩
noncomputable def vX0_let_68 : rx_K := o_ret1 rx_isZ
set_option maxRecDepth 20000 in
theorem wX0_let_68 (hZ : zO b e D A X) : rx_OK (zV b e D A X) mX0_let 2 68 vX0_let_68 := by
  unfold vX0_let_68
  exact s_zret rx_z_ok rfl dX0_let_68
noncomputable def vX0_let_67 : rx_K := o_const 0 (vX0_let_68)
set_option maxRecDepth 20000 in
theorem wX0_let_67 (hZ : zO b e D A X) : rx_OK (zV b e D A X) mX0_let 2 67 vX0_let_67 := by
  unfold vX0_let_67
  refine s_iconst dX0_let_67 (by decide +kernel) ?_
  exact (wX0_let_68 hZ)
noncomputable def vX0_let_63 : rx_K := o_const 8 (vX0_let_68)
set_option maxRecDepth 20000 in
theorem wX0_let_63 (hZ : zO b e D A X) : rx_OK (zV b e D A X) mX0_let 2 63 vX0_let_63 := by
  unfold vX0_let_63
  refine s_iconst dX0_let_63 (by decide +kernel) ?_
  exact s_goto dX0_let_64 (by decide) (wX0_let_68 hZ)
noncomputable def vX0_let_24 : rx_K := o_ld rx_isR 1 (o_ld rx_isR 0 (o_ld rx_isR 1 (o_getf 8 9 (o_ld rx_isR 0 (o_getf 0 2 (o_getf 9 4 (o_ld rx_isR 1 (o_getf 8 1 (o_const 16 (o_bi (fun x y => x + y) (o_ald 1 (o_ld rx_isR 1 (o_getf 8 1 (o_const 16 (o_bi (fun x y => x + y) (o_callV 3 0 FX0_local (o_putf rx_isI 8 4 (o_ld rx_isR 0 (o_getf 0 3 (o_c1 rx_eq vX0_let_63 vX0_let_67))))))))))))))))))))
set_option maxRecDepth 20000 in
theorem wX0_let_24 (hZ : zO b e D A X) : rx_OK (zV b e D A X) mX0_let 2 24 vX0_let_24 := by
  unfold vX0_let_24
  refine s_aload_n hZ.1 dX0_let_24 rfl ?_
  refine s_aload_n hZ.1 dX0_let_25 rfl ?_
  refine s_aload_n hZ.1 dX0_let_26 rfl ?_
  refine yg8_9 dX0_let_27 zw492 ?_
  refine s_aload_n hZ.1 dX0_let_30 rfl ?_
  refine yg0_2 dX0_let_31 zw663 ?_
  refine yg9_4 dX0_let_34 zw587 ?_
  refine s_aload_n hZ.1 dX0_let_37 rfl ?_
  refine yg8_1 dX0_let_38 zw462 ?_
  refine s_iconst dX0_let_41 (by decide +kernel) ?_
  refine s_iadd dX0_let_42 ?_
  refine s_lald (tt := 1) rfl dX0_let_43 ?_
  refine s_aload_n hZ.1 dX0_let_44 rfl ?_
  refine yg8_1 dX0_let_45 zw462 ?_
  refine s_iconst dX0_let_48 (by decide +kernel) ?_
  refine s_iadd dX0_let_49 ?_
  refine s_callV hZ.1 (Met_X0_local hZ) (Nat.le_of_ble_eq_true rfl) vy_X0_local zcl0 zw2176 zw84 (Or.inl zw2174) dX0_let_50 ?_
  refine yp8_4 hZ.1 dX0_let_53 zw473 ?_
  refine s_aload_n hZ.1 dX0_let_56 rfl ?_
  refine yg0_3 dX0_let_57 zw664 ?_
  exact s_if_ne dX0_let_60 (by decide) (wX0_let_67 hZ) (wX0_let_63 hZ)
noncomputable def vX0_let_22 : rx_K := o_const 0 (o_ret1 rx_isZ)
set_option maxRecDepth 20000 in
theorem wX0_let_22 (hZ : zO b e D A X) : rx_OK (zV b e D A X) mX0_let 2 22 vX0_let_22 := by
  unfold vX0_let_22
  refine s_iconst dX0_let_22 (by decide +kernel) ?_
  exact s_zret rx_z_ok rfl dX0_let_23
noncomputable def vX0_let_7 : rx_K := o_ld rx_isR 0 (o_ld rx_isR 1 (o_getf 8 5 (o_ld rx_isR 1 (o_getf 8 9 (o_callV 2 0 FX0_wanted (o_c1 rx_eq vX0_let_22 vX0_let_24))))))
set_option maxRecDepth 20000 in
theorem wX0_let_7 (hZ : zO b e D A X) : rx_OK (zV b e D A X) mX0_let 2 7 vX0_let_7 := by
  unfold vX0_let_7
  refine s_aload_n hZ.1 dX0_let_7 rfl ?_
  refine s_aload_n hZ.1 dX0_let_8 rfl ?_
  refine yg8_5 dX0_let_9 zw475 ?_
  refine s_aload_n hZ.1 dX0_let_12 rfl ?_
  refine yg8_9 dX0_let_13 zw492 ?_
  refine s_callV hZ.1 (Met_X0_wanted hZ) (Nat.le_of_ble_eq_true rfl) vy_X0_wanted zcl0 zw2168 zw82 (Or.inl zw2166) dX0_let_16 ?_
  exact s_if_ne dX0_let_19 (by decide) (wX0_let_24 hZ) (wX0_let_22 hZ)
noncomputable def vX0_let_0 : rx_K := o_ld rx_isR 1 (o_getf 8 5 (o_nul vX0_let_22 vX0_let_7))
set_option maxRecDepth 20000 in
theorem wX0_let_0 (hZ : zO b e D A X) : rx_OK (zV b e D A X) mX0_let 2 0 vX0_let_0 := by
  unfold vX0_let_0
  refine s_aload_n hZ.1 dX0_let_0 rfl ?_
  refine yg8_5 dX0_let_1 zw475 ?_
  exact s_ifnull dX0_let_4 (by decide) (wX0_let_22 hZ) (wX0_let_7 hZ)
noncomputable def FX0_let : List Nat → rx_H → Option (Nat × rx_H) := rx_ent 2 vX0_let_0
theorem Met_X0_let (hZ : zO b e D A X) : rx_Met (zV b e D A X) 2 yX0_let mX0_let (FX0_let) := rx_entry hZ.1 (wX0_let_0 hZ) (by decide +kernel) rfl (fun h => by cases h)
abbrev mX0_target : rx_M := (RX0, cX0_target, 3, (some (.object "LinkHouse$Node")), false)
theorem vy_X0_target : rx_Y (zV b e D A X) yX0_target mX0_target 1 := ⟨zw2211, zw421, by decide, by decide +kernel, by decide +kernel, by decide +kernel⟩
noncomputable def vX0_target_71 (j : Nat → rx_K) : rx_K := o_ret1 rx_isR
set_option maxRecDepth 20000 in
theorem wX0_target_71 (hZ : zO b e D A X) (j : Nat → rx_K) (hj : ∀ k pc, [39][k]? = some pc → rx_OK (zV b e D A X) mX0_target 0 pc (j k)) : rx_OK (zV b e D A X) mX0_target 0 71 (vX0_target_71 j) := by
  unfold vX0_target_71
  exact s_aret hZ.1 rfl (Or.inl ⟨_, rfl⟩) dX0_target_71
noncomputable def vX0_target_70 (j : Nat → rx_K) : rx_K := o_const 3 ((vX0_target_71 j))
set_option maxRecDepth 20000 in
theorem wX0_target_70 (hZ : zO b e D A X) (j : Nat → rx_K) (hj : ∀ k pc, [39][k]? = some pc → rx_OK (zV b e D A X) mX0_target 0 pc (j k)) : rx_OK (zV b e D A X) mX0_target 0 70 (vX0_target_70 j) := by
  unfold vX0_target_70
  refine s_null dX0_target_70 ?_
  exact (wX0_target_71 hZ j hj)
noncomputable def vX0_target_66 (j : Nat → rx_K) : rx_K := o_ld rx_isR 1 ((vX0_target_71 j))
set_option maxRecDepth 20000 in
theorem wX0_target_66 (hZ : zO b e D A X) (j : Nat → rx_K) (hj : ∀ k pc, [39][k]? = some pc → rx_OK (zV b e D A X) mX0_target 0 pc (j k)) : rx_OK (zV b e D A X) mX0_target 0 66 (vX0_target_66 j) := by
  unfold vX0_target_66
  refine s_aload_n hZ.1 dX0_target_66 rfl ?_
  exact s_goto dX0_target_67 (by decide) (wX0_target_71 hZ j hj)
noncomputable def vX0_target_57 (j : Nat → rx_K) : rx_K := o_ld rx_isR 1 (o_getf 8 0 (o_const 112 (o_c2 rx_eq (vX0_target_66 j) (vX0_target_70 j))))
set_option maxRecDepth 20000 in
theorem wX0_target_57 (hZ : zO b e D A X) (j : Nat → rx_K) (hj : ∀ k pc, [39][k]? = some pc → rx_OK (zV b e D A X) mX0_target 0 pc (j k)) : rx_OK (zV b e D A X) mX0_target 0 57 (vX0_target_57 j) := by
  unfold vX0_target_57
  refine s_aload_n hZ.1 dX0_target_57 rfl ?_
  refine yg8_0 dX0_target_58 zw458 ?_
  refine s_bipush dX0_target_61 (by decide +kernel) ?_
  exact s_icmp_ne dX0_target_63 (by decide) (wX0_target_70 hZ j hj) (wX0_target_66 hZ j hj)
noncomputable def vX0_target_53 (j : Nat → rx_K) : rx_K := o_ld rx_isR 1 (o_nul (vX0_target_70 j) (vX0_target_57 j))
set_option maxRecDepth 20000 in
theorem wX0_target_53 (hZ : zO b e D A X) (j : Nat → rx_K) (hj : ∀ k pc, [39][k]? = some pc → rx_OK (zV b e D A X) mX0_target 0 pc (j k)) : rx_OK (zV b e D A X) mX0_target 0 53 (vX0_target_53 j) := by
  unfold vX0_target_53
  refine s_aload_n hZ.1 dX0_target_53 rfl ?_
  exact s_ifnull dX0_target_54 (by decide) (wX0_target_70 hZ j hj) (wX0_target_57 hZ j hj)
noncomputable def vX0_target_43 (j : Nat → rx_K) : rx_K := o_ld rx_isR 2 (o_st rx_isR 1 (o_ld rx_isR 2 (o_getf 8 8 (o_st rx_isR 2 ((j 0))))))
set_option maxRecDepth 20000 in
theorem wX0_target_43 (hZ : zO b e D A X) (j : Nat → rx_K) (hj : ∀ k pc, [39][k]? = some pc → rx_OK (zV b e D A X) mX0_target 0 pc (j k)) : rx_OK (zV b e D A X) mX0_target 0 43 (vX0_target_43 j) := by
  unfold vX0_target_43
  refine s_aload_n hZ.1 dX0_target_43 rfl ?_
  refine s_astore_n hZ.1 dX0_target_44 rfl (Nat.le_of_ble_eq_true rfl) ?_
  refine s_aload_n hZ.1 dX0_target_45 rfl ?_
  refine yg8_8 dX0_target_46 zw487 ?_
  refine s_astore_n hZ.1 dX0_target_49 rfl (Nat.le_of_ble_eq_true rfl) ?_
  exact s_goto dX0_target_50 (by decide) (hj 0 39 rfl)
noncomputable def vX0_target_39 (j : Nat → rx_K) : rx_K := o_ld rx_isR 2 (o_nul (vX0_target_53 j) (vX0_target_43 j))
set_option maxRecDepth 20000 in
theorem wX0_target_39 (hZ : zO b e D A X) (j : Nat → rx_K) (hj : ∀ k pc, [39][k]? = some pc → rx_OK (zV b e D A X) mX0_target 0 pc (j k)) : rx_OK (zV b e D A X) mX0_target 0 39 (vX0_target_39 j) := by
  unfold vX0_target_39
  refine s_aload_n hZ.1 dX0_target_39 rfl ?_
  exact s_ifnull dX0_target_40 (by decide) (wX0_target_53 hZ j hj) (wX0_target_43 hZ j hj)
noncomputable def vX0_target_36 (j : Nat → rx_K) : rx_K := o_st rx_isR 1 (o_ld rx_isR 1 (o_st rx_isR 2 ((vX0_target_39 j))))
set_option maxRecDepth 20000 in
theorem wX0_target_36 (hZ : zO b e D A X) (j : Nat → rx_K) (hj : ∀ k pc, [39][k]? = some pc → rx_OK (zV b e D A X) mX0_target 0 pc (j k)) : rx_OK (zV b e D A X) mX0_target 0 36 (vX0_target_36 j) := by
  unfold vX0_target_36
  refine s_astore_n hZ.1 dX0_target_36 rfl (Nat.le_of_ble_eq_true rfl) ?_
  refine s_aload_n hZ.1 dX0_target_37 rfl ?_
  refine s_astore_n hZ.1 dX0_target_38 rfl (Nat.le_of_ble_eq_true rfl) ?_
  exact (wX0_target_39 hZ j hj)
noncomputable def vX0_target_35 (j : Nat → rx_K) : rx_K := o_const 3 ((vX0_target_36 j))
set_option maxRecDepth 20000 in
theorem wX0_target_35 (hZ : zO b e D A X) (j : Nat → rx_K) (hj : ∀ k pc, [39][k]? = some pc → rx_OK (zV b e D A X) mX0_target 0 pc (j k)) : rx_OK (zV b e D A X) mX0_target 0 35 (vX0_target_35 j) := by
  unfold vX0_target_35
  refine s_null dX0_target_35 ?_
  exact (wX0_target_36 hZ j hj)
noncomputable def vX0_target_28 (j : Nat → rx_K) : rx_K := o_ld rx_isR 0 (o_getf 8 6 ((vX0_target_36 j)))
set_option maxRecDepth 20000 in
theorem wX0_target_28 (hZ : zO b e D A X) (j : Nat → rx_K) (hj : ∀ k pc, [39][k]? = some pc → rx_OK (zV b e D A X) mX0_target 0 pc (j k)) : rx_OK (zV b e D A X) mX0_target 0 28 (vX0_target_28 j) := by
  unfold vX0_target_28
  refine s_aload_n hZ.1 dX0_target_28 rfl ?_
  refine yg8_6 dX0_target_29 zw479 ?_
  exact s_goto dX0_target_32 (by decide) (wX0_target_36 hZ j hj)
noncomputable def vX0_target_19 (j : Nat → rx_K) : rx_K := o_ld rx_isR 0 (o_getf 8 0 (o_const 104 (o_c2 rx_eq (vX0_target_28 j) (vX0_target_35 j))))
set_option maxRecDepth 20000 in
theorem wX0_target_19 (hZ : zO b e D A X) (j : Nat → rx_K) (hj : ∀ k pc, [39][k]? = some pc → rx_OK (zV b e D A X) mX0_target 0 pc (j k)) : rx_OK (zV b e D A X) mX0_target 0 19 (vX0_target_19 j) := by
  unfold vX0_target_19
  refine s_aload_n hZ.1 dX0_target_19 rfl ?_
  refine yg8_0 dX0_target_20 zw458 ?_
  refine s_bipush dX0_target_23 (by decide +kernel) ?_
  exact s_icmp_ne dX0_target_25 (by decide) (wX0_target_35 hZ j hj) (wX0_target_28 hZ j hj)
noncomputable def vX0_target_17 (j : Nat → rx_K) : rx_K := o_ld rx_isR 0 (o_ret1 rx_isR)
set_option maxRecDepth 20000 in
theorem wX0_target_17 (hZ : zO b e D A X) (j : Nat → rx_K) (hj : ∀ k pc, [39][k]? = some pc → rx_OK (zV b e D A X) mX0_target 0 pc (j k)) : rx_OK (zV b e D A X) mX0_target 0 17 (vX0_target_17 j) := by
  unfold vX0_target_17
  refine s_aload_n hZ.1 dX0_target_17 rfl ?_
  exact s_aret hZ.1 rfl (Or.inl ⟨_, rfl⟩) dX0_target_18
noncomputable def vX0_target_8 (j : Nat → rx_K) : rx_K := o_ld rx_isR 0 (o_getf 8 0 (o_const 48 (o_c2 rx_eq (vX0_target_17 j) (vX0_target_19 j))))
set_option maxRecDepth 20000 in
theorem wX0_target_8 (hZ : zO b e D A X) (j : Nat → rx_K) (hj : ∀ k pc, [39][k]? = some pc → rx_OK (zV b e D A X) mX0_target 0 pc (j k)) : rx_OK (zV b e D A X) mX0_target 0 8 (vX0_target_8 j) := by
  unfold vX0_target_8
  refine s_aload_n hZ.1 dX0_target_8 rfl ?_
  refine yg8_0 dX0_target_9 zw458 ?_
  refine s_bipush dX0_target_12 (by decide +kernel) ?_
  exact s_icmp_ne dX0_target_14 (by decide) (wX0_target_19 hZ j hj) (wX0_target_17 hZ j hj)
noncomputable def vX0_target_0 (j : Nat → rx_K) : rx_K := o_ld rx_isR 0 (o_getf 8 0 (o_const 32 (o_c2 rx_eq (vX0_target_17 j) (vX0_target_8 j))))
set_option maxRecDepth 20000 in
theorem wX0_target_0 (hZ : zO b e D A X) (j : Nat → rx_K) (hj : ∀ k pc, [39][k]? = some pc → rx_OK (zV b e D A X) mX0_target 0 pc (j k)) : rx_OK (zV b e D A X) mX0_target 0 0 (vX0_target_0 j) := by
  unfold vX0_target_0
  refine s_aload_n hZ.1 dX0_target_0 rfl ?_
  refine yg8_0 dX0_target_1 zw458 ?_
  refine s_iconst dX0_target_4 (by decide +kernel) ?_
  exact s_icmp_eq dX0_target_5 (by decide) (wX0_target_17 hZ j hj) (wX0_target_8 hZ j hj)
noncomputable def vhX0_target (j : Nat → rx_K) : List rx_K := [vX0_target_39 j]
theorem vlX0_target (hZ : zO b e D A X) : ∀ n k pc, [39][k]? = some pc → rx_OK (zV b e D A X) mX0_target 0 pc (rx_J (vhX0_target) n k) := rx_loop fun j hj k pc h => by
  match k, h with
  | 0, h =>
    have e9 := Option.some.inj (show some 39 = some pc from h)
    subst e9
    exact wX0_target_39 hZ j hj
  | _ + 1, h => exact absurd h (by simp)
noncomputable def FX0_target : List Nat → rx_H → Option (Nat × rx_H) := rx_ent 3 (vX0_target_0 (rx_J (vhX0_target) 4000000000))
theorem Met_X0_target (hZ : zO b e D A X) : rx_Met (zV b e D A X) 0 yX0_target mX0_target (FX0_target) := rx_entry hZ.1 (wX0_target_0 hZ _ (vlX0_target hZ 4000000000)) (by decide +kernel) rfl (fun h => by cases h)
abbrev mX0_put : rx_M := (RX0, cX0_put, 5, (some .boolean), false)
theorem vy_X0_put : rx_Y (zV b e D A X) yX0_put mX0_put 1 := ⟨zw2208, zw421, by decide, by decide +kernel, by decide +kernel, by decide +kernel⟩
noncomputable def vX0_put_133 : rx_K := o_ld rx_isR 0 (o_ld rx_isR 1 (o_getf 8 6 (o_ld rx_isR 1 (o_getf 8 5 (o_getf 8 9 (o_callV 2 0 FX0_wanted (o_ret1 rx_isZ)))))))
set_option maxRecDepth 20000 in
theorem wX0_put_133 (hZ : zO b e D A X) : rx_OK (zV b e D A X) mX0_put 2 133 vX0_put_133 := by
  unfold vX0_put_133
  refine s_aload_n hZ.1 dX0_put_133 rfl ?_
  refine s_aload_n hZ.1 dX0_put_134 rfl ?_
  refine yg8_6 dX0_put_135 zw479 ?_
  refine s_aload_n hZ.1 dX0_put_138 rfl ?_
  refine yg8_5 dX0_put_139 zw475 ?_
  refine yg8_9 dX0_put_142 zw492 ?_
  refine s_callV hZ.1 (Met_X0_wanted hZ) (Nat.le_of_ble_eq_true rfl) vy_X0_wanted zcl0 zw2168 zw82 (Or.inl zw2166) dX0_put_145 ?_
  exact s_zret rx_z_ok rfl dX0_put_148
noncomputable def vX0_put_122 : rx_K := o_ld rx_isR 0 (o_const 120 (o_ld rx_isR 1 (o_getf 8 1 (o_callV 2 0 FX0_fail (o_ret1 rx_isZ)))))
set_option maxRecDepth 20000 in
theorem wX0_put_122 (hZ : zO b e D A X) : rx_OK (zV b e D A X) mX0_put 2 122 vX0_put_122 := by
  unfold vX0_put_122
  refine s_aload_n hZ.1 dX0_put_122 rfl ?_
  refine s_bipush dX0_put_123 (by decide +kernel) ?_
  refine s_aload_n hZ.1 dX0_put_125 rfl ?_
  refine yg8_1 dX0_put_126 zw462 ?_
  refine s_callV hZ.1 (Met_X0_fail hZ) (Nat.le_of_ble_eq_true rfl) vy_X0_fail zcl0 zw2095 zw65 (Or.inl zw2093) dX0_put_129 ?_
  exact s_zret rx_z_ok rfl dX0_put_132
noncomputable def vX0_put_104 : rx_K := o_ld rx_isR 0 (o_getf 0 5 (o_ld rx_isR 3 (o_getf 7 7 (o_const 147573952589676412897 (o_callV 2 10 FX10_field (o_ld rx_isR 3 (o_acmp vX0_put_133 vX0_put_122)))))))
set_option maxRecDepth 20000 in
theorem wX0_put_104 (hZ : zO b e D A X) : rx_OK (zV b e D A X) mX0_put 2 104 vX0_put_104 := by
  unfold vX0_put_104
  refine s_aload_n hZ.1 dX0_put_104 rfl ?_
  refine yg0_5 dX0_put_105 zw668 ?_
  refine s_aload_n hZ.1 dX0_put_108 rfl ?_
  refine yg7_7 dX0_put_109 zw1009 ?_
  refine s_ldc2 dX0_put_112 zw2062 (by decide +kernel) ?_
  refine s_callV hZ.1 (Met_X10_field hZ) (Nat.le_of_ble_eq_true rfl) vy_X10_field zcl10 zw2068 zw2069 (Or.inl zw2212) dX0_put_115 ?_
  refine s_aload_n hZ.1 dX0_put_118 rfl ?_
  exact s_acmp_eq hZ.1 dX0_put_119 (by decide) (wX0_put_133 hZ) (wX0_put_122 hZ)
noncomputable def vX0_put_97 : rx_K := o_st rx_isI 4 (o_ld rx_isI 4 (o_c1 rx_eq vX0_put_122 vX0_put_104))
set_option maxRecDepth 20000 in
theorem wX0_put_97 (hZ : zO b e D A X) : rx_OK (zV b e D A X) mX0_put 2 97 vX0_put_97 := by
  unfold vX0_put_97
  refine s_istore hZ.1 dX0_put_97 (Nat.le_of_ble_eq_true rfl) ?_
  refine s_iload hZ.1 dX0_put_99 ?_
  exact s_if_eq dX0_put_101 (by decide) (wX0_put_122 hZ) (wX0_put_104 hZ)
noncomputable def vX0_put_96 : rx_K := o_const 0 (vX0_put_97)
set_option maxRecDepth 20000 in
theorem wX0_put_96 (hZ : zO b e D A X) : rx_OK (zV b e D A X) mX0_put 2 96 vX0_put_96 := by
  unfold vX0_put_96
  refine s_iconst dX0_put_96 (by decide +kernel) ?_
  exact (wX0_put_97 hZ)
noncomputable def vX0_put_92 : rx_K := o_const 8 (vX0_put_97)
set_option maxRecDepth 20000 in
theorem wX0_put_92 (hZ : zO b e D A X) : rx_OK (zV b e D A X) mX0_put 2 92 vX0_put_92 := by
  unfold vX0_put_92
  refine s_iconst dX0_put_92 (by decide +kernel) ?_
  exact s_goto dX0_put_93 (by decide) (wX0_put_97 hZ)
noncomputable def vX0_put_81 : rx_K := o_ld rx_isR 0 (o_getf 0 7 (o_getf 7 0 (o_const 16 (o_c2 rx_eq vX0_put_92 vX0_put_96))))
set_option maxRecDepth 20000 in
theorem wX0_put_81 (hZ : zO b e D A X) : rx_OK (zV b e D A X) mX0_put 2 81 vX0_put_81 := by
  unfold vX0_put_81
  refine s_aload_n hZ.1 dX0_put_81 rfl ?_
  refine yg0_7 dX0_put_82 zw670 ?_
  refine yg7_0 dX0_put_85 zw945 ?_
  refine s_iconst dX0_put_88 (by decide +kernel) ?_
  exact s_icmp_ne dX0_put_89 (by decide) (wX0_put_96 hZ) (wX0_put_92 hZ)
noncomputable def vX0_put_77 : rx_K := o_const 0 (vX0_put_97)
set_option maxRecDepth 20000 in
theorem wX0_put_77 (hZ : zO b e D A X) : rx_OK (zV b e D A X) mX0_put 2 77 vX0_put_77 := by
  unfold vX0_put_77
  refine s_iconst dX0_put_77 (by decide +kernel) ?_
  exact s_goto dX0_put_78 (by decide) (wX0_put_97 hZ)
noncomputable def vX0_put_73 : rx_K := o_const 8 (vX0_put_97)
set_option maxRecDepth 20000 in
theorem wX0_put_73 (hZ : zO b e D A X) : rx_OK (zV b e D A X) mX0_put 2 73 vX0_put_73 := by
  unfold vX0_put_73
  refine s_iconst dX0_put_73 (by decide +kernel) ?_
  exact s_goto dX0_put_74 (by decide) (wX0_put_97 hZ)
noncomputable def vX0_put_62 : rx_K := o_ld rx_isR 0 (o_getf 0 7 (o_getf 7 0 (o_const 24 (o_c2 rx_eq vX0_put_73 vX0_put_77))))
set_option maxRecDepth 20000 in
theorem wX0_put_62 (hZ : zO b e D A X) : rx_OK (zV b e D A X) mX0_put 2 62 vX0_put_62 := by
  unfold vX0_put_62
  refine s_aload_n hZ.1 dX0_put_62 rfl ?_
  refine yg0_7 dX0_put_63 zw670 ?_
  refine yg7_0 dX0_put_66 zw945 ?_
  refine s_iconst dX0_put_69 (by decide +kernel) ?_
  exact s_icmp_ne dX0_put_70 (by decide) (wX0_put_77 hZ) (wX0_put_73 hZ)
noncomputable def vX0_put_55 : rx_K := o_ld rx_isR 3 (o_getf 7 2 (o_c1 rx_eq vX0_put_81 vX0_put_62))
set_option maxRecDepth 20000 in
theorem wX0_put_55 (hZ : zO b e D A X) : rx_OK (zV b e D A X) mX0_put 2 55 vX0_put_55 := by
  unfold vX0_put_55
  refine s_aload_n hZ.1 dX0_put_55 rfl ?_
  refine yg7_2 dX0_put_56 zw963 ?_
  exact s_if_eq dX0_put_59 (by decide) (wX0_put_81 hZ) (wX0_put_62 hZ)
noncomputable def vX0_put_48 : rx_K := o_ld rx_isR 3 (o_getf 7 3 (o_c1 rx_eq vX0_put_133 vX0_put_55))
set_option maxRecDepth 20000 in
theorem wX0_put_48 (hZ : zO b e D A X) : rx_OK (zV b e D A X) mX0_put 2 48 vX0_put_48 := by
  unfold vX0_put_48
  refine s_aload_n hZ.1 dX0_put_48 rfl ?_
  refine yg7_3 dX0_put_49 zw973 ?_
  exact s_if_eq dX0_put_52 (by decide) (wX0_put_133 hZ) (wX0_put_55 hZ)
noncomputable def vX0_put_39 : rx_K := o_ld rx_isR 2 (o_getf 8 11 (o_st rx_isR 3 (o_ld rx_isR 3 (o_nul vX0_put_133 vX0_put_48))))
set_option maxRecDepth 20000 in
theorem wX0_put_39 (hZ : zO b e D A X) : rx_OK (zV b e D A X) mX0_put 2 39 vX0_put_39 := by
  unfold vX0_put_39
  refine s_aload_n hZ.1 dX0_put_39 rfl ?_
  refine yg8_11 dX0_put_40 zw500 ?_
  refine s_astore_n hZ.1 dX0_put_43 rfl (Nat.le_of_ble_eq_true rfl) ?_
  refine s_aload_n hZ.1 dX0_put_44 rfl ?_
  exact s_ifnull dX0_put_45 (by decide) (wX0_put_133 hZ) (wX0_put_48 hZ)
noncomputable def vX0_put_28 : rx_K := o_ld rx_isR 0 (o_const 120 (o_ld rx_isR 1 (o_getf 8 1 (o_callV 2 0 FX0_fail (o_ret1 rx_isZ)))))
set_option maxRecDepth 20000 in
theorem wX0_put_28 (hZ : zO b e D A X) : rx_OK (zV b e D A X) mX0_put 2 28 vX0_put_28 := by
  unfold vX0_put_28
  refine s_aload_n hZ.1 dX0_put_28 rfl ?_
  refine s_bipush dX0_put_29 (by decide +kernel) ?_
  refine s_aload_n hZ.1 dX0_put_31 rfl ?_
  refine yg8_1 dX0_put_32 zw462 ?_
  refine s_callV hZ.1 (Met_X0_fail hZ) (Nat.le_of_ble_eq_true rfl) vy_X0_fail zcl0 zw2095 zw65 (Or.inl zw2093) dX0_put_35 ?_
  exact s_zret rx_z_ok rfl dX0_put_38
noncomputable def vX0_put_16 : rx_K := o_ld rx_isR 1 (o_getf 8 5 (o_callS 1 FX0_target (o_st rx_isR 2 (o_ld rx_isR 2 (o_nul vX0_put_28 vX0_put_39)))))
set_option maxRecDepth 20000 in
theorem wX0_put_16 (hZ : zO b e D A X) : rx_OK (zV b e D A X) mX0_put 2 16 vX0_put_16 := by
  unfold vX0_put_16
  refine s_aload_n hZ.1 dX0_put_16 rfl ?_
  refine yg8_5 dX0_put_17 zw475 ?_
  refine s_callS hZ.1 (Met_X0_target hZ) (Nat.le_of_ble_eq_true rfl) vy_X0_target zw2210 (Or.inl zw2209) dX0_put_20 ?_
  refine s_astore_n hZ.1 dX0_put_23 rfl (Nat.le_of_ble_eq_true rfl) ?_
  refine s_aload_n hZ.1 dX0_put_24 rfl ?_
  exact s_ifnonnull dX0_put_25 (by decide) (wX0_put_39 hZ) (wX0_put_28 hZ)
noncomputable def vX0_put_14 : rx_K := o_const 0 (o_ret1 rx_isZ)
set_option maxRecDepth 20000 in
theorem wX0_put_14 (hZ : zO b e D A X) : rx_OK (zV b e D A X) mX0_put 2 14 vX0_put_14 := by
  unfold vX0_put_14
  refine s_iconst dX0_put_14 (by decide +kernel) ?_
  exact s_zret rx_z_ok rfl dX0_put_15
noncomputable def vX0_put_7 : rx_K := o_ld rx_isR 1 (o_getf 8 6 (o_nul vX0_put_14 vX0_put_16))
set_option maxRecDepth 20000 in
theorem wX0_put_7 (hZ : zO b e D A X) : rx_OK (zV b e D A X) mX0_put 2 7 vX0_put_7 := by
  unfold vX0_put_7
  refine s_aload_n hZ.1 dX0_put_7 rfl ?_
  refine yg8_6 dX0_put_8 zw479 ?_
  exact s_ifnonnull dX0_put_11 (by decide) (wX0_put_16 hZ) (wX0_put_14 hZ)
noncomputable def vX0_put_0 : rx_K := o_ld rx_isR 1 (o_getf 8 5 (o_nul vX0_put_14 vX0_put_7))
set_option maxRecDepth 20000 in
theorem wX0_put_0 (hZ : zO b e D A X) : rx_OK (zV b e D A X) mX0_put 2 0 vX0_put_0 := by
  unfold vX0_put_0
  refine s_aload_n hZ.1 dX0_put_0 rfl ?_
  refine yg8_5 dX0_put_1 zw475 ?_
  exact s_ifnull dX0_put_4 (by decide) (wX0_put_14 hZ) (wX0_put_7 hZ)
noncomputable def FX0_put : List Nat → rx_H → Option (Nat × rx_H) := rx_ent 5 vX0_put_0
theorem Met_X0_put (hZ : zO b e D A X) : rx_Met (zV b e D A X) 2 yX0_put mX0_put (FX0_put) := rx_entry hZ.1 (wX0_put_0 hZ) (by decide +kernel) rfl (fun h => by cases h)
abbrev mX0_returned : rx_M := (RX0, cX0_returned, 3, (some .boolean), false)
theorem vy_X0_returned : rx_Y (zV b e D A X) yX0_returned mX0_returned 1 := ⟨zw2195, zw421, by decide, by decide +kernel, by decide +kernel, by decide +kernel⟩
noncomputable def vX0_returned_99 : rx_K := o_ret1 rx_isZ
set_option maxRecDepth 20000 in
theorem wX0_returned_99 (hZ : zO b e D A X) : rx_OK (zV b e D A X) mX0_returned 2 99 vX0_returned_99 := by
  unfold vX0_returned_99
  exact s_zret rx_z_ok rfl dX0_returned_99
noncomputable def vX0_returned_98 : rx_K := o_const 0 (vX0_returned_99)
set_option maxRecDepth 20000 in
theorem wX0_returned_98 (hZ : zO b e D A X) : rx_OK (zV b e D A X) mX0_returned 2 98 vX0_returned_98 := by
  unfold vX0_returned_98
  refine s_iconst dX0_returned_98 (by decide +kernel) ?_
  exact (wX0_returned_99 hZ)
noncomputable def vX0_returned_94 : rx_K := o_const 8 (vX0_returned_99)
set_option maxRecDepth 20000 in
theorem wX0_returned_94 (hZ : zO b e D A X) : rx_OK (zV b e D A X) mX0_returned 2 94 vX0_returned_94 := by
  unfold vX0_returned_94
  refine s_iconst dX0_returned_94 (by decide +kernel) ?_
  exact s_goto dX0_returned_95 (by decide) (wX0_returned_99 hZ)
noncomputable def vX0_returned_76 : rx_K := o_ld rx_isR 0 (o_ld rx_isR 1 (o_getf 8 5 (o_ld rx_isR 0 (o_getf 0 7 (o_getf 7 8 (o_callV 2 0 FX0_wanted (o_c1 rx_eq vX0_returned_98 vX0_returned_94)))))))
set_option maxRecDepth 20000 in
theorem wX0_returned_76 (hZ : zO b e D A X) : rx_OK (zV b e D A X) mX0_returned 2 76 vX0_returned_76 := by
  unfold vX0_returned_76
  refine s_aload_n hZ.1 dX0_returned_76 rfl ?_
  refine s_aload_n hZ.1 dX0_returned_77 rfl ?_
  refine yg8_5 dX0_returned_78 zw475 ?_
  refine s_aload_n hZ.1 dX0_returned_81 rfl ?_
  refine yg0_7 dX0_returned_82 zw670 ?_
  refine yg7_8 dX0_returned_85 zw1013 ?_
  refine s_callV hZ.1 (Met_X0_wanted hZ) (Nat.le_of_ble_eq_true rfl) vy_X0_wanted zcl0 zw2168 zw82 (Or.inl zw2166) dX0_returned_88 ?_
  exact s_if_eq dX0_returned_91 (by decide) (wX0_returned_98 hZ) (wX0_returned_94 hZ)
noncomputable def vX0_returned_69 : rx_K := o_ld rx_isR 1 (o_getf 8 5 (o_nul vX0_returned_94 vX0_returned_76))
set_option maxRecDepth 20000 in
theorem wX0_returned_69 (hZ : zO b e D A X) : rx_OK (zV b e D A X) mX0_returned 2 69 vX0_returned_69 := by
  unfold vX0_returned_69
  refine s_aload_n hZ.1 dX0_returned_69 rfl ?_
  refine yg8_5 dX0_returned_70 zw475 ?_
  exact s_ifnull dX0_returned_73 (by decide) (wX0_returned_94 hZ) (wX0_returned_76 hZ)
noncomputable def vX0_returned_58 : rx_K := o_ld rx_isR 0 (o_const 136 (o_ld rx_isR 1 (o_getf 8 1 (o_callV 2 0 FX0_fail (o_ret1 rx_isZ)))))
set_option maxRecDepth 20000 in
theorem wX0_returned_58 (hZ : zO b e D A X) : rx_OK (zV b e D A X) mX0_returned 2 58 vX0_returned_58 := by
  unfold vX0_returned_58
  refine s_aload_n hZ.1 dX0_returned_58 rfl ?_
  refine s_bipush dX0_returned_59 (by decide +kernel) ?_
  refine s_aload_n hZ.1 dX0_returned_61 rfl ?_
  refine yg8_1 dX0_returned_62 zw462 ?_
  refine s_callV hZ.1 (Met_X0_fail hZ) (Nat.le_of_ble_eq_true rfl) vy_X0_fail zcl0 zw2095 zw65 (Or.inl zw2093) dX0_returned_65 ?_
  exact s_zret rx_z_ok rfl dX0_returned_68
noncomputable def vX0_returned_55 : rx_K := o_c2 rx_eq vX0_returned_69 vX0_returned_58
set_option maxRecDepth 20000 in
theorem wX0_returned_55 (hZ : zO b e D A X) : rx_OK (zV b e D A X) mX0_returned 2 55 vX0_returned_55 := by
  unfold vX0_returned_55
  exact s_icmp_eq dX0_returned_55 (by decide) (wX0_returned_69 hZ) (wX0_returned_58 hZ)
noncomputable def vX0_returned_54 : rx_K := o_const 0 (vX0_returned_55)
set_option maxRecDepth 20000 in
theorem wX0_returned_54 (hZ : zO b e D A X) : rx_OK (zV b e D A X) mX0_returned 2 54 vX0_returned_54 := by
  unfold vX0_returned_54
  refine s_iconst dX0_returned_54 (by decide +kernel) ?_
  exact (wX0_returned_55 hZ)
noncomputable def vX0_returned_50 : rx_K := o_const 8 (vX0_returned_55)
set_option maxRecDepth 20000 in
theorem wX0_returned_50 (hZ : zO b e D A X) : rx_OK (zV b e D A X) mX0_returned 2 50 vX0_returned_50 := by
  unfold vX0_returned_50
  refine s_iconst dX0_returned_50 (by decide +kernel) ?_
  exact s_goto dX0_returned_51 (by decide) (wX0_returned_55 hZ)
noncomputable def vX0_returned_42 : rx_K := o_ld rx_isI 2 (o_ld rx_isR 1 (o_getf 8 5 (o_nul vX0_returned_54 vX0_returned_50)))
set_option maxRecDepth 20000 in
theorem wX0_returned_42 (hZ : zO b e D A X) : rx_OK (zV b e D A X) mX0_returned 2 42 vX0_returned_42 := by
  unfold vX0_returned_42
  refine s_iload_n hZ.1 dX0_returned_42 rfl ?_
  refine s_aload_n hZ.1 dX0_returned_43 rfl ?_
  refine yg8_5 dX0_returned_44 zw475 ?_
  exact s_ifnull dX0_returned_47 (by decide) (wX0_returned_54 hZ) (wX0_returned_50 hZ)
noncomputable def vX0_returned_30 : rx_K := o_st rx_isI 2 (o_ld rx_isR 0 (o_getf 0 7 (o_getf 7 0 (o_const 24 (o_c2 rx_eq vX0_returned_58 vX0_returned_42)))))
set_option maxRecDepth 20000 in
theorem wX0_returned_30 (hZ : zO b e D A X) : rx_OK (zV b e D A X) mX0_returned 2 30 vX0_returned_30 := by
  unfold vX0_returned_30
  refine s_istore_n hZ.1 dX0_returned_30 rfl (Nat.le_of_ble_eq_true rfl) ?_
  refine s_aload_n hZ.1 dX0_returned_31 rfl ?_
  refine yg0_7 dX0_returned_32 zw670 ?_
  refine yg7_0 dX0_returned_35 zw945 ?_
  refine s_iconst dX0_returned_38 (by decide +kernel) ?_
  exact s_icmp_eq dX0_returned_39 (by decide) (wX0_returned_58 hZ) (wX0_returned_42 hZ)
noncomputable def vX0_returned_29 : rx_K := o_const 0 (vX0_returned_30)
set_option maxRecDepth 20000 in
theorem wX0_returned_29 (hZ : zO b e D A X) : rx_OK (zV b e D A X) mX0_returned 2 29 vX0_returned_29 := by
  unfold vX0_returned_29
  refine s_iconst dX0_returned_29 (by decide +kernel) ?_
  exact (wX0_returned_30 hZ)
noncomputable def vX0_returned_25 : rx_K := o_const 8 (vX0_returned_30)
set_option maxRecDepth 20000 in
theorem wX0_returned_25 (hZ : zO b e D A X) : rx_OK (zV b e D A X) mX0_returned 2 25 vX0_returned_25 := by
  unfold vX0_returned_25
  refine s_iconst dX0_returned_25 (by decide +kernel) ?_
  exact s_goto dX0_returned_26 (by decide) (wX0_returned_30 hZ)
noncomputable def vX0_returned_11 : rx_K := o_ld rx_isR 0 (o_getf 0 7 (o_getf 7 8 (o_const 147573952589676412905 (o_bc (fun x y => lg_cmp x y) (o_c1 rx_eq vX0_returned_29 vX0_returned_25)))))
set_option maxRecDepth 20000 in
theorem wX0_returned_11 (hZ : zO b e D A X) : rx_OK (zV b e D A X) mX0_returned 2 11 vX0_returned_11 := by
  unfold vX0_returned_11
  refine s_aload_n hZ.1 dX0_returned_11 rfl ?_
  refine yg0_7 dX0_returned_12 zw670 ?_
  refine yg7_8 dX0_returned_15 zw1013 ?_
  refine s_ldc2 dX0_returned_18 zw2153 (by decide +kernel) ?_
  refine s_lcmp dX0_returned_21 ?_
  exact s_if_eq dX0_returned_22 (by decide) (wX0_returned_29 hZ) (wX0_returned_25 hZ)
noncomputable def vX0_returned_0 : rx_K := o_ld rx_isR 0 (o_getf 0 7 (o_getf 7 0 (o_const 8 (o_c2 rx_eq vX0_returned_11 vX0_returned_29))))
set_option maxRecDepth 20000 in
theorem wX0_returned_0 (hZ : zO b e D A X) : rx_OK (zV b e D A X) mX0_returned 2 0 vX0_returned_0 := by
  unfold vX0_returned_0
  refine s_aload_n hZ.1 dX0_returned_0 rfl ?_
  refine yg0_7 dX0_returned_1 zw670 ?_
  refine yg7_0 dX0_returned_4 zw945 ?_
  refine s_iconst dX0_returned_7 (by decide +kernel) ?_
  exact s_icmp_ne dX0_returned_8 (by decide) (wX0_returned_29 hZ) (wX0_returned_11 hZ)
noncomputable def FX0_returned : List Nat → rx_H → Option (Nat × rx_H) := rx_ent 3 vX0_returned_0
theorem Met_X0_returned (hZ : zO b e D A X) : rx_Met (zV b e D A X) 2 yX0_returned mX0_returned (FX0_returned) := rx_entry hZ.1 (wX0_returned_0 hZ) (by decide +kernel) rfl (fun h => by cases h)
abbrev mX0_superMaker : rx_M := (RX0, cX0_superMaker, 3, (some .boolean), false)
theorem vy_X0_superMaker : rx_Y (zV b e D A X) yX0_superMaker mX0_superMaker 1 := ⟨zw2204, zw421, by decide, by decide +kernel, by decide +kernel, by decide +kernel⟩
noncomputable def vX0_superMaker_113 : rx_K := o_ret1 rx_isZ
set_option maxRecDepth 20000 in
theorem wX0_superMaker_113 (hZ : zO b e D A X) : rx_OK (zV b e D A X) mX0_superMaker 3 113 vX0_superMaker_113 := by
  unfold vX0_superMaker_113
  exact s_zret rx_z_ok rfl dX0_superMaker_113
noncomputable def vX0_superMaker_112 : rx_K := o_const 0 (vX0_superMaker_113)
set_option maxRecDepth 20000 in
theorem wX0_superMaker_112 (hZ : zO b e D A X) : rx_OK (zV b e D A X) mX0_superMaker 3 112 vX0_superMaker_112 := by
  unfold vX0_superMaker_112
  refine s_iconst dX0_superMaker_112 (by decide +kernel) ?_
  exact (wX0_superMaker_113 hZ)
noncomputable def vX0_superMaker_108 : rx_K := o_const 8 (vX0_superMaker_113)
set_option maxRecDepth 20000 in
theorem wX0_superMaker_108 (hZ : zO b e D A X) : rx_OK (zV b e D A X) mX0_superMaker 3 108 vX0_superMaker_108 := by
  unfold vX0_superMaker_108
  refine s_iconst dX0_superMaker_108 (by decide +kernel) ?_
  exact s_goto dX0_superMaker_109 (by decide) (wX0_superMaker_113 hZ)
noncomputable def vX0_superMaker_95 : rx_K := o_ld rx_isR 0 (o_const 144 (o_ld rx_isR 1 (o_getf 8 1 (o_callV 2 0 FX0_fail (o_c1 rx_eq vX0_superMaker_112 vX0_superMaker_108)))))
set_option maxRecDepth 20000 in
theorem wX0_superMaker_95 (hZ : zO b e D A X) : rx_OK (zV b e D A X) mX0_superMaker 3 95 vX0_superMaker_95 := by
  unfold vX0_superMaker_95
  refine s_aload_n hZ.1 dX0_superMaker_95 rfl ?_
  refine s_bipush dX0_superMaker_96 (by decide +kernel) ?_
  refine s_aload_n hZ.1 dX0_superMaker_98 rfl ?_
  refine yg8_1 dX0_superMaker_99 zw462 ?_
  refine s_callV hZ.1 (Met_X0_fail hZ) (Nat.le_of_ble_eq_true rfl) vy_X0_fail zcl0 zw2095 zw65 (Or.inl zw2093) dX0_superMaker_102 ?_
  exact s_if_eq dX0_superMaker_105 (by decide) (wX0_superMaker_112 hZ) (wX0_superMaker_108 hZ)
noncomputable def vX0_superMaker_74 : rx_K := o_putf rx_isR 8 11 (o_ld rx_isR 1 (o_ld rx_isR 0 (o_getf 0 5 (o_getf 10 8 (o_putf rx_isL 8 10 (o_ld rx_isR 1 (o_getf 8 11 (o_nul vX0_superMaker_95 vX0_superMaker_108))))))))
set_option maxRecDepth 20000 in
theorem wX0_superMaker_74 (hZ : zO b e D A X) : rx_OK (zV b e D A X) mX0_superMaker 3 74 vX0_superMaker_74 := by
  unfold vX0_superMaker_74
  refine yp8_11 hZ.1 dX0_superMaker_74 zw500 ?_
  refine s_aload_n hZ.1 dX0_superMaker_77 rfl ?_
  refine s_aload_n hZ.1 dX0_superMaker_78 rfl ?_
  refine yg0_5 dX0_superMaker_79 zw668 ?_
  refine yg10_8 dX0_superMaker_82 zw827 ?_
  refine yp8_10 hZ.1 dX0_superMaker_85 zw495 ?_
  refine s_aload_n hZ.1 dX0_superMaker_88 rfl ?_
  refine yg8_11 dX0_superMaker_89 zw500 ?_
  exact s_ifnonnull dX0_superMaker_92 (by decide) (wX0_superMaker_108 hZ) (wX0_superMaker_95 hZ)
noncomputable def vX0_superMaker_73 : rx_K := o_const 3 (vX0_superMaker_74)
set_option maxRecDepth 20000 in
theorem wX0_superMaker_73 (hZ : zO b e D A X) : rx_OK (zV b e D A X) mX0_superMaker 3 73 vX0_superMaker_73 := by
  unfold vX0_superMaker_73
  refine s_null dX0_superMaker_73 ?_
  exact (wX0_superMaker_74 hZ)
noncomputable def vX0_superMaker_46 : rx_K := o_ld rx_isR 0 (o_ld rx_isR 0 (o_getf 0 0 (o_getf 11 3 (o_ld rx_isR 0 (o_getf 0 6 (o_ald 0 (o_const 147573952589676412897 (o_ld rx_isR 1 (o_getf 8 5 (o_const 8 (o_callV 4 0 FX0_meant (vX0_superMaker_74))))))))))))
set_option maxRecDepth 20000 in
theorem wX0_superMaker_46 (hZ : zO b e D A X) : rx_OK (zV b e D A X) mX0_superMaker 3 46 vX0_superMaker_46 := by
  unfold vX0_superMaker_46
  refine s_aload_n hZ.1 dX0_superMaker_46 rfl ?_
  refine s_aload_n hZ.1 dX0_superMaker_47 rfl ?_
  refine yg0_0 dX0_superMaker_48 zw661 ?_
  refine yg11_3 dX0_superMaker_51 zw1263 ?_
  refine s_aload_n hZ.1 dX0_superMaker_54 rfl ?_
  refine yg0_6 dX0_superMaker_55 zw669 ?_
  refine s_iald (tt := 0) rfl dX0_superMaker_58 ?_
  refine s_ldc2 dX0_superMaker_59 zw2062 (by decide +kernel) ?_
  refine s_aload_n hZ.1 dX0_superMaker_62 rfl ?_
  refine yg8_5 dX0_superMaker_63 zw475 ?_
  refine s_iconst dX0_superMaker_66 (by decide +kernel) ?_
  refine s_callV hZ.1 (Met_X0_meant hZ) (Nat.le_of_ble_eq_true rfl) vy_X0_meant zcl0 zw2119 zw71 (Or.inl zw2117) dX0_superMaker_67 ?_
  exact s_goto dX0_superMaker_70 (by decide) (wX0_superMaker_74 hZ)
noncomputable def vX0_superMaker_40 : rx_K := o_st rx_isI 2 (o_ld rx_isR 1 (o_ld rx_isI 2 (o_c1 rx_eq vX0_superMaker_73 vX0_superMaker_46)))
set_option maxRecDepth 20000 in
theorem wX0_superMaker_40 (hZ : zO b e D A X) : rx_OK (zV b e D A X) mX0_superMaker 3 40 vX0_superMaker_40 := by
  unfold vX0_superMaker_40
  refine s_istore_n hZ.1 dX0_superMaker_40 rfl (Nat.le_of_ble_eq_true rfl) ?_
  refine s_aload_n hZ.1 dX0_superMaker_41 rfl ?_
  refine s_iload_n hZ.1 dX0_superMaker_42 rfl ?_
  exact s_if_eq dX0_superMaker_43 (by decide) (wX0_superMaker_73 hZ) (wX0_superMaker_46 hZ)
noncomputable def vX0_superMaker_39 : rx_K := o_const 0 (vX0_superMaker_40)
set_option maxRecDepth 20000 in
theorem wX0_superMaker_39 (hZ : zO b e D A X) : rx_OK (zV b e D A X) mX0_superMaker 3 39 vX0_superMaker_39 := by
  unfold vX0_superMaker_39
  refine s_iconst dX0_superMaker_39 (by decide +kernel) ?_
  exact (wX0_superMaker_40 hZ)
noncomputable def vX0_superMaker_35 : rx_K := o_const 8 (vX0_superMaker_40)
set_option maxRecDepth 20000 in
theorem wX0_superMaker_35 (hZ : zO b e D A X) : rx_OK (zV b e D A X) mX0_superMaker 3 35 vX0_superMaker_35 := by
  unfold vX0_superMaker_35
  refine s_iconst dX0_superMaker_35 (by decide +kernel) ?_
  exact s_goto dX0_superMaker_36 (by decide) (wX0_superMaker_40 hZ)
noncomputable def vX0_superMaker_21 : rx_K := o_ld rx_isR 0 (o_getf 0 7 (o_getf 7 14 (o_getf 8 5 (o_ld rx_isR 1 (o_acmp vX0_superMaker_35 vX0_superMaker_39)))))
set_option maxRecDepth 20000 in
theorem wX0_superMaker_21 (hZ : zO b e D A X) : rx_OK (zV b e D A X) mX0_superMaker 3 21 vX0_superMaker_21 := by
  unfold vX0_superMaker_21
  refine s_aload_n hZ.1 dX0_superMaker_21 rfl ?_
  refine yg0_7 dX0_superMaker_22 zw670 ?_
  refine yg7_14 dX0_superMaker_25 zw1047 ?_
  refine yg8_5 dX0_superMaker_28 zw475 ?_
  refine s_aload_n hZ.1 dX0_superMaker_31 rfl ?_
  exact s_acmp_ne hZ.1 dX0_superMaker_32 (by decide) (wX0_superMaker_39 hZ) (wX0_superMaker_35 hZ)
noncomputable def vX0_superMaker_11 : rx_K := o_ld rx_isR 0 (o_getf 0 7 (o_getf 7 14 (o_nul vX0_superMaker_39 vX0_superMaker_21)))
set_option maxRecDepth 20000 in
theorem wX0_superMaker_11 (hZ : zO b e D A X) : rx_OK (zV b e D A X) mX0_superMaker 3 11 vX0_superMaker_11 := by
  unfold vX0_superMaker_11
  refine s_aload_n hZ.1 dX0_superMaker_11 rfl ?_
  refine yg0_7 dX0_superMaker_12 zw670 ?_
  refine yg7_14 dX0_superMaker_15 zw1047 ?_
  exact s_ifnull dX0_superMaker_18 (by decide) (wX0_superMaker_39 hZ) (wX0_superMaker_21 hZ)
noncomputable def vX0_superMaker_0 : rx_K := o_ld rx_isR 0 (o_getf 0 7 (o_getf 7 0 (o_const 16 (o_c2 rx_eq vX0_superMaker_11 vX0_superMaker_39))))
set_option maxRecDepth 20000 in
theorem wX0_superMaker_0 (hZ : zO b e D A X) : rx_OK (zV b e D A X) mX0_superMaker 3 0 vX0_superMaker_0 := by
  unfold vX0_superMaker_0
  refine s_aload_n hZ.1 dX0_superMaker_0 rfl ?_
  refine yg0_7 dX0_superMaker_1 zw670 ?_
  refine yg7_0 dX0_superMaker_4 zw945 ?_
  refine s_iconst dX0_superMaker_7 (by decide +kernel) ?_
  exact s_icmp_ne dX0_superMaker_8 (by decide) (wX0_superMaker_39 hZ) (wX0_superMaker_11 hZ)
noncomputable def FX0_superMaker : List Nat → rx_H → Option (Nat × rx_H) := rx_ent 3 vX0_superMaker_0
theorem Met_X0_superMaker (hZ : zO b e D A X) : rx_Met (zV b e D A X) 3 yX0_superMaker mX0_superMaker (FX0_superMaker) := rx_entry hZ.1 (wX0_superMaker_0 hZ) (by decide +kernel) rfl (fun h => by cases h)
abbrev mX0_statement : rx_M := (RX0, cX0_statement, 4, (some .boolean), false)
theorem vy_X0_statement : rx_Y (zV b e D A X) yX0_statement mX0_statement 1 := ⟨zw2187, zw421, by decide, by decide +kernel, by decide +kernel, by decide +kernel⟩
abbrev mX0_tried : rx_M := (RX0, cX0_tried, 5, (some .boolean), false)
theorem vy_X0_tried : rx_Y (zV b e D A X) yX0_tried mX0_tried 1 := ⟨zw2200, zw421, by decide, by decide +kernel, by decide +kernel, by decide +kernel⟩
abbrev vl2 : List (MethodName × rx_M) := [(yX0_statement, mX0_statement), (yX0_tried, mX0_tried)]
end ZM4

section ZM3
variable {b : Nat} {e : Nat → Value} {D : va_G} {A : Nat → ClassId} {X : State → Prop}
noncomputable def vX0_compare_193 (g : Nat → List Nat → rx_H → Option (Nat × rx_H)) : rx_K := o_ret1 rx_isZ
set_option maxRecDepth 20000 in
theorem wX0_compare_193 {dn : Nat} {g : Nat → List Nat → rx_H → Option (Nat × rx_H)} (hZ : zO b e D A X) (hg : ∀ i y M, vl1[i]? = some (y, M) → rx_Met (zV b e D A X) dn y M (g i)) (hd : 3 ≤ dn) : rx_OK (zV b e D A X) mX0_compare (dn + 1) 193 (vX0_compare_193 g) := by
  unfold vX0_compare_193
  exact s_zret rx_z_ok rfl dX0_compare_193
noncomputable def vX0_compare_192 (g : Nat → List Nat → rx_H → Option (Nat × rx_H)) : rx_K := o_const 0 ((vX0_compare_193 g))
set_option maxRecDepth 20000 in
theorem wX0_compare_192 {dn : Nat} {g : Nat → List Nat → rx_H → Option (Nat × rx_H)} (hZ : zO b e D A X) (hg : ∀ i y M, vl1[i]? = some (y, M) → rx_Met (zV b e D A X) dn y M (g i)) (hd : 3 ≤ dn) : rx_OK (zV b e D A X) mX0_compare (dn + 1) 192 (vX0_compare_192 g) := by
  unfold vX0_compare_192
  refine s_iconst dX0_compare_192 (by decide +kernel) ?_
  exact (wX0_compare_193 hZ hg hd)
noncomputable def vX0_compare_188 (g : Nat → List Nat → rx_H → Option (Nat × rx_H)) : rx_K := o_const 8 ((vX0_compare_193 g))
set_option maxRecDepth 20000 in
theorem wX0_compare_188 {dn : Nat} {g : Nat → List Nat → rx_H → Option (Nat × rx_H)} (hZ : zO b e D A X) (hg : ∀ i y M, vl1[i]? = some (y, M) → rx_Met (zV b e D A X) dn y M (g i)) (hd : 3 ≤ dn) : rx_OK (zV b e D A X) mX0_compare (dn + 1) 188 (vX0_compare_188 g) := by
  unfold vX0_compare_188
  refine s_iconst dX0_compare_188 (by decide +kernel) ?_
  exact s_goto dX0_compare_189 (by decide) (wX0_compare_193 hZ hg hd)
noncomputable def vX0_compare_172 (g : Nat → List Nat → rx_H → Option (Nat × rx_H)) : rx_K := o_ld rx_isR 0 (o_const 104 (o_ld rx_isR 1 (o_getf 8 6 (o_getf 8 1 (o_callV 2 0 FX0_fail (o_c1 rx_eq (vX0_compare_192 g) (vX0_compare_188 g)))))))
set_option maxRecDepth 20000 in
theorem wX0_compare_172 {dn : Nat} {g : Nat → List Nat → rx_H → Option (Nat × rx_H)} (hZ : zO b e D A X) (hg : ∀ i y M, vl1[i]? = some (y, M) → rx_Met (zV b e D A X) dn y M (g i)) (hd : 3 ≤ dn) : rx_OK (zV b e D A X) mX0_compare (dn + 1) 172 (vX0_compare_172 g) := by
  unfold vX0_compare_172
  refine s_aload_n hZ.1 dX0_compare_172 rfl ?_
  refine s_bipush dX0_compare_173 (by decide +kernel) ?_
  refine s_aload_n hZ.1 dX0_compare_175 rfl ?_
  refine yg8_6 dX0_compare_176 zw479 ?_
  refine yg8_1 dX0_compare_179 zw462 ?_
  refine s_callV hZ.1 (Met_X0_fail hZ) (Nat.succ_le_succ (Nat.le_trans (Nat.le_of_ble_eq_true rfl) hd)) vy_X0_fail zcl0 zw2095 zw65 (Or.inl zw2093) dX0_compare_182 ?_
  exact s_if_eq dX0_compare_185 (by decide) (wX0_compare_192 hZ hg hd) (wX0_compare_188 hZ hg hd)
noncomputable def vX0_compare_169 (g : Nat → List Nat → rx_H → Option (Nat × rx_H)) : rx_K := o_c2 rx_eq (vX0_compare_188 g) (vX0_compare_172 g)
set_option maxRecDepth 20000 in
theorem wX0_compare_169 {dn : Nat} {g : Nat → List Nat → rx_H → Option (Nat × rx_H)} (hZ : zO b e D A X) (hg : ∀ i y M, vl1[i]? = some (y, M) → rx_Met (zV b e D A X) dn y M (g i)) (hd : 3 ≤ dn) : rx_OK (zV b e D A X) mX0_compare (dn + 1) 169 (vX0_compare_169 g) := by
  unfold vX0_compare_169
  exact s_icmp_eq dX0_compare_169 (by decide) (wX0_compare_188 hZ hg hd) (wX0_compare_172 hZ hg hd)
noncomputable def vX0_compare_168 (g : Nat → List Nat → rx_H → Option (Nat × rx_H)) : rx_K := o_const 0 ((vX0_compare_169 g))
set_option maxRecDepth 20000 in
theorem wX0_compare_168 {dn : Nat} {g : Nat → List Nat → rx_H → Option (Nat × rx_H)} (hZ : zO b e D A X) (hg : ∀ i y M, vl1[i]? = some (y, M) → rx_Met (zV b e D A X) dn y M (g i)) (hd : 3 ≤ dn) : rx_OK (zV b e D A X) mX0_compare (dn + 1) 168 (vX0_compare_168 g) := by
  unfold vX0_compare_168
  refine s_iconst dX0_compare_168 (by decide +kernel) ?_
  exact (wX0_compare_169 hZ hg hd)
noncomputable def vX0_compare_164 (g : Nat → List Nat → rx_H → Option (Nat × rx_H)) : rx_K := o_const 8 ((vX0_compare_169 g))
set_option maxRecDepth 20000 in
theorem wX0_compare_164 {dn : Nat} {g : Nat → List Nat → rx_H → Option (Nat × rx_H)} (hZ : zO b e D A X) (hg : ∀ i y M, vl1[i]? = some (y, M) → rx_Met (zV b e D A X) dn y M (g i)) (hd : 3 ≤ dn) : rx_OK (zV b e D A X) mX0_compare (dn + 1) 164 (vX0_compare_164 g) := by
  unfold vX0_compare_164
  refine s_iconst dX0_compare_164 (by decide +kernel) ?_
  exact s_goto dX0_compare_165 (by decide) (wX0_compare_169 hZ hg hd)
noncomputable def vX0_compare_150 (g : Nat → List Nat → rx_H → Option (Nat × rx_H)) : rx_K := o_ld rx_isR 1 (o_getf 8 5 (o_getf 8 9 (o_const 147573952589676412921 (o_bc (fun x y => lg_cmp x y) (o_c1 rx_eq (vX0_compare_164 g) (vX0_compare_168 g))))))
set_option maxRecDepth 20000 in
theorem wX0_compare_150 {dn : Nat} {g : Nat → List Nat → rx_H → Option (Nat × rx_H)} (hZ : zO b e D A X) (hg : ∀ i y M, vl1[i]? = some (y, M) → rx_Met (zV b e D A X) dn y M (g i)) (hd : 3 ≤ dn) : rx_OK (zV b e D A X) mX0_compare (dn + 1) 150 (vX0_compare_150 g) := by
  unfold vX0_compare_150
  refine s_aload_n hZ.1 dX0_compare_150 rfl ?_
  refine yg8_5 dX0_compare_151 zw475 ?_
  refine yg8_9 dX0_compare_154 zw492 ?_
  refine s_ldc2 dX0_compare_157 zw2053 (by decide +kernel) ?_
  refine s_lcmp dX0_compare_160 ?_
  exact s_if_ne dX0_compare_161 (by decide) (wX0_compare_168 hZ hg hd) (wX0_compare_164 hZ hg hd)
noncomputable def vX0_compare_149 (g : Nat → List Nat → rx_H → Option (Nat × rx_H)) : rx_K := o_const 0 ((vX0_compare_150 g))
set_option maxRecDepth 20000 in
theorem wX0_compare_149 {dn : Nat} {g : Nat → List Nat → rx_H → Option (Nat × rx_H)} (hZ : zO b e D A X) (hg : ∀ i y M, vl1[i]? = some (y, M) → rx_Met (zV b e D A X) dn y M (g i)) (hd : 3 ≤ dn) : rx_OK (zV b e D A X) mX0_compare (dn + 1) 149 (vX0_compare_149 g) := by
  unfold vX0_compare_149
  refine s_iconst dX0_compare_149 (by decide +kernel) ?_
  exact (wX0_compare_150 hZ hg hd)
noncomputable def vX0_compare_145 (g : Nat → List Nat → rx_H → Option (Nat × rx_H)) : rx_K := o_const 8 ((vX0_compare_150 g))
set_option maxRecDepth 20000 in
theorem wX0_compare_145 {dn : Nat} {g : Nat → List Nat → rx_H → Option (Nat × rx_H)} (hZ : zO b e D A X) (hg : ∀ i y M, vl1[i]? = some (y, M) → rx_Met (zV b e D A X) dn y M (g i)) (hd : 3 ≤ dn) : rx_OK (zV b e D A X) mX0_compare (dn + 1) 145 (vX0_compare_145 g) := by
  unfold vX0_compare_145
  refine s_iconst dX0_compare_145 (by decide +kernel) ?_
  exact s_goto dX0_compare_146 (by decide) (wX0_compare_150 hZ hg hd)
noncomputable def vX0_compare_131 (g : Nat → List Nat → rx_H → Option (Nat × rx_H)) : rx_K := o_ld rx_isR 1 (o_getf 8 6 (o_getf 8 9 (o_const 147573952589676412921 (o_bc (fun x y => lg_cmp x y) (o_c1 rx_eq (vX0_compare_145 g) (vX0_compare_149 g))))))
set_option maxRecDepth 20000 in
theorem wX0_compare_131 {dn : Nat} {g : Nat → List Nat → rx_H → Option (Nat × rx_H)} (hZ : zO b e D A X) (hg : ∀ i y M, vl1[i]? = some (y, M) → rx_Met (zV b e D A X) dn y M (g i)) (hd : 3 ≤ dn) : rx_OK (zV b e D A X) mX0_compare (dn + 1) 131 (vX0_compare_131 g) := by
  unfold vX0_compare_131
  refine s_aload_n hZ.1 dX0_compare_131 rfl ?_
  refine yg8_6 dX0_compare_132 zw479 ?_
  refine yg8_9 dX0_compare_135 zw492 ?_
  refine s_ldc2 dX0_compare_138 zw2053 (by decide +kernel) ?_
  refine s_lcmp dX0_compare_141 ?_
  exact s_if_ne dX0_compare_142 (by decide) (wX0_compare_149 hZ hg hd) (wX0_compare_145 hZ hg hd)
noncomputable def vX0_compare_117 (g : Nat → List Nat → rx_H → Option (Nat × rx_H)) : rx_K := o_ld rx_isR 1 (o_getf 8 6 (o_getf 8 9 (o_const 147573952589676412905 (o_bc (fun x y => lg_cmp x y) (o_c1 rx_eq (vX0_compare_172 g) (vX0_compare_131 g))))))
set_option maxRecDepth 20000 in
theorem wX0_compare_117 {dn : Nat} {g : Nat → List Nat → rx_H → Option (Nat × rx_H)} (hZ : zO b e D A X) (hg : ∀ i y M, vl1[i]? = some (y, M) → rx_Met (zV b e D A X) dn y M (g i)) (hd : 3 ≤ dn) : rx_OK (zV b e D A X) mX0_compare (dn + 1) 117 (vX0_compare_117 g) := by
  unfold vX0_compare_117
  refine s_aload_n hZ.1 dX0_compare_117 rfl ?_
  refine yg8_6 dX0_compare_118 zw479 ?_
  refine yg8_9 dX0_compare_121 zw492 ?_
  refine s_ldc2 dX0_compare_124 zw2153 (by decide +kernel) ?_
  refine s_lcmp dX0_compare_127 ?_
  exact s_if_eq dX0_compare_128 (by decide) (wX0_compare_172 hZ hg hd) (wX0_compare_131 hZ hg hd)
noncomputable def vX0_compare_103 (g : Nat → List Nat → rx_H → Option (Nat × rx_H)) : rx_K := o_ld rx_isR 0 (o_const 104 (o_ld rx_isR 1 (o_getf 8 5 (o_getf 8 1 (o_callV 2 0 FX0_fail (o_ret1 rx_isZ))))))
set_option maxRecDepth 20000 in
theorem wX0_compare_103 {dn : Nat} {g : Nat → List Nat → rx_H → Option (Nat × rx_H)} (hZ : zO b e D A X) (hg : ∀ i y M, vl1[i]? = some (y, M) → rx_Met (zV b e D A X) dn y M (g i)) (hd : 3 ≤ dn) : rx_OK (zV b e D A X) mX0_compare (dn + 1) 103 (vX0_compare_103 g) := by
  unfold vX0_compare_103
  refine s_aload_n hZ.1 dX0_compare_103 rfl ?_
  refine s_bipush dX0_compare_104 (by decide +kernel) ?_
  refine s_aload_n hZ.1 dX0_compare_106 rfl ?_
  refine yg8_5 dX0_compare_107 zw475 ?_
  refine yg8_1 dX0_compare_110 zw462 ?_
  refine s_callV hZ.1 (Met_X0_fail hZ) (Nat.succ_le_succ (Nat.le_trans (Nat.le_of_ble_eq_true rfl) hd)) vy_X0_fail zcl0 zw2095 zw65 (Or.inl zw2093) dX0_compare_113 ?_
  exact s_zret rx_z_ok rfl dX0_compare_116
noncomputable def vX0_compare_89 (g : Nat → List Nat → rx_H → Option (Nat × rx_H)) : rx_K := o_ld rx_isR 1 (o_getf 8 5 (o_getf 8 9 (o_const 147573952589676412905 (o_bc (fun x y => lg_cmp x y) (o_c1 rx_eq (vX0_compare_103 g) (vX0_compare_117 g))))))
set_option maxRecDepth 20000 in
theorem wX0_compare_89 {dn : Nat} {g : Nat → List Nat → rx_H → Option (Nat × rx_H)} (hZ : zO b e D A X) (hg : ∀ i y M, vl1[i]? = some (y, M) → rx_Met (zV b e D A X) dn y M (g i)) (hd : 3 ≤ dn) : rx_OK (zV b e D A X) mX0_compare (dn + 1) 89 (vX0_compare_89 g) := by
  unfold vX0_compare_89
  refine s_aload_n hZ.1 dX0_compare_89 rfl ?_
  refine yg8_5 dX0_compare_90 zw475 ?_
  refine yg8_9 dX0_compare_93 zw492 ?_
  refine s_ldc2 dX0_compare_96 zw2153 (by decide +kernel) ?_
  refine s_lcmp dX0_compare_99 ?_
  exact s_if_ne dX0_compare_100 (by decide) (wX0_compare_117 hZ hg hd) (wX0_compare_103 hZ hg hd)
noncomputable def vX0_compare_88 (g : Nat → List Nat → rx_H → Option (Nat × rx_H)) : rx_K := o_ret1 rx_isZ
set_option maxRecDepth 20000 in
theorem wX0_compare_88 {dn : Nat} {g : Nat → List Nat → rx_H → Option (Nat × rx_H)} (hZ : zO b e D A X) (hg : ∀ i y M, vl1[i]? = some (y, M) → rx_Met (zV b e D A X) dn y M (g i)) (hd : 3 ≤ dn) : rx_OK (zV b e D A X) mX0_compare (dn + 1) 88 (vX0_compare_88 g) := by
  unfold vX0_compare_88
  exact s_zret rx_z_ok rfl dX0_compare_88
noncomputable def vX0_compare_87 (g : Nat → List Nat → rx_H → Option (Nat × rx_H)) : rx_K := o_const 0 ((vX0_compare_88 g))
set_option maxRecDepth 20000 in
theorem wX0_compare_87 {dn : Nat} {g : Nat → List Nat → rx_H → Option (Nat × rx_H)} (hZ : zO b e D A X) (hg : ∀ i y M, vl1[i]? = some (y, M) → rx_Met (zV b e D A X) dn y M (g i)) (hd : 3 ≤ dn) : rx_OK (zV b e D A X) mX0_compare (dn + 1) 87 (vX0_compare_87 g) := by
  unfold vX0_compare_87
  refine s_iconst dX0_compare_87 (by decide +kernel) ?_
  exact (wX0_compare_88 hZ hg hd)
noncomputable def vX0_compare_83 (g : Nat → List Nat → rx_H → Option (Nat × rx_H)) : rx_K := o_const 8 ((vX0_compare_88 g))
set_option maxRecDepth 20000 in
theorem wX0_compare_83 {dn : Nat} {g : Nat → List Nat → rx_H → Option (Nat × rx_H)} (hZ : zO b e D A X) (hg : ∀ i y M, vl1[i]? = some (y, M) → rx_Met (zV b e D A X) dn y M (g i)) (hd : 3 ≤ dn) : rx_OK (zV b e D A X) mX0_compare (dn + 1) 83 (vX0_compare_83 g) := by
  unfold vX0_compare_83
  refine s_iconst dX0_compare_83 (by decide +kernel) ?_
  exact s_goto dX0_compare_84 (by decide) (wX0_compare_88 hZ hg hd)
noncomputable def vX0_compare_69 (g : Nat → List Nat → rx_H → Option (Nat × rx_H)) : rx_K := o_ld rx_isR 0 (o_ld rx_isR 1 (o_getf 8 6 (o_const 147573952589676412921 (o_callV 2 0 FX0_wanted (o_c1 rx_eq (vX0_compare_87 g) (vX0_compare_83 g))))))
set_option maxRecDepth 20000 in
theorem wX0_compare_69 {dn : Nat} {g : Nat → List Nat → rx_H → Option (Nat × rx_H)} (hZ : zO b e D A X) (hg : ∀ i y M, vl1[i]? = some (y, M) → rx_Met (zV b e D A X) dn y M (g i)) (hd : 3 ≤ dn) : rx_OK (zV b e D A X) mX0_compare (dn + 1) 69 (vX0_compare_69 g) := by
  unfold vX0_compare_69
  refine s_aload_n hZ.1 dX0_compare_69 rfl ?_
  refine s_aload_n hZ.1 dX0_compare_70 rfl ?_
  refine yg8_6 dX0_compare_71 zw479 ?_
  refine s_ldc2 dX0_compare_74 zw2053 (by decide +kernel) ?_
  refine s_callV hZ.1 (Met_X0_wanted hZ) (Nat.succ_le_succ (Nat.le_trans (Nat.le_of_ble_eq_true rfl) hd)) vy_X0_wanted zcl0 zw2168 zw82 (Or.inl zw2166) dX0_compare_77 ?_
  exact s_if_eq dX0_compare_80 (by decide) (wX0_compare_87 hZ hg hd) (wX0_compare_83 hZ hg hd)
noncomputable def vX0_compare_55 (g : Nat → List Nat → rx_H → Option (Nat × rx_H)) : rx_K := o_ld rx_isR 0 (o_ld rx_isR 1 (o_getf 8 5 (o_const 147573952589676412921 (o_callV 2 0 FX0_wanted (o_c1 rx_eq (vX0_compare_87 g) (vX0_compare_69 g))))))
set_option maxRecDepth 20000 in
theorem wX0_compare_55 {dn : Nat} {g : Nat → List Nat → rx_H → Option (Nat × rx_H)} (hZ : zO b e D A X) (hg : ∀ i y M, vl1[i]? = some (y, M) → rx_Met (zV b e D A X) dn y M (g i)) (hd : 3 ≤ dn) : rx_OK (zV b e D A X) mX0_compare (dn + 1) 55 (vX0_compare_55 g) := by
  unfold vX0_compare_55
  refine s_aload_n hZ.1 dX0_compare_55 rfl ?_
  refine s_aload_n hZ.1 dX0_compare_56 rfl ?_
  refine yg8_5 dX0_compare_57 zw475 ?_
  refine s_ldc2 dX0_compare_60 zw2053 (by decide +kernel) ?_
  refine s_callV hZ.1 (Met_X0_wanted hZ) (Nat.succ_le_succ (Nat.le_trans (Nat.le_of_ble_eq_true rfl) hd)) vy_X0_wanted zcl0 zw2168 zw82 (Or.inl zw2166) dX0_compare_63 ?_
  exact s_if_eq dX0_compare_66 (by decide) (wX0_compare_87 hZ hg hd) (wX0_compare_69 hZ hg hd)
noncomputable def vX0_compare_45 (g : Nat → List Nat → rx_H → Option (Nat × rx_H)) : rx_K := o_ld rx_isR 1 (o_getf 8 3 (o_const 1280 (o_c2 rx_eq (vX0_compare_55 g) (vX0_compare_89 g))))
set_option maxRecDepth 20000 in
theorem wX0_compare_45 {dn : Nat} {g : Nat → List Nat → rx_H → Option (Nat × rx_H)} (hZ : zO b e D A X) (hg : ∀ i y M, vl1[i]? = some (y, M) → rx_Met (zV b e D A X) dn y M (g i)) (hd : 3 ≤ dn) : rx_OK (zV b e D A X) mX0_compare (dn + 1) 45 (vX0_compare_45 g) := by
  unfold vX0_compare_45
  refine s_aload_n hZ.1 dX0_compare_45 rfl ?_
  refine yg8_3 dX0_compare_46 zw468 ?_
  refine s_sipush dX0_compare_49 (by decide +kernel) ?_
  exact s_icmp_ne dX0_compare_52 (by decide) (wX0_compare_89 hZ hg hd) (wX0_compare_55 hZ hg hd)
noncomputable def vX0_compare_43 (g : Nat → List Nat → rx_H → Option (Nat × rx_H)) : rx_K := o_const 0 (o_ret1 rx_isZ)
set_option maxRecDepth 20000 in
theorem wX0_compare_43 {dn : Nat} {g : Nat → List Nat → rx_H → Option (Nat × rx_H)} (hZ : zO b e D A X) (hg : ∀ i y M, vl1[i]? = some (y, M) → rx_Met (zV b e D A X) dn y M (g i)) (hd : 3 ≤ dn) : rx_OK (zV b e D A X) mX0_compare (dn + 1) 43 (vX0_compare_43 g) := by
  unfold vX0_compare_43
  refine s_iconst dX0_compare_43 (by decide +kernel) ?_
  exact s_zret rx_z_ok rfl dX0_compare_44
noncomputable def vX0_compare_36 (g : Nat → List Nat → rx_H → Option (Nat × rx_H)) : rx_K := o_ld rx_isR 1 (o_getf 8 6 (o_nul (vX0_compare_43 g) (vX0_compare_45 g)))
set_option maxRecDepth 20000 in
theorem wX0_compare_36 {dn : Nat} {g : Nat → List Nat → rx_H → Option (Nat × rx_H)} (hZ : zO b e D A X) (hg : ∀ i y M, vl1[i]? = some (y, M) → rx_Met (zV b e D A X) dn y M (g i)) (hd : 3 ≤ dn) : rx_OK (zV b e D A X) mX0_compare (dn + 1) 36 (vX0_compare_36 g) := by
  unfold vX0_compare_36
  refine s_aload_n hZ.1 dX0_compare_36 rfl ?_
  refine yg8_6 dX0_compare_37 zw479 ?_
  exact s_ifnonnull dX0_compare_40 (by decide) (wX0_compare_45 hZ hg hd) (wX0_compare_43 hZ hg hd)
noncomputable def vX0_compare_29 (g : Nat → List Nat → rx_H → Option (Nat × rx_H)) : rx_K := o_ld rx_isR 1 (o_getf 8 5 (o_nul (vX0_compare_43 g) (vX0_compare_36 g)))
set_option maxRecDepth 20000 in
theorem wX0_compare_29 {dn : Nat} {g : Nat → List Nat → rx_H → Option (Nat × rx_H)} (hZ : zO b e D A X) (hg : ∀ i y M, vl1[i]? = some (y, M) → rx_Met (zV b e D A X) dn y M (g i)) (hd : 3 ≤ dn) : rx_OK (zV b e D A X) mX0_compare (dn + 1) 29 (vX0_compare_29 g) := by
  unfold vX0_compare_29
  refine s_aload_n hZ.1 dX0_compare_29 rfl ?_
  refine yg8_5 dX0_compare_30 zw475 ?_
  exact s_ifnull dX0_compare_33 (by decide) (wX0_compare_43 hZ hg hd) (wX0_compare_36 hZ hg hd)
noncomputable def vX0_compare_18 (g : Nat → List Nat → rx_H → Option (Nat × rx_H)) : rx_K := o_ld rx_isR 0 (o_ld rx_isR 1 (o_getf 8 6 (o_callV 1 0 (g 3) (o_c1 rx_eq (vX0_compare_43 g) (vX0_compare_29 g)))))
set_option maxRecDepth 20000 in
theorem wX0_compare_18 {dn : Nat} {g : Nat → List Nat → rx_H → Option (Nat × rx_H)} (hZ : zO b e D A X) (hg : ∀ i y M, vl1[i]? = some (y, M) → rx_Met (zV b e D A X) dn y M (g i)) (hd : 3 ≤ dn) : rx_OK (zV b e D A X) mX0_compare (dn + 1) 18 (vX0_compare_18 g) := by
  unfold vX0_compare_18
  refine s_aload_n hZ.1 dX0_compare_18 rfl ?_
  refine s_aload_n hZ.1 dX0_compare_19 rfl ?_
  refine yg8_6 dX0_compare_20 zw479 ?_
  refine s_callV hZ.1 (hg 3 _ _ rfl) (Nat.le_refl _) vy_X0_expr zcl0 zw2090 zw64 (Or.inl zw2088) dX0_compare_23 ?_
  exact s_if_eq dX0_compare_26 (by decide) (wX0_compare_43 hZ hg hd) (wX0_compare_29 hZ hg hd)
noncomputable def vX0_compare_0 (g : Nat → List Nat → rx_H → Option (Nat × rx_H)) : rx_K := o_ld rx_isR 1 (o_const 147573952589676412921 (o_putf rx_isL 8 9 (o_ld rx_isR 0 (o_ld rx_isR 1 (o_getf 8 5 (o_callV 1 0 (g 3) (o_c1 rx_eq (vX0_compare_43 g) (vX0_compare_18 g))))))))
set_option maxRecDepth 20000 in
theorem wX0_compare_0 {dn : Nat} {g : Nat → List Nat → rx_H → Option (Nat × rx_H)} (hZ : zO b e D A X) (hg : ∀ i y M, vl1[i]? = some (y, M) → rx_Met (zV b e D A X) dn y M (g i)) (hd : 3 ≤ dn) : rx_OK (zV b e D A X) mX0_compare (dn + 1) 0 (vX0_compare_0 g) := by
  unfold vX0_compare_0
  refine s_aload_n hZ.1 dX0_compare_0 rfl ?_
  refine s_ldc2 dX0_compare_1 zw2053 (by decide +kernel) ?_
  refine yp8_9 hZ.1 dX0_compare_4 zw492 ?_
  refine s_aload_n hZ.1 dX0_compare_7 rfl ?_
  refine s_aload_n hZ.1 dX0_compare_8 rfl ?_
  refine yg8_5 dX0_compare_9 zw475 ?_
  refine s_callV hZ.1 (hg 3 _ _ rfl) (Nat.le_refl _) vy_X0_expr zcl0 zw2090 zw64 (Or.inl zw2088) dX0_compare_12 ?_
  exact s_if_eq dX0_compare_15 (by decide) (wX0_compare_43 hZ hg hd) (wX0_compare_18 hZ hg hd)
noncomputable def FX0_compare (g : Nat → List Nat → rx_H → Option (Nat × rx_H)) : List Nat → rx_H → Option (Nat × rx_H) := rx_ent 2 (vX0_compare_0 g)
theorem Met_X0_compare {dn : Nat} {g : Nat → List Nat → rx_H → Option (Nat × rx_H)} (hZ : zO b e D A X) (hg : ∀ i y M, vl1[i]? = some (y, M) → rx_Met (zV b e D A X) dn y M (g i)) (hd : 3 ≤ dn) : rx_Met (zV b e D A X) (dn + 1) yX0_compare mX0_compare (FX0_compare g) := rx_entry hZ.1 (wX0_compare_0 hZ hg hd) (by decide +kernel) rfl (fun h => by cases h)
noncomputable def vX0_expr_551 (g : Nat → List Nat → rx_H → Option (Nat × rx_H)) : rx_K := o_ld rx_isR 0 (o_ld rx_isR 1 (o_callV 1 0 (g 2) (o_ret1 rx_isZ)))
set_option maxRecDepth 20000 in
theorem wX0_expr_551 {dn : Nat} {g : Nat → List Nat → rx_H → Option (Nat × rx_H)} (hZ : zO b e D A X) (hg : ∀ i y M, vl1[i]? = some (y, M) → rx_Met (zV b e D A X) dn y M (g i)) (hd : 3 ≤ dn) : rx_OK (zV b e D A X) mX0_expr (dn + 1) 551 (vX0_expr_551 g) := by
  unfold vX0_expr_551
  refine s_aload_n hZ.1 dX0_expr_551 rfl ?_
  refine s_aload_n hZ.1 dX0_expr_552 rfl ?_
  refine s_callV hZ.1 (hg 2 _ _ rfl) (Nat.le_refl _) vy_X0_compare zcl0 zw2172 zw83 (Or.inl zw2170) dX0_expr_553 ?_
  exact s_zret rx_z_ok rfl dX0_expr_556
noncomputable def vX0_expr_545 (g : Nat → List Nat → rx_H → Option (Nat × rx_H)) : rx_K := o_ld rx_isR 0 (o_ld rx_isR 1 (o_callV 1 0 (g 1) (o_ret1 rx_isZ)))
set_option maxRecDepth 20000 in
theorem wX0_expr_545 {dn : Nat} {g : Nat → List Nat → rx_H → Option (Nat × rx_H)} (hZ : zO b e D A X) (hg : ∀ i y M, vl1[i]? = some (y, M) → rx_Met (zV b e D A X) dn y M (g i)) (hd : 3 ≤ dn) : rx_OK (zV b e D A X) mX0_expr (dn + 1) 545 (vX0_expr_545 g) := by
  unfold vX0_expr_545
  refine s_aload_n hZ.1 dX0_expr_545 rfl ?_
  refine s_aload_n hZ.1 dX0_expr_546 rfl ?_
  refine s_callV hZ.1 (hg 1 _ _ rfl) (Nat.le_refl _) vy_X0_chain zcl0 zw2164 zw81 (Or.inl zw2162) dX0_expr_547 ?_
  exact s_zret rx_z_ok rfl dX0_expr_550
noncomputable def vX0_expr_539 (g : Nat → List Nat → rx_H → Option (Nat × rx_H)) : rx_K := o_ld rx_isR 0 (o_ld rx_isR 1 (o_callV 1 0 (g 7) (o_ret1 rx_isZ)))
set_option maxRecDepth 20000 in
theorem wX0_expr_539 {dn : Nat} {g : Nat → List Nat → rx_H → Option (Nat × rx_H)} (hZ : zO b e D A X) (hg : ∀ i y M, vl1[i]? = some (y, M) → rx_Met (zV b e D A X) dn y M (g i)) (hd : 3 ≤ dn) : rx_OK (zV b e D A X) mX0_expr (dn + 1) 539 (vX0_expr_539 g) := by
  unfold vX0_expr_539
  refine s_aload_n hZ.1 dX0_expr_539 rfl ?_
  refine s_aload_n hZ.1 dX0_expr_540 rfl ?_
  refine s_callV hZ.1 (hg 7 _ _ rfl) (Nat.le_refl _) vy_X0_unit zcl0 zw2156 zw79 (Or.inl zw2154) dX0_expr_541 ?_
  exact s_zret rx_z_ok rfl dX0_expr_544
noncomputable def vX0_expr_533 (g : Nat → List Nat → rx_H → Option (Nat × rx_H)) : rx_K := o_putf rx_isL 8 9 (o_ld rx_isI 4 (o_ret1 rx_isZ))
set_option maxRecDepth 20000 in
theorem wX0_expr_533 {dn : Nat} {g : Nat → List Nat → rx_H → Option (Nat × rx_H)} (hZ : zO b e D A X) (hg : ∀ i y M, vl1[i]? = some (y, M) → rx_Met (zV b e D A X) dn y M (g i)) (hd : 3 ≤ dn) : rx_OK (zV b e D A X) mX0_expr (dn + 1) 533 (vX0_expr_533 g) := by
  unfold vX0_expr_533
  refine yp8_9 hZ.1 dX0_expr_533 zw492 ?_
  refine s_iload hZ.1 dX0_expr_536 ?_
  exact s_zret rx_z_ok rfl dX0_expr_538
noncomputable def vX0_expr_526 (g : Nat → List Nat → rx_H → Option (Nat × rx_H)) : rx_K := o_ld rx_isR 1 (o_getf 8 5 (o_getf 8 9 ((vX0_expr_533 g))))
set_option maxRecDepth 20000 in
theorem wX0_expr_526 {dn : Nat} {g : Nat → List Nat → rx_H → Option (Nat × rx_H)} (hZ : zO b e D A X) (hg : ∀ i y M, vl1[i]? = some (y, M) → rx_Met (zV b e D A X) dn y M (g i)) (hd : 3 ≤ dn) : rx_OK (zV b e D A X) mX0_expr (dn + 1) 526 (vX0_expr_526 g) := by
  unfold vX0_expr_526
  refine s_aload_n hZ.1 dX0_expr_526 rfl ?_
  refine yg8_5 dX0_expr_527 zw475 ?_
  refine yg8_9 dX0_expr_530 zw492 ?_
  exact (wX0_expr_533 hZ hg hd)
noncomputable def vX0_expr_520 (g : Nat → List Nat → rx_H → Option (Nat × rx_H)) : rx_K := o_const 147573952589676412897 ((vX0_expr_533 g))
set_option maxRecDepth 20000 in
theorem wX0_expr_520 {dn : Nat} {g : Nat → List Nat → rx_H → Option (Nat × rx_H)} (hZ : zO b e D A X) (hg : ∀ i y M, vl1[i]? = some (y, M) → rx_Met (zV b e D A X) dn y M (g i)) (hd : 3 ≤ dn) : rx_OK (zV b e D A X) mX0_expr (dn + 1) 520 (vX0_expr_520 g) := by
  unfold vX0_expr_520
  refine s_ldc2 dX0_expr_520 zw2062 (by decide +kernel) ?_
  exact s_goto dX0_expr_523 (by decide) (wX0_expr_533 hZ hg hd)
noncomputable def vX0_expr_502 (g : Nat → List Nat → rx_H → Option (Nat × rx_H)) : rx_K := o_ld rx_isR 0 (o_ld rx_isR 1 (o_getf 8 5 (o_callV 1 0 (g 3) (o_st rx_isI 4 (o_ld rx_isR 1 (o_ld rx_isR 1 (o_getf 8 5 (o_nul (vX0_expr_520 g) (vX0_expr_526 g)))))))))
set_option maxRecDepth 20000 in
theorem wX0_expr_502 {dn : Nat} {g : Nat → List Nat → rx_H → Option (Nat × rx_H)} (hZ : zO b e D A X) (hg : ∀ i y M, vl1[i]? = some (y, M) → rx_Met (zV b e D A X) dn y M (g i)) (hd : 3 ≤ dn) : rx_OK (zV b e D A X) mX0_expr (dn + 1) 502 (vX0_expr_502 g) := by
  unfold vX0_expr_502
  refine s_aload_n hZ.1 dX0_expr_502 rfl ?_
  refine s_aload_n hZ.1 dX0_expr_503 rfl ?_
  refine yg8_5 dX0_expr_504 zw475 ?_
  refine s_callV hZ.1 (hg 3 _ _ rfl) (Nat.le_refl _) vy_X0_expr zcl0 zw2090 zw64 (Or.inl zw2088) dX0_expr_507 ?_
  refine s_istore hZ.1 dX0_expr_510 (Nat.le_of_ble_eq_true rfl) ?_
  refine s_aload_n hZ.1 dX0_expr_512 rfl ?_
  refine s_aload_n hZ.1 dX0_expr_513 rfl ?_
  refine yg8_5 dX0_expr_514 zw475 ?_
  exact s_ifnonnull dX0_expr_517 (by decide) (wX0_expr_526 hZ hg hd) (wX0_expr_520 hZ hg hd)
noncomputable def vX0_expr_501 (g : Nat → List Nat → rx_H → Option (Nat × rx_H)) : rx_K := o_ret1 rx_isZ
set_option maxRecDepth 20000 in
theorem wX0_expr_501 {dn : Nat} {g : Nat → List Nat → rx_H → Option (Nat × rx_H)} (hZ : zO b e D A X) (hg : ∀ i y M, vl1[i]? = some (y, M) → rx_Met (zV b e D A X) dn y M (g i)) (hd : 3 ≤ dn) : rx_OK (zV b e D A X) mX0_expr (dn + 1) 501 (vX0_expr_501 g) := by
  unfold vX0_expr_501
  exact s_zret rx_z_ok rfl dX0_expr_501
noncomputable def vX0_expr_500 (g : Nat → List Nat → rx_H → Option (Nat × rx_H)) : rx_K := o_const 0 ((vX0_expr_501 g))
set_option maxRecDepth 20000 in
theorem wX0_expr_500 {dn : Nat} {g : Nat → List Nat → rx_H → Option (Nat × rx_H)} (hZ : zO b e D A X) (hg : ∀ i y M, vl1[i]? = some (y, M) → rx_Met (zV b e D A X) dn y M (g i)) (hd : 3 ≤ dn) : rx_OK (zV b e D A X) mX0_expr (dn + 1) 500 (vX0_expr_500 g) := by
  unfold vX0_expr_500
  refine s_iconst dX0_expr_500 (by decide +kernel) ?_
  exact (wX0_expr_501 hZ hg hd)
noncomputable def vX0_expr_496 (g : Nat → List Nat → rx_H → Option (Nat × rx_H)) : rx_K := o_const 8 ((vX0_expr_501 g))
set_option maxRecDepth 20000 in
theorem wX0_expr_496 {dn : Nat} {g : Nat → List Nat → rx_H → Option (Nat × rx_H)} (hZ : zO b e D A X) (hg : ∀ i y M, vl1[i]? = some (y, M) → rx_Met (zV b e D A X) dn y M (g i)) (hd : 3 ≤ dn) : rx_OK (zV b e D A X) mX0_expr (dn + 1) 496 (vX0_expr_496 g) := by
  unfold vX0_expr_496
  refine s_iconst dX0_expr_496 (by decide +kernel) ?_
  exact s_goto dX0_expr_497 (by decide) (wX0_expr_501 hZ hg hd)
noncomputable def vX0_expr_475 (g : Nat → List Nat → rx_H → Option (Nat × rx_H)) : rx_K := o_ld rx_isR 0 (o_ld rx_isR 1 (o_getf 8 5 (o_getf 8 9 (o_ld rx_isR 1 (o_getf 8 5 (o_getf 8 1 (o_callV 2 0 FX0_isObject (o_c1 rx_eq (vX0_expr_500 g) (vX0_expr_496 g)))))))))
set_option maxRecDepth 20000 in
theorem wX0_expr_475 {dn : Nat} {g : Nat → List Nat → rx_H → Option (Nat × rx_H)} (hZ : zO b e D A X) (hg : ∀ i y M, vl1[i]? = some (y, M) → rx_Met (zV b e D A X) dn y M (g i)) (hd : 3 ≤ dn) : rx_OK (zV b e D A X) mX0_expr (dn + 1) 475 (vX0_expr_475 g) := by
  unfold vX0_expr_475
  refine s_aload_n hZ.1 dX0_expr_475 rfl ?_
  refine s_aload_n hZ.1 dX0_expr_476 rfl ?_
  refine yg8_5 dX0_expr_477 zw475 ?_
  refine yg8_9 dX0_expr_480 zw492 ?_
  refine s_aload_n hZ.1 dX0_expr_483 rfl ?_
  refine yg8_5 dX0_expr_484 zw475 ?_
  refine yg8_1 dX0_expr_487 zw462 ?_
  refine s_callV hZ.1 (Met_X0_isObject hZ) (Nat.succ_le_succ (Nat.le_trans (Nat.le_of_ble_eq_true rfl) hd)) vy_X0_isObject zcl0 zw2151 zw78 (Or.inl zw2149) dX0_expr_490 ?_
  exact s_if_eq dX0_expr_493 (by decide) (wX0_expr_500 hZ hg hd) (wX0_expr_496 hZ hg hd)
noncomputable def vX0_expr_468 (g : Nat → List Nat → rx_H → Option (Nat × rx_H)) : rx_K := o_ld rx_isR 1 (o_getf 8 5 (o_nul (vX0_expr_500 g) (vX0_expr_475 g)))
set_option maxRecDepth 20000 in
theorem wX0_expr_468 {dn : Nat} {g : Nat → List Nat → rx_H → Option (Nat × rx_H)} (hZ : zO b e D A X) (hg : ∀ i y M, vl1[i]? = some (y, M) → rx_Met (zV b e D A X) dn y M (g i)) (hd : 3 ≤ dn) : rx_OK (zV b e D A X) mX0_expr (dn + 1) 468 (vX0_expr_468 g) := by
  unfold vX0_expr_468
  refine s_aload_n hZ.1 dX0_expr_468 rfl ?_
  refine yg8_5 dX0_expr_469 zw475 ?_
  exact s_ifnull dX0_expr_472 (by decide) (wX0_expr_500 hZ hg hd) (wX0_expr_475 hZ hg hd)
noncomputable def vX0_expr_457 (g : Nat → List Nat → rx_H → Option (Nat × rx_H)) : rx_K := o_ld rx_isR 0 (o_ld rx_isR 1 (o_getf 8 5 (o_callV 1 0 (g 3) (o_c1 rx_eq (vX0_expr_500 g) (vX0_expr_468 g)))))
set_option maxRecDepth 20000 in
theorem wX0_expr_457 {dn : Nat} {g : Nat → List Nat → rx_H → Option (Nat × rx_H)} (hZ : zO b e D A X) (hg : ∀ i y M, vl1[i]? = some (y, M) → rx_Met (zV b e D A X) dn y M (g i)) (hd : 3 ≤ dn) : rx_OK (zV b e D A X) mX0_expr (dn + 1) 457 (vX0_expr_457 g) := by
  unfold vX0_expr_457
  refine s_aload_n hZ.1 dX0_expr_457 rfl ?_
  refine s_aload_n hZ.1 dX0_expr_458 rfl ?_
  refine yg8_5 dX0_expr_459 zw475 ?_
  refine s_callV hZ.1 (hg 3 _ _ rfl) (Nat.le_refl _) vy_X0_expr zcl0 zw2090 zw64 (Or.inl zw2088) dX0_expr_462 ?_
  exact s_if_eq dX0_expr_465 (by decide) (wX0_expr_500 hZ hg hd) (wX0_expr_468 hZ hg hd)
noncomputable def vX0_expr_434 (g : Nat → List Nat → rx_H → Option (Nat × rx_H)) : rx_K := o_ld rx_isR 1 (o_ld rx_isR 1 (o_getf 8 10 (o_putf rx_isL 8 9 (o_ld rx_isR 0 (o_ld rx_isR 1 (o_getf 8 10 (o_ld rx_isR 1 (o_getf 8 2 (o_callV 2 0 FX0_named (o_c1 rx_lt (vX0_expr_500 g) (vX0_expr_457 g)))))))))))
set_option maxRecDepth 20000 in
theorem wX0_expr_434 {dn : Nat} {g : Nat → List Nat → rx_H → Option (Nat × rx_H)} (hZ : zO b e D A X) (hg : ∀ i y M, vl1[i]? = some (y, M) → rx_Met (zV b e D A X) dn y M (g i)) (hd : 3 ≤ dn) : rx_OK (zV b e D A X) mX0_expr (dn + 1) 434 (vX0_expr_434 g) := by
  unfold vX0_expr_434
  refine s_aload_n hZ.1 dX0_expr_434 rfl ?_
  refine s_aload_n hZ.1 dX0_expr_435 rfl ?_
  refine yg8_10 dX0_expr_436 zw495 ?_
  refine yp8_9 hZ.1 dX0_expr_439 zw492 ?_
  refine s_aload_n hZ.1 dX0_expr_442 rfl ?_
  refine s_aload_n hZ.1 dX0_expr_443 rfl ?_
  refine yg8_10 dX0_expr_444 zw495 ?_
  refine s_aload_n hZ.1 dX0_expr_447 rfl ?_
  refine yg8_2 dX0_expr_448 zw465 ?_
  refine s_callV hZ.1 (Met_X0_named hZ) (Nat.succ_le_succ (Nat.le_trans (Nat.le_of_ble_eq_true rfl) hd)) vy_X0_named zcl0 zw2138 zw75 (Or.inl zw2136) dX0_expr_451 ?_
  exact s_if_lt dX0_expr_454 (by decide) (wX0_expr_500 hZ hg hd) (wX0_expr_457 hZ hg hd)
noncomputable def vX0_expr_428 (g : Nat → List Nat → rx_H → Option (Nat × rx_H)) : rx_K := o_ld rx_isR 0 (o_ld rx_isR 1 (o_callV 1 0 (g 5) (o_ret1 rx_isZ)))
set_option maxRecDepth 20000 in
theorem wX0_expr_428 {dn : Nat} {g : Nat → List Nat → rx_H → Option (Nat × rx_H)} (hZ : zO b e D A X) (hg : ∀ i y M, vl1[i]? = some (y, M) → rx_Met (zV b e D A X) dn y M (g i)) (hd : 3 ≤ dn) : rx_OK (zV b e D A X) mX0_expr (dn + 1) 428 (vX0_expr_428 g) := by
  unfold vX0_expr_428
  refine s_aload_n hZ.1 dX0_expr_428 rfl ?_
  refine s_aload_n hZ.1 dX0_expr_429 rfl ?_
  refine s_callV hZ.1 (hg 5 _ _ rfl) (Nat.le_refl _) vy_X0_made zcl0 zw2147 zw77 (Or.inl zw2145) dX0_expr_430 ?_
  exact s_zret rx_z_ok rfl dX0_expr_433
noncomputable def vX0_expr_422 (g : Nat → List Nat → rx_H → Option (Nat × rx_H)) : rx_K := o_ld rx_isR 0 (o_ld rx_isR 1 (o_callV 1 0 (g 6) (o_ret1 rx_isZ)))
set_option maxRecDepth 20000 in
theorem wX0_expr_422 {dn : Nat} {g : Nat → List Nat → rx_H → Option (Nat × rx_H)} (hZ : zO b e D A X) (hg : ∀ i y M, vl1[i]? = some (y, M) → rx_Met (zV b e D A X) dn y M (g i)) (hd : 3 ≤ dn) : rx_OK (zV b e D A X) mX0_expr (dn + 1) 422 (vX0_expr_422 g) := by
  unfold vX0_expr_422
  refine s_aload_n hZ.1 dX0_expr_422 rfl ?_
  refine s_aload_n hZ.1 dX0_expr_423 rfl ?_
  refine s_callV hZ.1 (hg 6 _ _ rfl) (Nat.le_refl _) vy_X0_superCall zcl0 zw2142 zw76 (Or.inl zw2140) dX0_expr_424 ?_
  exact s_zret rx_z_ok rfl dX0_expr_427
noncomputable def vX0_expr_421 (g : Nat → List Nat → rx_H → Option (Nat × rx_H)) : rx_K := o_ret1 rx_isZ
set_option maxRecDepth 20000 in
theorem wX0_expr_421 {dn : Nat} {g : Nat → List Nat → rx_H → Option (Nat × rx_H)} (hZ : zO b e D A X) (hg : ∀ i y M, vl1[i]? = some (y, M) → rx_Met (zV b e D A X) dn y M (g i)) (hd : 3 ≤ dn) : rx_OK (zV b e D A X) mX0_expr (dn + 1) 421 (vX0_expr_421 g) := by
  unfold vX0_expr_421
  exact s_zret rx_z_ok rfl dX0_expr_421
noncomputable def vX0_expr_420 (g : Nat → List Nat → rx_H → Option (Nat × rx_H)) : rx_K := o_const 0 ((vX0_expr_421 g))
set_option maxRecDepth 20000 in
theorem wX0_expr_420 {dn : Nat} {g : Nat → List Nat → rx_H → Option (Nat × rx_H)} (hZ : zO b e D A X) (hg : ∀ i y M, vl1[i]? = some (y, M) → rx_Met (zV b e D A X) dn y M (g i)) (hd : 3 ≤ dn) : rx_OK (zV b e D A X) mX0_expr (dn + 1) 420 (vX0_expr_420 g) := by
  unfold vX0_expr_420
  refine s_iconst dX0_expr_420 (by decide +kernel) ?_
  exact (wX0_expr_421 hZ hg hd)
noncomputable def vX0_expr_416 (g : Nat → List Nat → rx_H → Option (Nat × rx_H)) : rx_K := o_const 8 ((vX0_expr_421 g))
set_option maxRecDepth 20000 in
theorem wX0_expr_416 {dn : Nat} {g : Nat → List Nat → rx_H → Option (Nat × rx_H)} (hZ : zO b e D A X) (hg : ∀ i y M, vl1[i]? = some (y, M) → rx_Met (zV b e D A X) dn y M (g i)) (hd : 3 ≤ dn) : rx_OK (zV b e D A X) mX0_expr (dn + 1) 416 (vX0_expr_416 g) := by
  unfold vX0_expr_416
  refine s_iconst dX0_expr_416 (by decide +kernel) ?_
  exact s_goto dX0_expr_417 (by decide) (wX0_expr_421 hZ hg hd)
noncomputable def vX0_expr_406 (g : Nat → List Nat → rx_H → Option (Nat × rx_H)) : rx_K := o_ld rx_isR 0 (o_ld rx_isR 1 (o_const 8 (o_const 0 (o_callV 3 0 FX0_statics (o_c1 rx_eq (vX0_expr_420 g) (vX0_expr_416 g))))))
set_option maxRecDepth 20000 in
theorem wX0_expr_406 {dn : Nat} {g : Nat → List Nat → rx_H → Option (Nat × rx_H)} (hZ : zO b e D A X) (hg : ∀ i y M, vl1[i]? = some (y, M) → rx_Met (zV b e D A X) dn y M (g i)) (hd : 3 ≤ dn) : rx_OK (zV b e D A X) mX0_expr (dn + 1) 406 (vX0_expr_406 g) := by
  unfold vX0_expr_406
  refine s_aload_n hZ.1 dX0_expr_406 rfl ?_
  refine s_aload_n hZ.1 dX0_expr_407 rfl ?_
  refine s_iconst dX0_expr_408 (by decide +kernel) ?_
  refine s_iconst dX0_expr_409 (by decide +kernel) ?_
  refine s_callV hZ.1 (Met_X0_statics hZ) (Nat.succ_le_succ (Nat.le_trans (Nat.le_of_ble_eq_true rfl) hd)) vy_X0_statics zcl0 zw2111 zw69 (Or.inl zw2109) dX0_expr_410 ?_
  exact s_if_eq dX0_expr_413 (by decide) (wX0_expr_420 hZ hg hd) (wX0_expr_416 hZ hg hd)
noncomputable def vX0_expr_375 (g : Nat → List Nat → rx_H → Option (Nat × rx_H)) : rx_K := o_ld rx_isR 0 (o_ld rx_isR 1 (o_ld rx_isI 3 (o_ld rx_isR 0 (o_ld rx_isI 3 (o_ld rx_isR 0 (o_getf 0 2 (o_getf 9 4 (o_ld rx_isR 1 (o_getf 8 2 (o_ald 1 (o_ld rx_isR 1 (o_getf 8 5 (o_const 0 (o_callV 4 0 FX0_meant (o_callV 3 0 FX0_calls (o_c1 rx_eq (vX0_expr_420 g) (vX0_expr_406 g)))))))))))))))))
set_option maxRecDepth 20000 in
theorem wX0_expr_375 {dn : Nat} {g : Nat → List Nat → rx_H → Option (Nat × rx_H)} (hZ : zO b e D A X) (hg : ∀ i y M, vl1[i]? = some (y, M) → rx_Met (zV b e D A X) dn y M (g i)) (hd : 3 ≤ dn) : rx_OK (zV b e D A X) mX0_expr (dn + 1) 375 (vX0_expr_375 g) := by
  unfold vX0_expr_375
  refine s_aload_n hZ.1 dX0_expr_375 rfl ?_
  refine s_aload_n hZ.1 dX0_expr_376 rfl ?_
  refine s_iload_n hZ.1 dX0_expr_377 rfl ?_
  refine s_aload_n hZ.1 dX0_expr_378 rfl ?_
  refine s_iload_n hZ.1 dX0_expr_379 rfl ?_
  refine s_aload_n hZ.1 dX0_expr_380 rfl ?_
  refine yg0_2 dX0_expr_381 zw663 ?_
  refine yg9_4 dX0_expr_384 zw587 ?_
  refine s_aload_n hZ.1 dX0_expr_387 rfl ?_
  refine yg8_2 dX0_expr_388 zw465 ?_
  refine s_lald (tt := 1) rfl dX0_expr_391 ?_
  refine s_aload_n hZ.1 dX0_expr_392 rfl ?_
  refine yg8_5 dX0_expr_393 zw475 ?_
  refine s_iconst dX0_expr_396 (by decide +kernel) ?_
  refine s_callV hZ.1 (Met_X0_meant hZ) (Nat.succ_le_succ (Nat.le_trans (Nat.le_of_ble_eq_true rfl) hd)) vy_X0_meant zcl0 zw2119 zw71 (Or.inl zw2117) dX0_expr_397 ?_
  refine s_callV hZ.1 (Met_X0_calls hZ) (Nat.succ_le_succ (Nat.le_trans (Nat.le_of_ble_eq_true rfl) hd)) vy_X0_calls zcl0 zw2134 zw74 (Or.inl zw2132) dX0_expr_400 ?_
  exact s_if_eq dX0_expr_403 (by decide) (wX0_expr_420 hZ hg hd) (wX0_expr_406 hZ hg hd)
noncomputable def vX0_expr_364 (g : Nat → List Nat → rx_H → Option (Nat × rx_H)) : rx_K := o_ld rx_isR 0 (o_ld rx_isR 1 (o_getf 8 5 (o_callV 1 0 (g 4) (o_c1 rx_eq (vX0_expr_420 g) (vX0_expr_375 g)))))
set_option maxRecDepth 20000 in
theorem wX0_expr_364 {dn : Nat} {g : Nat → List Nat → rx_H → Option (Nat × rx_H)} (hZ : zO b e D A X) (hg : ∀ i y M, vl1[i]? = some (y, M) → rx_Met (zV b e D A X) dn y M (g i)) (hd : 3 ≤ dn) : rx_OK (zV b e D A X) mX0_expr (dn + 1) 364 (vX0_expr_364 g) := by
  unfold vX0_expr_364
  refine s_aload_n hZ.1 dX0_expr_364 rfl ?_
  refine s_aload_n hZ.1 dX0_expr_365 rfl ?_
  refine yg8_5 dX0_expr_366 zw475 ?_
  refine s_callV hZ.1 (hg 4 _ _ rfl) (Nat.le_refl _) vy_X0_exprs zcl0 zw2115 zw70 (Or.inl zw2113) dX0_expr_369 ?_
  exact s_if_eq dX0_expr_372 (by decide) (wX0_expr_420 hZ hg hd) (wX0_expr_375 hZ hg hd)
noncomputable def vX0_expr_339 (g : Nat → List Nat → rx_H → Option (Nat × rx_H)) : rx_K := o_ld rx_isR 0 (o_ld rx_isR 0 (o_getf 0 2 (o_getf 9 4 (o_ld rx_isR 1 (o_getf 8 1 (o_ald 1 (o_ld rx_isR 1 (o_getf 8 1 (o_callV 2 0 FX0_named (o_st rx_isI 3 (o_ld rx_isI 3 (o_c1 rx_lt (vX0_expr_420 g) (vX0_expr_364 g)))))))))))))
set_option maxRecDepth 20000 in
theorem wX0_expr_339 {dn : Nat} {g : Nat → List Nat → rx_H → Option (Nat × rx_H)} (hZ : zO b e D A X) (hg : ∀ i y M, vl1[i]? = some (y, M) → rx_Met (zV b e D A X) dn y M (g i)) (hd : 3 ≤ dn) : rx_OK (zV b e D A X) mX0_expr (dn + 1) 339 (vX0_expr_339 g) := by
  unfold vX0_expr_339
  refine s_aload_n hZ.1 dX0_expr_339 rfl ?_
  refine s_aload_n hZ.1 dX0_expr_340 rfl ?_
  refine yg0_2 dX0_expr_341 zw663 ?_
  refine yg9_4 dX0_expr_344 zw587 ?_
  refine s_aload_n hZ.1 dX0_expr_347 rfl ?_
  refine yg8_1 dX0_expr_348 zw462 ?_
  refine s_lald (tt := 1) rfl dX0_expr_351 ?_
  refine s_aload_n hZ.1 dX0_expr_352 rfl ?_
  refine yg8_1 dX0_expr_353 zw462 ?_
  refine s_callV hZ.1 (Met_X0_named hZ) (Nat.succ_le_succ (Nat.le_trans (Nat.le_of_ble_eq_true rfl) hd)) vy_X0_named zcl0 zw2138 zw75 (Or.inl zw2136) dX0_expr_356 ?_
  refine s_istore_n hZ.1 dX0_expr_359 rfl (Nat.le_of_ble_eq_true rfl) ?_
  refine s_iload_n hZ.1 dX0_expr_360 rfl ?_
  exact s_if_lt dX0_expr_361 (by decide) (wX0_expr_420 hZ hg hd) (wX0_expr_364 hZ hg hd)
noncomputable def vX0_expr_338 (g : Nat → List Nat → rx_H → Option (Nat × rx_H)) : rx_K := o_ret1 rx_isZ
set_option maxRecDepth 20000 in
theorem wX0_expr_338 {dn : Nat} {g : Nat → List Nat → rx_H → Option (Nat × rx_H)} (hZ : zO b e D A X) (hg : ∀ i y M, vl1[i]? = some (y, M) → rx_Met (zV b e D A X) dn y M (g i)) (hd : 3 ≤ dn) : rx_OK (zV b e D A X) mX0_expr (dn + 1) 338 (vX0_expr_338 g) := by
  unfold vX0_expr_338
  exact s_zret rx_z_ok rfl dX0_expr_338
noncomputable def vX0_expr_337 (g : Nat → List Nat → rx_H → Option (Nat × rx_H)) : rx_K := o_const 0 ((vX0_expr_338 g))
set_option maxRecDepth 20000 in
theorem wX0_expr_337 {dn : Nat} {g : Nat → List Nat → rx_H → Option (Nat × rx_H)} (hZ : zO b e D A X) (hg : ∀ i y M, vl1[i]? = some (y, M) → rx_Met (zV b e D A X) dn y M (g i)) (hd : 3 ≤ dn) : rx_OK (zV b e D A X) mX0_expr (dn + 1) 337 (vX0_expr_337 g) := by
  unfold vX0_expr_337
  refine s_iconst dX0_expr_337 (by decide +kernel) ?_
  exact (wX0_expr_338 hZ hg hd)
noncomputable def vX0_expr_333 (g : Nat → List Nat → rx_H → Option (Nat × rx_H)) : rx_K := o_const 8 ((vX0_expr_338 g))
set_option maxRecDepth 20000 in
theorem wX0_expr_333 {dn : Nat} {g : Nat → List Nat → rx_H → Option (Nat × rx_H)} (hZ : zO b e D A X) (hg : ∀ i y M, vl1[i]? = some (y, M) → rx_Met (zV b e D A X) dn y M (g i)) (hd : 3 ≤ dn) : rx_OK (zV b e D A X) mX0_expr (dn + 1) 333 (vX0_expr_333 g) := by
  unfold vX0_expr_333
  refine s_iconst dX0_expr_333 (by decide +kernel) ?_
  exact s_goto dX0_expr_334 (by decide) (wX0_expr_338 hZ hg hd)
noncomputable def vX0_expr_323 (g : Nat → List Nat → rx_H → Option (Nat × rx_H)) : rx_K := o_ld rx_isR 0 (o_ld rx_isR 1 (o_const 8 (o_const 0 (o_callV 3 0 FX0_statics (o_c1 rx_eq (vX0_expr_337 g) (vX0_expr_333 g))))))
set_option maxRecDepth 20000 in
theorem wX0_expr_323 {dn : Nat} {g : Nat → List Nat → rx_H → Option (Nat × rx_H)} (hZ : zO b e D A X) (hg : ∀ i y M, vl1[i]? = some (y, M) → rx_Met (zV b e D A X) dn y M (g i)) (hd : 3 ≤ dn) : rx_OK (zV b e D A X) mX0_expr (dn + 1) 323 (vX0_expr_323 g) := by
  unfold vX0_expr_323
  refine s_aload_n hZ.1 dX0_expr_323 rfl ?_
  refine s_aload_n hZ.1 dX0_expr_324 rfl ?_
  refine s_iconst dX0_expr_325 (by decide +kernel) ?_
  refine s_iconst dX0_expr_326 (by decide +kernel) ?_
  refine s_callV hZ.1 (Met_X0_statics hZ) (Nat.succ_le_succ (Nat.le_trans (Nat.le_of_ble_eq_true rfl) hd)) vy_X0_statics zcl0 zw2111 zw69 (Or.inl zw2109) dX0_expr_327 ?_
  exact s_if_eq dX0_expr_330 (by decide) (wX0_expr_337 hZ hg hd) (wX0_expr_333 hZ hg hd)
noncomputable def vX0_expr_302 (g : Nat → List Nat → rx_H → Option (Nat × rx_H)) : rx_K := o_ld rx_isR 0 (o_ld rx_isR 1 (o_ld rx_isI 2 (o_ld rx_isR 0 (o_getf 0 2 (o_getf 9 4 (o_ld rx_isR 1 (o_getf 8 2 (o_ald 1 (o_callV 3 0 FX0_field (o_c1 rx_eq (vX0_expr_337 g) (vX0_expr_323 g)))))))))))
set_option maxRecDepth 20000 in
theorem wX0_expr_302 {dn : Nat} {g : Nat → List Nat → rx_H → Option (Nat × rx_H)} (hZ : zO b e D A X) (hg : ∀ i y M, vl1[i]? = some (y, M) → rx_Met (zV b e D A X) dn y M (g i)) (hd : 3 ≤ dn) : rx_OK (zV b e D A X) mX0_expr (dn + 1) 302 (vX0_expr_302 g) := by
  unfold vX0_expr_302
  refine s_aload_n hZ.1 dX0_expr_302 rfl ?_
  refine s_aload_n hZ.1 dX0_expr_303 rfl ?_
  refine s_iload_n hZ.1 dX0_expr_304 rfl ?_
  refine s_aload_n hZ.1 dX0_expr_305 rfl ?_
  refine yg0_2 dX0_expr_306 zw663 ?_
  refine yg9_4 dX0_expr_309 zw587 ?_
  refine s_aload_n hZ.1 dX0_expr_312 rfl ?_
  refine yg8_2 dX0_expr_313 zw465 ?_
  refine s_lald (tt := 1) rfl dX0_expr_316 ?_
  refine s_callV hZ.1 (Met_X0_field hZ) (Nat.succ_le_succ (Nat.le_trans (Nat.le_of_ble_eq_true rfl) hd)) vy_X0_field zcl0 zw2107 zw68 (Or.inl zw2105) dX0_expr_317 ?_
  exact s_if_eq dX0_expr_320 (by decide) (wX0_expr_337 hZ hg hd) (wX0_expr_323 hZ hg hd)
noncomputable def vX0_expr_277 (g : Nat → List Nat → rx_H → Option (Nat × rx_H)) : rx_K := o_ld rx_isR 0 (o_ld rx_isR 0 (o_getf 0 2 (o_getf 9 4 (o_ld rx_isR 1 (o_getf 8 1 (o_ald 1 (o_ld rx_isR 1 (o_getf 8 1 (o_callV 2 0 FX0_named (o_st rx_isI 2 (o_ld rx_isI 2 (o_c1 rx_lt (vX0_expr_337 g) (vX0_expr_302 g)))))))))))))
set_option maxRecDepth 20000 in
theorem wX0_expr_277 {dn : Nat} {g : Nat → List Nat → rx_H → Option (Nat × rx_H)} (hZ : zO b e D A X) (hg : ∀ i y M, vl1[i]? = some (y, M) → rx_Met (zV b e D A X) dn y M (g i)) (hd : 3 ≤ dn) : rx_OK (zV b e D A X) mX0_expr (dn + 1) 277 (vX0_expr_277 g) := by
  unfold vX0_expr_277
  refine s_aload_n hZ.1 dX0_expr_277 rfl ?_
  refine s_aload_n hZ.1 dX0_expr_278 rfl ?_
  refine yg0_2 dX0_expr_279 zw663 ?_
  refine yg9_4 dX0_expr_282 zw587 ?_
  refine s_aload_n hZ.1 dX0_expr_285 rfl ?_
  refine yg8_1 dX0_expr_286 zw462 ?_
  refine s_lald (tt := 1) rfl dX0_expr_289 ?_
  refine s_aload_n hZ.1 dX0_expr_290 rfl ?_
  refine yg8_1 dX0_expr_291 zw462 ?_
  refine s_callV hZ.1 (Met_X0_named hZ) (Nat.succ_le_succ (Nat.le_trans (Nat.le_of_ble_eq_true rfl) hd)) vy_X0_named zcl0 zw2138 zw75 (Or.inl zw2136) dX0_expr_294 ?_
  refine s_istore_n hZ.1 dX0_expr_297 rfl (Nat.le_of_ble_eq_true rfl) ?_
  refine s_iload_n hZ.1 dX0_expr_298 rfl ?_
  exact s_if_lt dX0_expr_299 (by decide) (wX0_expr_337 hZ hg hd) (wX0_expr_302 hZ hg hd)
noncomputable def vX0_expr_276 (g : Nat → List Nat → rx_H → Option (Nat × rx_H)) : rx_K := o_ret1 rx_isZ
set_option maxRecDepth 20000 in
theorem wX0_expr_276 {dn : Nat} {g : Nat → List Nat → rx_H → Option (Nat × rx_H)} (hZ : zO b e D A X) (hg : ∀ i y M, vl1[i]? = some (y, M) → rx_Met (zV b e D A X) dn y M (g i)) (hd : 3 ≤ dn) : rx_OK (zV b e D A X) mX0_expr (dn + 1) 276 (vX0_expr_276 g) := by
  unfold vX0_expr_276
  exact s_zret rx_z_ok rfl dX0_expr_276
noncomputable def vX0_expr_275 (g : Nat → List Nat → rx_H → Option (Nat × rx_H)) : rx_K := o_const 0 ((vX0_expr_276 g))
set_option maxRecDepth 20000 in
theorem wX0_expr_275 {dn : Nat} {g : Nat → List Nat → rx_H → Option (Nat × rx_H)} (hZ : zO b e D A X) (hg : ∀ i y M, vl1[i]? = some (y, M) → rx_Met (zV b e D A X) dn y M (g i)) (hd : 3 ≤ dn) : rx_OK (zV b e D A X) mX0_expr (dn + 1) 275 (vX0_expr_275 g) := by
  unfold vX0_expr_275
  refine s_iconst dX0_expr_275 (by decide +kernel) ?_
  exact (wX0_expr_276 hZ hg hd)
noncomputable def vX0_expr_271 (g : Nat → List Nat → rx_H → Option (Nat × rx_H)) : rx_K := o_const 8 ((vX0_expr_276 g))
set_option maxRecDepth 20000 in
theorem wX0_expr_271 {dn : Nat} {g : Nat → List Nat → rx_H → Option (Nat × rx_H)} (hZ : zO b e D A X) (hg : ∀ i y M, vl1[i]? = some (y, M) → rx_Met (zV b e D A X) dn y M (g i)) (hd : 3 ≤ dn) : rx_OK (zV b e D A X) mX0_expr (dn + 1) 271 (vX0_expr_271 g) := by
  unfold vX0_expr_271
  refine s_iconst dX0_expr_271 (by decide +kernel) ?_
  exact s_goto dX0_expr_272 (by decide) (wX0_expr_276 hZ hg hd)
noncomputable def vX0_expr_258 (g : Nat → List Nat → rx_H → Option (Nat × rx_H)) : rx_K := o_ld rx_isR 0 (o_ld rx_isR 1 (o_ld rx_isR 0 (o_getf 0 8 (o_const 0 (o_callV 3 0 FX0_statics (o_c1 rx_eq (vX0_expr_275 g) (vX0_expr_271 g)))))))
set_option maxRecDepth 20000 in
theorem wX0_expr_258 {dn : Nat} {g : Nat → List Nat → rx_H → Option (Nat × rx_H)} (hZ : zO b e D A X) (hg : ∀ i y M, vl1[i]? = some (y, M) → rx_Met (zV b e D A X) dn y M (g i)) (hd : 3 ≤ dn) : rx_OK (zV b e D A X) mX0_expr (dn + 1) 258 (vX0_expr_258 g) := by
  unfold vX0_expr_258
  refine s_aload_n hZ.1 dX0_expr_258 rfl ?_
  refine s_aload_n hZ.1 dX0_expr_259 rfl ?_
  refine s_aload_n hZ.1 dX0_expr_260 rfl ?_
  refine yg0_8 dX0_expr_261 zw671 ?_
  refine s_iconst dX0_expr_264 (by decide +kernel) ?_
  refine s_callV hZ.1 (Met_X0_statics hZ) (Nat.succ_le_succ (Nat.le_trans (Nat.le_of_ble_eq_true rfl) hd)) vy_X0_statics zcl0 zw2111 zw69 (Or.inl zw2109) dX0_expr_265 ?_
  exact s_if_eq dX0_expr_268 (by decide) (wX0_expr_275 hZ hg hd) (wX0_expr_271 hZ hg hd)
noncomputable def vX0_expr_221 (g : Nat → List Nat → rx_H → Option (Nat × rx_H)) : rx_K := o_ld rx_isR 0 (o_ld rx_isR 1 (o_ld rx_isR 0 (o_getf 0 6 (o_ld rx_isR 0 (o_ld rx_isR 0 (o_getf 0 6 (o_ld rx_isR 0 (o_getf 0 2 (o_getf 9 4 (o_ld rx_isR 1 (o_getf 8 2 (o_ald 1 (o_ld rx_isR 1 (o_getf 8 5 (o_const 0 (o_callV 4 0 FX0_meant (o_callV 3 0 FX0_calls (o_c1 rx_eq (vX0_expr_275 g) (vX0_expr_258 g)))))))))))))))))))
set_option maxRecDepth 20000 in
theorem wX0_expr_221 {dn : Nat} {g : Nat → List Nat → rx_H → Option (Nat × rx_H)} (hZ : zO b e D A X) (hg : ∀ i y M, vl1[i]? = some (y, M) → rx_Met (zV b e D A X) dn y M (g i)) (hd : 3 ≤ dn) : rx_OK (zV b e D A X) mX0_expr (dn + 1) 221 (vX0_expr_221 g) := by
  unfold vX0_expr_221
  refine s_aload_n hZ.1 dX0_expr_221 rfl ?_
  refine s_aload_n hZ.1 dX0_expr_222 rfl ?_
  refine s_aload_n hZ.1 dX0_expr_223 rfl ?_
  refine yg0_6 dX0_expr_224 zw669 ?_
  refine s_aload_n hZ.1 dX0_expr_227 rfl ?_
  refine s_aload_n hZ.1 dX0_expr_228 rfl ?_
  refine yg0_6 dX0_expr_229 zw669 ?_
  refine s_aload_n hZ.1 dX0_expr_232 rfl ?_
  refine yg0_2 dX0_expr_233 zw663 ?_
  refine yg9_4 dX0_expr_236 zw587 ?_
  refine s_aload_n hZ.1 dX0_expr_239 rfl ?_
  refine yg8_2 dX0_expr_240 zw465 ?_
  refine s_lald (tt := 1) rfl dX0_expr_243 ?_
  refine s_aload_n hZ.1 dX0_expr_244 rfl ?_
  refine yg8_5 dX0_expr_245 zw475 ?_
  refine s_iconst dX0_expr_248 (by decide +kernel) ?_
  refine s_callV hZ.1 (Met_X0_meant hZ) (Nat.succ_le_succ (Nat.le_trans (Nat.le_of_ble_eq_true rfl) hd)) vy_X0_meant zcl0 zw2119 zw71 (Or.inl zw2117) dX0_expr_249 ?_
  refine s_callV hZ.1 (Met_X0_calls hZ) (Nat.succ_le_succ (Nat.le_trans (Nat.le_of_ble_eq_true rfl) hd)) vy_X0_calls zcl0 zw2134 zw74 (Or.inl zw2132) dX0_expr_252 ?_
  exact s_if_eq dX0_expr_255 (by decide) (wX0_expr_275 hZ hg hd) (wX0_expr_258 hZ hg hd)
noncomputable def vX0_expr_210 (g : Nat → List Nat → rx_H → Option (Nat × rx_H)) : rx_K := o_ld rx_isR 0 (o_ld rx_isR 1 (o_getf 8 5 (o_callV 1 0 (g 4) (o_c1 rx_eq (vX0_expr_275 g) (vX0_expr_221 g)))))
set_option maxRecDepth 20000 in
theorem wX0_expr_210 {dn : Nat} {g : Nat → List Nat → rx_H → Option (Nat × rx_H)} (hZ : zO b e D A X) (hg : ∀ i y M, vl1[i]? = some (y, M) → rx_Met (zV b e D A X) dn y M (g i)) (hd : 3 ≤ dn) : rx_OK (zV b e D A X) mX0_expr (dn + 1) 210 (vX0_expr_210 g) := by
  unfold vX0_expr_210
  refine s_aload_n hZ.1 dX0_expr_210 rfl ?_
  refine s_aload_n hZ.1 dX0_expr_211 rfl ?_
  refine yg8_5 dX0_expr_212 zw475 ?_
  refine s_callV hZ.1 (hg 4 _ _ rfl) (Nat.le_refl _) vy_X0_exprs zcl0 zw2115 zw70 (Or.inl zw2113) dX0_expr_215 ?_
  exact s_if_eq dX0_expr_218 (by decide) (wX0_expr_275 hZ hg hd) (wX0_expr_221 hZ hg hd)
noncomputable def vX0_expr_209 (g : Nat → List Nat → rx_H → Option (Nat × rx_H)) : rx_K := o_ret1 rx_isZ
set_option maxRecDepth 20000 in
theorem wX0_expr_209 {dn : Nat} {g : Nat → List Nat → rx_H → Option (Nat × rx_H)} (hZ : zO b e D A X) (hg : ∀ i y M, vl1[i]? = some (y, M) → rx_Met (zV b e D A X) dn y M (g i)) (hd : 3 ≤ dn) : rx_OK (zV b e D A X) mX0_expr (dn + 1) 209 (vX0_expr_209 g) := by
  unfold vX0_expr_209
  exact s_zret rx_z_ok rfl dX0_expr_209
noncomputable def vX0_expr_208 (g : Nat → List Nat → rx_H → Option (Nat × rx_H)) : rx_K := o_const 0 ((vX0_expr_209 g))
set_option maxRecDepth 20000 in
theorem wX0_expr_208 {dn : Nat} {g : Nat → List Nat → rx_H → Option (Nat × rx_H)} (hZ : zO b e D A X) (hg : ∀ i y M, vl1[i]? = some (y, M) → rx_Met (zV b e D A X) dn y M (g i)) (hd : 3 ≤ dn) : rx_OK (zV b e D A X) mX0_expr (dn + 1) 208 (vX0_expr_208 g) := by
  unfold vX0_expr_208
  refine s_iconst dX0_expr_208 (by decide +kernel) ?_
  exact (wX0_expr_209 hZ hg hd)
noncomputable def vX0_expr_204 (g : Nat → List Nat → rx_H → Option (Nat × rx_H)) : rx_K := o_const 8 ((vX0_expr_209 g))
set_option maxRecDepth 20000 in
theorem wX0_expr_204 {dn : Nat} {g : Nat → List Nat → rx_H → Option (Nat × rx_H)} (hZ : zO b e D A X) (hg : ∀ i y M, vl1[i]? = some (y, M) → rx_Met (zV b e D A X) dn y M (g i)) (hd : 3 ≤ dn) : rx_OK (zV b e D A X) mX0_expr (dn + 1) 204 (vX0_expr_204 g) := by
  unfold vX0_expr_204
  refine s_iconst dX0_expr_204 (by decide +kernel) ?_
  exact s_goto dX0_expr_205 (by decide) (wX0_expr_209 hZ hg hd)
noncomputable def vX0_expr_191 (g : Nat → List Nat → rx_H → Option (Nat × rx_H)) : rx_K := o_ld rx_isR 0 (o_ld rx_isR 1 (o_ld rx_isR 0 (o_getf 0 8 (o_const 0 (o_callV 3 0 FX0_statics (o_c1 rx_eq (vX0_expr_208 g) (vX0_expr_204 g)))))))
set_option maxRecDepth 20000 in
theorem wX0_expr_191 {dn : Nat} {g : Nat → List Nat → rx_H → Option (Nat × rx_H)} (hZ : zO b e D A X) (hg : ∀ i y M, vl1[i]? = some (y, M) → rx_Met (zV b e D A X) dn y M (g i)) (hd : 3 ≤ dn) : rx_OK (zV b e D A X) mX0_expr (dn + 1) 191 (vX0_expr_191 g) := by
  unfold vX0_expr_191
  refine s_aload_n hZ.1 dX0_expr_191 rfl ?_
  refine s_aload_n hZ.1 dX0_expr_192 rfl ?_
  refine s_aload_n hZ.1 dX0_expr_193 rfl ?_
  refine yg0_8 dX0_expr_194 zw671 ?_
  refine s_iconst dX0_expr_197 (by decide +kernel) ?_
  refine s_callV hZ.1 (Met_X0_statics hZ) (Nat.succ_le_succ (Nat.le_trans (Nat.le_of_ble_eq_true rfl) hd)) vy_X0_statics zcl0 zw2111 zw69 (Or.inl zw2109) dX0_expr_198 ?_
  exact s_if_eq dX0_expr_201 (by decide) (wX0_expr_208 hZ hg hd) (wX0_expr_204 hZ hg hd)
noncomputable def vX0_expr_167 (g : Nat → List Nat → rx_H → Option (Nat × rx_H)) : rx_K := o_ld rx_isR 0 (o_ld rx_isR 1 (o_ld rx_isR 0 (o_getf 0 6 (o_ld rx_isR 0 (o_getf 0 2 (o_getf 9 4 (o_ld rx_isR 1 (o_getf 8 2 (o_ald 1 (o_callV 3 0 FX0_field (o_c1 rx_eq (vX0_expr_208 g) (vX0_expr_191 g))))))))))))
set_option maxRecDepth 20000 in
theorem wX0_expr_167 {dn : Nat} {g : Nat → List Nat → rx_H → Option (Nat × rx_H)} (hZ : zO b e D A X) (hg : ∀ i y M, vl1[i]? = some (y, M) → rx_Met (zV b e D A X) dn y M (g i)) (hd : 3 ≤ dn) : rx_OK (zV b e D A X) mX0_expr (dn + 1) 167 (vX0_expr_167 g) := by
  unfold vX0_expr_167
  refine s_aload_n hZ.1 dX0_expr_167 rfl ?_
  refine s_aload_n hZ.1 dX0_expr_168 rfl ?_
  refine s_aload_n hZ.1 dX0_expr_169 rfl ?_
  refine yg0_6 dX0_expr_170 zw669 ?_
  refine s_aload_n hZ.1 dX0_expr_173 rfl ?_
  refine yg0_2 dX0_expr_174 zw663 ?_
  refine yg9_4 dX0_expr_177 zw587 ?_
  refine s_aload_n hZ.1 dX0_expr_180 rfl ?_
  refine yg8_2 dX0_expr_181 zw465 ?_
  refine s_lald (tt := 1) rfl dX0_expr_184 ?_
  refine s_callV hZ.1 (Met_X0_field hZ) (Nat.succ_le_succ (Nat.le_trans (Nat.le_of_ble_eq_true rfl) hd)) vy_X0_field zcl0 zw2107 zw68 (Or.inl zw2105) dX0_expr_185 ?_
  exact s_if_eq dX0_expr_188 (by decide) (wX0_expr_208 hZ hg hd) (wX0_expr_191 hZ hg hd)
noncomputable def vX0_expr_159 (g : Nat → List Nat → rx_H → Option (Nat × rx_H)) : rx_K := o_ld rx_isR 0 (o_ld rx_isR 1 (o_callV 1 0 FX0_isLocal (o_c1 rx_eq (vX0_expr_167 g) (vX0_expr_204 g))))
set_option maxRecDepth 20000 in
theorem wX0_expr_159 {dn : Nat} {g : Nat → List Nat → rx_H → Option (Nat × rx_H)} (hZ : zO b e D A X) (hg : ∀ i y M, vl1[i]? = some (y, M) → rx_Met (zV b e D A X) dn y M (g i)) (hd : 3 ≤ dn) : rx_OK (zV b e D A X) mX0_expr (dn + 1) 159 (vX0_expr_159 g) := by
  unfold vX0_expr_159
  refine s_aload_n hZ.1 dX0_expr_159 rfl ?_
  refine s_aload_n hZ.1 dX0_expr_160 rfl ?_
  refine s_callV hZ.1 (Met_X0_isLocal hZ) (Nat.succ_le_succ (Nat.le_trans (Nat.le_of_ble_eq_true rfl) hd)) vy_X0_isLocal zcl0 zw2099 zw66 (Or.inl zw2097) dX0_expr_161 ?_
  exact s_if_ne dX0_expr_164 (by decide) (wX0_expr_204 hZ hg hd) (wX0_expr_167 hZ hg hd)
noncomputable def vX0_expr_158 (g : Nat → List Nat → rx_H → Option (Nat × rx_H)) : rx_K := o_ret1 rx_isZ
set_option maxRecDepth 20000 in
theorem wX0_expr_158 {dn : Nat} {g : Nat → List Nat → rx_H → Option (Nat × rx_H)} (hZ : zO b e D A X) (hg : ∀ i y M, vl1[i]? = some (y, M) → rx_Met (zV b e D A X) dn y M (g i)) (hd : 3 ≤ dn) : rx_OK (zV b e D A X) mX0_expr (dn + 1) 158 (vX0_expr_158 g) := by
  unfold vX0_expr_158
  exact s_zret rx_z_ok rfl dX0_expr_158
noncomputable def vX0_expr_157 (g : Nat → List Nat → rx_H → Option (Nat × rx_H)) : rx_K := o_const 0 ((vX0_expr_158 g))
set_option maxRecDepth 20000 in
theorem wX0_expr_157 {dn : Nat} {g : Nat → List Nat → rx_H → Option (Nat × rx_H)} (hZ : zO b e D A X) (hg : ∀ i y M, vl1[i]? = some (y, M) → rx_Met (zV b e D A X) dn y M (g i)) (hd : 3 ≤ dn) : rx_OK (zV b e D A X) mX0_expr (dn + 1) 157 (vX0_expr_157 g) := by
  unfold vX0_expr_157
  refine s_iconst dX0_expr_157 (by decide +kernel) ?_
  exact (wX0_expr_158 hZ hg hd)
noncomputable def vX0_expr_153 (g : Nat → List Nat → rx_H → Option (Nat × rx_H)) : rx_K := o_const 8 ((vX0_expr_158 g))
set_option maxRecDepth 20000 in
theorem wX0_expr_153 {dn : Nat} {g : Nat → List Nat → rx_H → Option (Nat × rx_H)} (hZ : zO b e D A X) (hg : ∀ i y M, vl1[i]? = some (y, M) → rx_Met (zV b e D A X) dn y M (g i)) (hd : 3 ≤ dn) : rx_OK (zV b e D A X) mX0_expr (dn + 1) 153 (vX0_expr_153 g) := by
  unfold vX0_expr_153
  refine s_iconst dX0_expr_153 (by decide +kernel) ?_
  exact s_goto dX0_expr_154 (by decide) (wX0_expr_158 hZ hg hd)
noncomputable def vX0_expr_140 (g : Nat → List Nat → rx_H → Option (Nat × rx_H)) : rx_K := o_ld rx_isR 0 (o_const 112 (o_ld rx_isR 1 (o_getf 8 1 (o_callV 2 0 FX0_fail (o_c1 rx_eq (vX0_expr_157 g) (vX0_expr_153 g))))))
set_option maxRecDepth 20000 in
theorem wX0_expr_140 {dn : Nat} {g : Nat → List Nat → rx_H → Option (Nat × rx_H)} (hZ : zO b e D A X) (hg : ∀ i y M, vl1[i]? = some (y, M) → rx_Met (zV b e D A X) dn y M (g i)) (hd : 3 ≤ dn) : rx_OK (zV b e D A X) mX0_expr (dn + 1) 140 (vX0_expr_140 g) := by
  unfold vX0_expr_140
  refine s_aload_n hZ.1 dX0_expr_140 rfl ?_
  refine s_bipush dX0_expr_141 (by decide +kernel) ?_
  refine s_aload_n hZ.1 dX0_expr_143 rfl ?_
  refine yg8_1 dX0_expr_144 zw462 ?_
  refine s_callV hZ.1 (Met_X0_fail hZ) (Nat.succ_le_succ (Nat.le_trans (Nat.le_of_ble_eq_true rfl) hd)) vy_X0_fail zcl0 zw2095 zw65 (Or.inl zw2093) dX0_expr_147 ?_
  exact s_if_eq dX0_expr_150 (by decide) (wX0_expr_157 hZ hg hd) (wX0_expr_153 hZ hg hd)
noncomputable def vX0_expr_122 (g : Nat → List Nat → rx_H → Option (Nat × rx_H)) : rx_K := o_ld rx_isR 1 (o_ld rx_isR 0 (o_getf 0 5 (o_getf 10 1 (o_putf rx_isL 8 9 (o_ld rx_isR 0 (o_getf 0 8 (o_c1 rx_eq (vX0_expr_153 g) (vX0_expr_140 g))))))))
set_option maxRecDepth 20000 in
theorem wX0_expr_122 {dn : Nat} {g : Nat → List Nat → rx_H → Option (Nat × rx_H)} (hZ : zO b e D A X) (hg : ∀ i y M, vl1[i]? = some (y, M) → rx_Met (zV b e D A X) dn y M (g i)) (hd : 3 ≤ dn) : rx_OK (zV b e D A X) mX0_expr (dn + 1) 122 (vX0_expr_122 g) := by
  unfold vX0_expr_122
  refine s_aload_n hZ.1 dX0_expr_122 rfl ?_
  refine s_aload_n hZ.1 dX0_expr_123 rfl ?_
  refine yg0_5 dX0_expr_124 zw668 ?_
  refine yg10_1 dX0_expr_127 zw771 ?_
  refine yp8_9 hZ.1 dX0_expr_130 zw492 ?_
  refine s_aload_n hZ.1 dX0_expr_133 rfl ?_
  refine yg0_8 dX0_expr_134 zw671 ?_
  exact s_if_eq dX0_expr_137 (by decide) (wX0_expr_153 hZ hg hd) (wX0_expr_140 hZ hg hd)
noncomputable def vX0_expr_113 (g : Nat → List Nat → rx_H → Option (Nat × rx_H)) : rx_K := o_ld rx_isR 1 (o_const 147573952589676412913 (o_putf rx_isL 8 9 (o_const 8 (o_ret1 rx_isZ))))
set_option maxRecDepth 20000 in
theorem wX0_expr_113 {dn : Nat} {g : Nat → List Nat → rx_H → Option (Nat × rx_H)} (hZ : zO b e D A X) (hg : ∀ i y M, vl1[i]? = some (y, M) → rx_Met (zV b e D A X) dn y M (g i)) (hd : 3 ≤ dn) : rx_OK (zV b e D A X) mX0_expr (dn + 1) 113 (vX0_expr_113 g) := by
  unfold vX0_expr_113
  refine s_aload_n hZ.1 dX0_expr_113 rfl ?_
  refine s_ldc2 dX0_expr_114 zw2092 (by decide +kernel) ?_
  refine yp8_9 hZ.1 dX0_expr_117 zw492 ?_
  refine s_iconst dX0_expr_120 (by decide +kernel) ?_
  exact s_zret rx_z_ok rfl dX0_expr_121
noncomputable def vX0_expr_104 (g : Nat → List Nat → rx_H → Option (Nat × rx_H)) : rx_K := o_ld rx_isR 1 (o_const 147573952589676412921 (o_putf rx_isL 8 9 (o_const 8 (o_ret1 rx_isZ))))
set_option maxRecDepth 20000 in
theorem wX0_expr_104 {dn : Nat} {g : Nat → List Nat → rx_H → Option (Nat × rx_H)} (hZ : zO b e D A X) (hg : ∀ i y M, vl1[i]? = some (y, M) → rx_Met (zV b e D A X) dn y M (g i)) (hd : 3 ≤ dn) : rx_OK (zV b e D A X) mX0_expr (dn + 1) 104 (vX0_expr_104 g) := by
  unfold vX0_expr_104
  refine s_aload_n hZ.1 dX0_expr_104 rfl ?_
  refine s_ldc2 dX0_expr_105 zw2053 (by decide +kernel) ?_
  refine yp8_9 hZ.1 dX0_expr_108 zw492 ?_
  refine s_iconst dX0_expr_111 (by decide +kernel) ?_
  exact s_zret rx_z_ok rfl dX0_expr_112
noncomputable def vX0_expr_17 (g : Nat → List Nat → rx_H → Option (Nat × rx_H)) : rx_K := o_ld rx_isR 1 (o_getf 8 0 (o_sw 1 [104, 113, 122, 159, 210, 277, 339, 422, 422, 428, 434, 502, 539, 551, 551, 551, 545] 551 (rx_pk [(104, (vX0_expr_104 g)), (113, (vX0_expr_113 g)), (122, (vX0_expr_122 g)), (159, (vX0_expr_159 g)), (210, (vX0_expr_210 g)), (277, (vX0_expr_277 g)), (339, (vX0_expr_339 g)), (422, (vX0_expr_422 g)), (428, (vX0_expr_428 g)), (434, (vX0_expr_434 g)), (502, (vX0_expr_502 g)), (539, (vX0_expr_539 g)), (545, (vX0_expr_545 g)), (551, (vX0_expr_551 g))])))
set_option maxRecDepth 20000 in
theorem wX0_expr_17 {dn : Nat} {g : Nat → List Nat → rx_H → Option (Nat × rx_H)} (hZ : zO b e D A X) (hg : ∀ i y M, vl1[i]? = some (y, M) → rx_Met (zV b e D A X) dn y M (g i)) (hd : 3 ≤ dn) : rx_OK (zV b e D A X) mX0_expr (dn + 1) 17 (vX0_expr_17 g) := by
  unfold vX0_expr_17
  refine s_aload_n hZ.1 dX0_expr_17 rfl ?_
  refine yg8_0 dX0_expr_18 zw458 ?_
  exact s_sw dX0_expr_21 (by decide) (by decide) (by decide) (by decide) (by decide) (fun b _ => (rx_pk_ok (List.forall_mem_cons.mpr ⟨(wX0_expr_104 hZ hg hd), List.forall_mem_cons.mpr ⟨(wX0_expr_113 hZ hg hd), List.forall_mem_cons.mpr ⟨(wX0_expr_122 hZ hg hd), List.forall_mem_cons.mpr ⟨(wX0_expr_159 hZ hg hd), List.forall_mem_cons.mpr ⟨(wX0_expr_210 hZ hg hd), List.forall_mem_cons.mpr ⟨(wX0_expr_277 hZ hg hd), List.forall_mem_cons.mpr ⟨(wX0_expr_339 hZ hg hd), List.forall_mem_cons.mpr ⟨(wX0_expr_422 hZ hg hd), List.forall_mem_cons.mpr ⟨(wX0_expr_428 hZ hg hd), List.forall_mem_cons.mpr ⟨(wX0_expr_434 hZ hg hd), List.forall_mem_cons.mpr ⟨(wX0_expr_502 hZ hg hd), List.forall_mem_cons.mpr ⟨(wX0_expr_539 hZ hg hd), List.forall_mem_cons.mpr ⟨(wX0_expr_545 hZ hg hd), List.forall_mem_cons.mpr ⟨(wX0_expr_551 hZ hg hd), fun _ h => absurd h List.not_mem_nil⟩⟩⟩⟩⟩⟩⟩⟩⟩⟩⟩⟩⟩⟩)) b)
noncomputable def vX0_expr_16 (g : Nat → List Nat → rx_H → Option (Nat × rx_H)) : rx_K := o_ret1 rx_isZ
set_option maxRecDepth 20000 in
theorem wX0_expr_16 {dn : Nat} {g : Nat → List Nat → rx_H → Option (Nat × rx_H)} (hZ : zO b e D A X) (hg : ∀ i y M, vl1[i]? = some (y, M) → rx_Met (zV b e D A X) dn y M (g i)) (hd : 3 ≤ dn) : rx_OK (zV b e D A X) mX0_expr (dn + 1) 16 (vX0_expr_16 g) := by
  unfold vX0_expr_16
  exact s_zret rx_z_ok rfl dX0_expr_16
noncomputable def vX0_expr_15 (g : Nat → List Nat → rx_H → Option (Nat × rx_H)) : rx_K := o_const 0 ((vX0_expr_16 g))
set_option maxRecDepth 20000 in
theorem wX0_expr_15 {dn : Nat} {g : Nat → List Nat → rx_H → Option (Nat × rx_H)} (hZ : zO b e D A X) (hg : ∀ i y M, vl1[i]? = some (y, M) → rx_Met (zV b e D A X) dn y M (g i)) (hd : 3 ≤ dn) : rx_OK (zV b e D A X) mX0_expr (dn + 1) 15 (vX0_expr_15 g) := by
  unfold vX0_expr_15
  refine s_iconst dX0_expr_15 (by decide +kernel) ?_
  exact (wX0_expr_16 hZ hg hd)
noncomputable def vX0_expr_11 (g : Nat → List Nat → rx_H → Option (Nat × rx_H)) : rx_K := o_const 8 ((vX0_expr_16 g))
set_option maxRecDepth 20000 in
theorem wX0_expr_11 {dn : Nat} {g : Nat → List Nat → rx_H → Option (Nat × rx_H)} (hZ : zO b e D A X) (hg : ∀ i y M, vl1[i]? = some (y, M) → rx_Met (zV b e D A X) dn y M (g i)) (hd : 3 ≤ dn) : rx_OK (zV b e D A X) mX0_expr (dn + 1) 11 (vX0_expr_11 g) := by
  unfold vX0_expr_11
  refine s_iconst dX0_expr_11 (by decide +kernel) ?_
  exact s_goto dX0_expr_12 (by decide) (wX0_expr_16 hZ hg hd)
noncomputable def vX0_expr_4 (g : Nat → List Nat → rx_H → Option (Nat × rx_H)) : rx_K := o_ld rx_isR 0 (o_getf 0 3 (o_c1 rx_eq (vX0_expr_11 g) (vX0_expr_15 g)))
set_option maxRecDepth 20000 in
theorem wX0_expr_4 {dn : Nat} {g : Nat → List Nat → rx_H → Option (Nat × rx_H)} (hZ : zO b e D A X) (hg : ∀ i y M, vl1[i]? = some (y, M) → rx_Met (zV b e D A X) dn y M (g i)) (hd : 3 ≤ dn) : rx_OK (zV b e D A X) mX0_expr (dn + 1) 4 (vX0_expr_4 g) := by
  unfold vX0_expr_4
  refine s_aload_n hZ.1 dX0_expr_4 rfl ?_
  refine yg0_3 dX0_expr_5 zw664 ?_
  exact s_if_ne dX0_expr_8 (by decide) (wX0_expr_15 hZ hg hd) (wX0_expr_11 hZ hg hd)
noncomputable def vX0_expr_0 (g : Nat → List Nat → rx_H → Option (Nat × rx_H)) : rx_K := o_ld rx_isR 1 (o_nul (vX0_expr_4 g) (vX0_expr_17 g))
set_option maxRecDepth 20000 in
theorem wX0_expr_0 {dn : Nat} {g : Nat → List Nat → rx_H → Option (Nat × rx_H)} (hZ : zO b e D A X) (hg : ∀ i y M, vl1[i]? = some (y, M) → rx_Met (zV b e D A X) dn y M (g i)) (hd : 3 ≤ dn) : rx_OK (zV b e D A X) mX0_expr (dn + 1) 0 (vX0_expr_0 g) := by
  unfold vX0_expr_0
  refine s_aload_n hZ.1 dX0_expr_0 rfl ?_
  exact s_ifnonnull dX0_expr_1 (by decide) (wX0_expr_17 hZ hg hd) (wX0_expr_4 hZ hg hd)
noncomputable def FX0_expr (g : Nat → List Nat → rx_H → Option (Nat × rx_H)) : List Nat → rx_H → Option (Nat × rx_H) := rx_ent 5 (vX0_expr_0 g)
theorem Met_X0_expr {dn : Nat} {g : Nat → List Nat → rx_H → Option (Nat × rx_H)} (hZ : zO b e D A X) (hg : ∀ i y M, vl1[i]? = some (y, M) → rx_Met (zV b e D A X) dn y M (g i)) (hd : 3 ≤ dn) : rx_Met (zV b e D A X) (dn + 1) yX0_expr mX0_expr (FX0_expr g) := rx_entry hZ.1 (wX0_expr_0 hZ hg hd) (by decide +kernel) rfl (fun h => by cases h)
noncomputable def vX0_exprs_24 (g : Nat → List Nat → rx_H → Option (Nat × rx_H)) (j : Nat → rx_K) : rx_K := o_const 8 (o_ret1 rx_isZ)
set_option maxRecDepth 20000 in
theorem wX0_exprs_24 {dn : Nat} {g : Nat → List Nat → rx_H → Option (Nat × rx_H)} (hZ : zO b e D A X) (hg : ∀ i y M, vl1[i]? = some (y, M) → rx_Met (zV b e D A X) dn y M (g i)) (hd : 3 ≤ dn) (j : Nat → rx_K) (hj : ∀ k pc, [2][k]? = some pc → rx_OK (zV b e D A X) mX0_exprs (dn + 1) pc (j k)) : rx_OK (zV b e D A X) mX0_exprs (dn + 1) 24 (vX0_exprs_24 g j) := by
  unfold vX0_exprs_24
  refine s_iconst dX0_exprs_24 (by decide +kernel) ?_
  exact s_zret rx_z_ok rfl dX0_exprs_25
noncomputable def vX0_exprs_16 (g : Nat → List Nat → rx_H → Option (Nat × rx_H)) (j : Nat → rx_K) : rx_K := o_ld rx_isR 2 (o_getf 8 8 (o_st rx_isR 2 ((j 0))))
set_option maxRecDepth 20000 in
theorem wX0_exprs_16 {dn : Nat} {g : Nat → List Nat → rx_H → Option (Nat × rx_H)} (hZ : zO b e D A X) (hg : ∀ i y M, vl1[i]? = some (y, M) → rx_Met (zV b e D A X) dn y M (g i)) (hd : 3 ≤ dn) (j : Nat → rx_K) (hj : ∀ k pc, [2][k]? = some pc → rx_OK (zV b e D A X) mX0_exprs (dn + 1) pc (j k)) : rx_OK (zV b e D A X) mX0_exprs (dn + 1) 16 (vX0_exprs_16 g j) := by
  unfold vX0_exprs_16
  refine s_aload_n hZ.1 dX0_exprs_16 rfl ?_
  refine yg8_8 dX0_exprs_17 zw487 ?_
  refine s_astore_n hZ.1 dX0_exprs_20 rfl (Nat.le_of_ble_eq_true rfl) ?_
  exact s_goto dX0_exprs_21 (by decide) (hj 0 2 rfl)
noncomputable def vX0_exprs_14 (g : Nat → List Nat → rx_H → Option (Nat × rx_H)) (j : Nat → rx_K) : rx_K := o_const 0 (o_ret1 rx_isZ)
set_option maxRecDepth 20000 in
theorem wX0_exprs_14 {dn : Nat} {g : Nat → List Nat → rx_H → Option (Nat × rx_H)} (hZ : zO b e D A X) (hg : ∀ i y M, vl1[i]? = some (y, M) → rx_Met (zV b e D A X) dn y M (g i)) (hd : 3 ≤ dn) (j : Nat → rx_K) (hj : ∀ k pc, [2][k]? = some pc → rx_OK (zV b e D A X) mX0_exprs (dn + 1) pc (j k)) : rx_OK (zV b e D A X) mX0_exprs (dn + 1) 14 (vX0_exprs_14 g j) := by
  unfold vX0_exprs_14
  refine s_iconst dX0_exprs_14 (by decide +kernel) ?_
  exact s_zret rx_z_ok rfl dX0_exprs_15
noncomputable def vX0_exprs_6 (g : Nat → List Nat → rx_H → Option (Nat × rx_H)) (j : Nat → rx_K) : rx_K := o_ld rx_isR 0 (o_ld rx_isR 2 (o_callV 1 0 (g 3) (o_c1 rx_eq (vX0_exprs_14 g j) (vX0_exprs_16 g j))))
set_option maxRecDepth 20000 in
theorem wX0_exprs_6 {dn : Nat} {g : Nat → List Nat → rx_H → Option (Nat × rx_H)} (hZ : zO b e D A X) (hg : ∀ i y M, vl1[i]? = some (y, M) → rx_Met (zV b e D A X) dn y M (g i)) (hd : 3 ≤ dn) (j : Nat → rx_K) (hj : ∀ k pc, [2][k]? = some pc → rx_OK (zV b e D A X) mX0_exprs (dn + 1) pc (j k)) : rx_OK (zV b e D A X) mX0_exprs (dn + 1) 6 (vX0_exprs_6 g j) := by
  unfold vX0_exprs_6
  refine s_aload_n hZ.1 dX0_exprs_6 rfl ?_
  refine s_aload_n hZ.1 dX0_exprs_7 rfl ?_
  refine s_callV hZ.1 (hg 3 _ _ rfl) (Nat.le_refl _) vy_X0_expr zcl0 zw2090 zw64 (Or.inl zw2088) dX0_exprs_8 ?_
  exact s_if_ne dX0_exprs_11 (by decide) (wX0_exprs_16 hZ hg hd j hj) (wX0_exprs_14 hZ hg hd j hj)
noncomputable def vX0_exprs_2 (g : Nat → List Nat → rx_H → Option (Nat × rx_H)) (j : Nat → rx_K) : rx_K := o_ld rx_isR 2 (o_nul (vX0_exprs_24 g j) (vX0_exprs_6 g j))
set_option maxRecDepth 20000 in
theorem wX0_exprs_2 {dn : Nat} {g : Nat → List Nat → rx_H → Option (Nat × rx_H)} (hZ : zO b e D A X) (hg : ∀ i y M, vl1[i]? = some (y, M) → rx_Met (zV b e D A X) dn y M (g i)) (hd : 3 ≤ dn) (j : Nat → rx_K) (hj : ∀ k pc, [2][k]? = some pc → rx_OK (zV b e D A X) mX0_exprs (dn + 1) pc (j k)) : rx_OK (zV b e D A X) mX0_exprs (dn + 1) 2 (vX0_exprs_2 g j) := by
  unfold vX0_exprs_2
  refine s_aload_n hZ.1 dX0_exprs_2 rfl ?_
  exact s_ifnull dX0_exprs_3 (by decide) (wX0_exprs_24 hZ hg hd j hj) (wX0_exprs_6 hZ hg hd j hj)
noncomputable def vX0_exprs_0 (g : Nat → List Nat → rx_H → Option (Nat × rx_H)) (j : Nat → rx_K) : rx_K := o_ld rx_isR 1 (o_st rx_isR 2 ((vX0_exprs_2 g j)))
set_option maxRecDepth 20000 in
theorem wX0_exprs_0 {dn : Nat} {g : Nat → List Nat → rx_H → Option (Nat × rx_H)} (hZ : zO b e D A X) (hg : ∀ i y M, vl1[i]? = some (y, M) → rx_Met (zV b e D A X) dn y M (g i)) (hd : 3 ≤ dn) (j : Nat → rx_K) (hj : ∀ k pc, [2][k]? = some pc → rx_OK (zV b e D A X) mX0_exprs (dn + 1) pc (j k)) : rx_OK (zV b e D A X) mX0_exprs (dn + 1) 0 (vX0_exprs_0 g j) := by
  unfold vX0_exprs_0
  refine s_aload_n hZ.1 dX0_exprs_0 rfl ?_
  refine s_astore_n hZ.1 dX0_exprs_1 rfl (Nat.le_of_ble_eq_true rfl) ?_
  exact (wX0_exprs_2 hZ hg hd j hj)
noncomputable def vhX0_exprs (g : Nat → List Nat → rx_H → Option (Nat × rx_H)) (j : Nat → rx_K) : List rx_K := [vX0_exprs_2 g j]
theorem vlX0_exprs {dn : Nat} {g : Nat → List Nat → rx_H → Option (Nat × rx_H)} (hZ : zO b e D A X) (hg : ∀ i y M, vl1[i]? = some (y, M) → rx_Met (zV b e D A X) dn y M (g i)) (hd : 3 ≤ dn) : ∀ n k pc, [2][k]? = some pc → rx_OK (zV b e D A X) mX0_exprs (dn + 1) pc (rx_J (vhX0_exprs g) n k) := rx_loop fun j hj k pc h => by
  match k, h with
  | 0, h =>
    have e9 := Option.some.inj (show some 2 = some pc from h)
    subst e9
    exact wX0_exprs_2 hZ hg hd j hj
  | _ + 1, h => exact absurd h (by simp)
noncomputable def FX0_exprs (g : Nat → List Nat → rx_H → Option (Nat × rx_H)) : List Nat → rx_H → Option (Nat × rx_H) := rx_ent 3 (vX0_exprs_0 g (rx_J (vhX0_exprs g) 4000000000))
theorem Met_X0_exprs {dn : Nat} {g : Nat → List Nat → rx_H → Option (Nat × rx_H)} (hZ : zO b e D A X) (hg : ∀ i y M, vl1[i]? = some (y, M) → rx_Met (zV b e D A X) dn y M (g i)) (hd : 3 ≤ dn) : rx_Met (zV b e D A X) (dn + 1) yX0_exprs mX0_exprs (FX0_exprs g) := rx_entry hZ.1 (wX0_exprs_0 hZ hg hd _ (vlX0_exprs hZ hg hd 4000000000)) (by decide +kernel) rfl (fun h => by cases h)
noncomputable def vX0_made_108 (g : Nat → List Nat → rx_H → Option (Nat × rx_H)) : rx_K := o_ret1 rx_isZ
set_option maxRecDepth 20000 in
theorem wX0_made_108 {dn : Nat} {g : Nat → List Nat → rx_H → Option (Nat × rx_H)} (hZ : zO b e D A X) (hg : ∀ i y M, vl1[i]? = some (y, M) → rx_Met (zV b e D A X) dn y M (g i)) (hd : 3 ≤ dn) : rx_OK (zV b e D A X) mX0_made (dn + 1) 108 (vX0_made_108 g) := by
  unfold vX0_made_108
  exact s_zret rx_z_ok rfl dX0_made_108
noncomputable def vX0_made_107 (g : Nat → List Nat → rx_H → Option (Nat × rx_H)) : rx_K := o_const 0 ((vX0_made_108 g))
set_option maxRecDepth 20000 in
theorem wX0_made_107 {dn : Nat} {g : Nat → List Nat → rx_H → Option (Nat × rx_H)} (hZ : zO b e D A X) (hg : ∀ i y M, vl1[i]? = some (y, M) → rx_Met (zV b e D A X) dn y M (g i)) (hd : 3 ≤ dn) : rx_OK (zV b e D A X) mX0_made (dn + 1) 107 (vX0_made_107 g) := by
  unfold vX0_made_107
  refine s_iconst dX0_made_107 (by decide +kernel) ?_
  exact (wX0_made_108 hZ hg hd)
noncomputable def vX0_made_103 (g : Nat → List Nat → rx_H → Option (Nat × rx_H)) : rx_K := o_const 8 ((vX0_made_108 g))
set_option maxRecDepth 20000 in
theorem wX0_made_103 {dn : Nat} {g : Nat → List Nat → rx_H → Option (Nat × rx_H)} (hZ : zO b e D A X) (hg : ∀ i y M, vl1[i]? = some (y, M) → rx_Met (zV b e D A X) dn y M (g i)) (hd : 3 ≤ dn) : rx_OK (zV b e D A X) mX0_made (dn + 1) 103 (vX0_made_103 g) := by
  unfold vX0_made_103
  refine s_iconst dX0_made_103 (by decide +kernel) ?_
  exact s_goto dX0_made_104 (by decide) (wX0_made_108 hZ hg hd)
noncomputable def vX0_made_90 (g : Nat → List Nat → rx_H → Option (Nat × rx_H)) : rx_K := o_ld rx_isR 0 (o_const 144 (o_ld rx_isR 1 (o_getf 8 2 (o_callV 2 0 FX0_fail (o_c1 rx_eq (vX0_made_107 g) (vX0_made_103 g))))))
set_option maxRecDepth 20000 in
theorem wX0_made_90 {dn : Nat} {g : Nat → List Nat → rx_H → Option (Nat × rx_H)} (hZ : zO b e D A X) (hg : ∀ i y M, vl1[i]? = some (y, M) → rx_Met (zV b e D A X) dn y M (g i)) (hd : 3 ≤ dn) : rx_OK (zV b e D A X) mX0_made (dn + 1) 90 (vX0_made_90 g) := by
  unfold vX0_made_90
  refine s_aload_n hZ.1 dX0_made_90 rfl ?_
  refine s_bipush dX0_made_91 (by decide +kernel) ?_
  refine s_aload_n hZ.1 dX0_made_93 rfl ?_
  refine yg8_2 dX0_made_94 zw465 ?_
  refine s_callV hZ.1 (Met_X0_fail hZ) (Nat.succ_le_succ (Nat.le_trans (Nat.le_of_ble_eq_true rfl) hd)) vy_X0_fail zcl0 zw2095 zw65 (Or.inl zw2093) dX0_made_97 ?_
  exact s_if_eq dX0_made_100 (by decide) (wX0_made_107 hZ hg hd) (wX0_made_103 hZ hg hd)
noncomputable def vX0_made_80 (g : Nat → List Nat → rx_H → Option (Nat × rx_H)) : rx_K := o_putf rx_isR 8 11 (o_ld rx_isR 1 (o_getf 8 11 (o_nul (vX0_made_90 g) (vX0_made_103 g))))
set_option maxRecDepth 20000 in
theorem wX0_made_80 {dn : Nat} {g : Nat → List Nat → rx_H → Option (Nat × rx_H)} (hZ : zO b e D A X) (hg : ∀ i y M, vl1[i]? = some (y, M) → rx_Met (zV b e D A X) dn y M (g i)) (hd : 3 ≤ dn) : rx_OK (zV b e D A X) mX0_made (dn + 1) 80 (vX0_made_80 g) := by
  unfold vX0_made_80
  refine yp8_11 hZ.1 dX0_made_80 zw500 ?_
  refine s_aload_n hZ.1 dX0_made_83 rfl ?_
  refine yg8_11 dX0_made_84 zw500 ?_
  exact s_ifnonnull dX0_made_87 (by decide) (wX0_made_103 hZ hg hd) (wX0_made_90 hZ hg hd)
noncomputable def vX0_made_67 (g : Nat → List Nat → rx_H → Option (Nat × rx_H)) : rx_K := o_ld rx_isR 0 (o_ld rx_isI 2 (o_const 147573952589676412897 (o_ld rx_isR 1 (o_getf 8 5 (o_const 8 (o_callV 4 0 FX0_meant ((vX0_made_80 g))))))))
set_option maxRecDepth 20000 in
theorem wX0_made_67 {dn : Nat} {g : Nat → List Nat → rx_H → Option (Nat × rx_H)} (hZ : zO b e D A X) (hg : ∀ i y M, vl1[i]? = some (y, M) → rx_Met (zV b e D A X) dn y M (g i)) (hd : 3 ≤ dn) : rx_OK (zV b e D A X) mX0_made (dn + 1) 67 (vX0_made_67 g) := by
  unfold vX0_made_67
  refine s_aload_n hZ.1 dX0_made_67 rfl ?_
  refine s_iload_n hZ.1 dX0_made_68 rfl ?_
  refine s_ldc2 dX0_made_69 zw2062 (by decide +kernel) ?_
  refine s_aload_n hZ.1 dX0_made_72 rfl ?_
  refine yg8_5 dX0_made_73 zw475 ?_
  refine s_iconst dX0_made_76 (by decide +kernel) ?_
  refine s_callV hZ.1 (Met_X0_meant hZ) (Nat.succ_le_succ (Nat.le_trans (Nat.le_of_ble_eq_true rfl) hd)) vy_X0_meant zcl0 zw2119 zw71 (Or.inl zw2117) dX0_made_77 ?_
  exact (wX0_made_80 hZ hg hd)
noncomputable def vX0_made_63 (g : Nat → List Nat → rx_H → Option (Nat × rx_H)) : rx_K := o_const 3 ((vX0_made_80 g))
set_option maxRecDepth 20000 in
theorem wX0_made_63 {dn : Nat} {g : Nat → List Nat → rx_H → Option (Nat × rx_H)} (hZ : zO b e D A X) (hg : ∀ i y M, vl1[i]? = some (y, M) → rx_Met (zV b e D A X) dn y M (g i)) (hd : 3 ≤ dn) : rx_OK (zV b e D A X) mX0_made (dn + 1) 63 (vX0_made_63 g) := by
  unfold vX0_made_63
  refine s_null dX0_made_63 ?_
  exact s_goto dX0_made_64 (by decide) (wX0_made_80 hZ hg hd)
noncomputable def vX0_made_56 (g : Nat → List Nat → rx_H → Option (Nat × rx_H)) : rx_K := o_ld rx_isR 3 (o_getf 10 6 (o_c1 rx_eq (vX0_made_67 g) (vX0_made_63 g)))
set_option maxRecDepth 20000 in
theorem wX0_made_56 {dn : Nat} {g : Nat → List Nat → rx_H → Option (Nat × rx_H)} (hZ : zO b e D A X) (hg : ∀ i y M, vl1[i]? = some (y, M) → rx_Met (zV b e D A X) dn y M (g i)) (hd : 3 ≤ dn) : rx_OK (zV b e D A X) mX0_made (dn + 1) 56 (vX0_made_56 g) := by
  unfold vX0_made_56
  refine s_aload_n hZ.1 dX0_made_56 rfl ?_
  refine yg10_6 dX0_made_57 zw814 ?_
  exact s_if_eq dX0_made_60 (by decide) (wX0_made_67 hZ hg hd) (wX0_made_63 hZ hg hd)
noncomputable def vX0_made_30 (g : Nat → List Nat → rx_H → Option (Nat × rx_H)) : rx_K := o_ld rx_isR 1 (o_ld rx_isR 1 (o_getf 8 10 (o_putf rx_isL 8 9 (o_ld rx_isR 0 (o_getf 0 0 (o_getf 11 1 (o_ld rx_isI 2 (o_ald 4 (o_st rx_isR 3 (o_ld rx_isR 1 (o_ld rx_isR 3 (o_getf 10 4 (o_c1 rx_eq (vX0_made_56 g) (vX0_made_63 g))))))))))))))
set_option maxRecDepth 20000 in
theorem wX0_made_30 {dn : Nat} {g : Nat → List Nat → rx_H → Option (Nat × rx_H)} (hZ : zO b e D A X) (hg : ∀ i y M, vl1[i]? = some (y, M) → rx_Met (zV b e D A X) dn y M (g i)) (hd : 3 ≤ dn) : rx_OK (zV b e D A X) mX0_made (dn + 1) 30 (vX0_made_30 g) := by
  unfold vX0_made_30
  refine s_aload_n hZ.1 dX0_made_30 rfl ?_
  refine s_aload_n hZ.1 dX0_made_31 rfl ?_
  refine yg8_10 dX0_made_32 zw495 ?_
  refine yp8_9 hZ.1 dX0_made_35 zw492 ?_
  refine s_aload_n hZ.1 dX0_made_38 rfl ?_
  refine yg0_0 dX0_made_39 zw661 ?_
  refine yg11_1 dX0_made_42 zw1257 ?_
  refine s_iload_n hZ.1 dX0_made_45 rfl ?_
  refine s_aald (tt := 4) rfl rfl dX0_made_46 ?_
  refine s_astore_n hZ.1 dX0_made_47 rfl (Nat.le_of_ble_eq_true rfl) ?_
  refine s_aload_n hZ.1 dX0_made_48 rfl ?_
  refine s_aload_n hZ.1 dX0_made_49 rfl ?_
  refine yg10_4 dX0_made_50 zw799 ?_
  exact s_if_ne dX0_made_53 (by decide) (wX0_made_63 hZ hg hd) (wX0_made_56 hZ hg hd)
noncomputable def vX0_made_28 (g : Nat → List Nat → rx_H → Option (Nat × rx_H)) : rx_K := o_const 0 (o_ret1 rx_isZ)
set_option maxRecDepth 20000 in
theorem wX0_made_28 {dn : Nat} {g : Nat → List Nat → rx_H → Option (Nat × rx_H)} (hZ : zO b e D A X) (hg : ∀ i y M, vl1[i]? = some (y, M) → rx_Met (zV b e D A X) dn y M (g i)) (hd : 3 ≤ dn) : rx_OK (zV b e D A X) mX0_made (dn + 1) 28 (vX0_made_28 g) := by
  unfold vX0_made_28
  refine s_iconst dX0_made_28 (by decide +kernel) ?_
  exact s_zret rx_z_ok rfl dX0_made_29
noncomputable def vX0_made_17 (g : Nat → List Nat → rx_H → Option (Nat × rx_H)) : rx_K := o_ld rx_isR 0 (o_ld rx_isR 1 (o_getf 8 5 (o_callV 1 0 (g 4) (o_c1 rx_eq (vX0_made_28 g) (vX0_made_30 g)))))
set_option maxRecDepth 20000 in
theorem wX0_made_17 {dn : Nat} {g : Nat → List Nat → rx_H → Option (Nat × rx_H)} (hZ : zO b e D A X) (hg : ∀ i y M, vl1[i]? = some (y, M) → rx_Met (zV b e D A X) dn y M (g i)) (hd : 3 ≤ dn) : rx_OK (zV b e D A X) mX0_made (dn + 1) 17 (vX0_made_17 g) := by
  unfold vX0_made_17
  refine s_aload_n hZ.1 dX0_made_17 rfl ?_
  refine s_aload_n hZ.1 dX0_made_18 rfl ?_
  refine yg8_5 dX0_made_19 zw475 ?_
  refine s_callV hZ.1 (hg 4 _ _ rfl) (Nat.le_refl _) vy_X0_exprs zcl0 zw2115 zw70 (Or.inl zw2113) dX0_made_22 ?_
  exact s_if_ne dX0_made_25 (by decide) (wX0_made_30 hZ hg hd) (wX0_made_28 hZ hg hd)
noncomputable def vX0_made_0 (g : Nat → List Nat → rx_H → Option (Nat × rx_H)) : rx_K := o_ld rx_isR 0 (o_ld rx_isR 1 (o_getf 8 10 (o_ld rx_isR 1 (o_getf 8 2 (o_callV 2 0 FX0_named (o_st rx_isI 2 (o_ld rx_isI 2 (o_c1 rx_lt (vX0_made_28 g) (vX0_made_17 g)))))))))
set_option maxRecDepth 20000 in
theorem wX0_made_0 {dn : Nat} {g : Nat → List Nat → rx_H → Option (Nat × rx_H)} (hZ : zO b e D A X) (hg : ∀ i y M, vl1[i]? = some (y, M) → rx_Met (zV b e D A X) dn y M (g i)) (hd : 3 ≤ dn) : rx_OK (zV b e D A X) mX0_made (dn + 1) 0 (vX0_made_0 g) := by
  unfold vX0_made_0
  refine s_aload_n hZ.1 dX0_made_0 rfl ?_
  refine s_aload_n hZ.1 dX0_made_1 rfl ?_
  refine yg8_10 dX0_made_2 zw495 ?_
  refine s_aload_n hZ.1 dX0_made_5 rfl ?_
  refine yg8_2 dX0_made_6 zw465 ?_
  refine s_callV hZ.1 (Met_X0_named hZ) (Nat.succ_le_succ (Nat.le_trans (Nat.le_of_ble_eq_true rfl) hd)) vy_X0_named zcl0 zw2138 zw75 (Or.inl zw2136) dX0_made_9 ?_
  refine s_istore_n hZ.1 dX0_made_12 rfl (Nat.le_of_ble_eq_true rfl) ?_
  refine s_iload_n hZ.1 dX0_made_13 rfl ?_
  exact s_if_lt dX0_made_14 (by decide) (wX0_made_28 hZ hg hd) (wX0_made_17 hZ hg hd)
noncomputable def FX0_made (g : Nat → List Nat → rx_H → Option (Nat × rx_H)) : List Nat → rx_H → Option (Nat × rx_H) := rx_ent 4 (vX0_made_0 g)
theorem Met_X0_made {dn : Nat} {g : Nat → List Nat → rx_H → Option (Nat × rx_H)} (hZ : zO b e D A X) (hg : ∀ i y M, vl1[i]? = some (y, M) → rx_Met (zV b e D A X) dn y M (g i)) (hd : 3 ≤ dn) : rx_Met (zV b e D A X) (dn + 1) yX0_made mX0_made (FX0_made g) := rx_entry hZ.1 (wX0_made_0 hZ hg hd) (by decide +kernel) rfl (fun h => by cases h)
end ZM3

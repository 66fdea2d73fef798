section ZM46
variable {b : Nat} {e : Nat → Value} {D : va_G} {A : Nat → ClassId} {X : State → Prop}
noncomputable def vX13_loadAbove_168 (g : Nat → List Nat → rx_H → Option (Nat × rx_H)) (j : Nat → rx_K) : rx_K := o_const 0 (o_ret1 rx_isI)
set_option maxRecDepth 20000 in
theorem wX13_loadAbove_168 {dn : Nat} {g : Nat → List Nat → rx_H → Option (Nat × rx_H)} (hZ : zO b e D A X) (hg : ∀ i y M, vl10[i]? = some (y, M) → rx_Met (zV b e D A X) dn y M (g i)) (hd : 5 ≤ dn) (j : Nat → rx_K) (hj : ∀ k pc, [80][k]? = some pc → rx_OK (zV b e D A X) mX13_loadAbove (dn + 1) pc (j k)) : rx_OK (zV b e D A X) mX13_loadAbove (dn + 1) 168 (vX13_loadAbove_168 g j) := by
  unfold vX13_loadAbove_168
  refine s_iconst dX13_loadAbove_168 (by decide +kernel) ?_
  exact s_iret hZ.1 rfl dX13_loadAbove_169
noncomputable def vX13_loadAbove_162 (g : Nat → List Nat → rx_H → Option (Nat × rx_H)) (j : Nat → rx_K) : rx_K := o_inc 2 (1) ((j 0))
set_option maxRecDepth 20000 in
theorem wX13_loadAbove_162 {dn : Nat} {g : Nat → List Nat → rx_H → Option (Nat × rx_H)} (hZ : zO b e D A X) (hg : ∀ i y M, vl10[i]? = some (y, M) → rx_Met (zV b e D A X) dn y M (g i)) (hd : 5 ≤ dn) (j : Nat → rx_K) (hj : ∀ k pc, [80][k]? = some pc → rx_OK (zV b e D A X) mX13_loadAbove (dn + 1) pc (j k)) : rx_OK (zV b e D A X) mX13_loadAbove (dn + 1) 162 (vX13_loadAbove_162 g j) := by
  unfold vX13_loadAbove_162
  refine s_iinc hZ.1 dX13_loadAbove_162 (Nat.le_of_ble_eq_true rfl) ?_
  exact s_goto dX13_loadAbove_165 (by decide) (hj 0 80 rfl)
noncomputable def vX13_loadAbove_160 (g : Nat → List Nat → rx_H → Option (Nat × rx_H)) (j : Nat → rx_K) : rx_K := o_const 24 (o_ret1 rx_isI)
set_option maxRecDepth 20000 in
theorem wX13_loadAbove_160 {dn : Nat} {g : Nat → List Nat → rx_H → Option (Nat × rx_H)} (hZ : zO b e D A X) (hg : ∀ i y M, vl10[i]? = some (y, M) → rx_Met (zV b e D A X) dn y M (g i)) (hd : 5 ≤ dn) (j : Nat → rx_K) (hj : ∀ k pc, [80][k]? = some pc → rx_OK (zV b e D A X) mX13_loadAbove (dn + 1) pc (j k)) : rx_OK (zV b e D A X) mX13_loadAbove (dn + 1) 160 (vX13_loadAbove_160 g j) := by
  unfold vX13_loadAbove_160
  refine s_iconst dX13_loadAbove_160 (by decide +kernel) ?_
  exact s_iret hZ.1 rfl dX13_loadAbove_161
noncomputable def vX13_loadAbove_151 (g : Nat → List Nat → rx_H → Option (Nat × rx_H)) (j : Nat → rx_K) : rx_K := o_ld rx_isR 0 (o_ld rx_isI 3 (o_ld rx_isI 1 (o_callV 2 13 FX13_letsBelow (o_c1 rx_eq (vX13_loadAbove_160 g j) (vX13_loadAbove_162 g j)))))
set_option maxRecDepth 20000 in
theorem wX13_loadAbove_151 {dn : Nat} {g : Nat → List Nat → rx_H → Option (Nat × rx_H)} (hZ : zO b e D A X) (hg : ∀ i y M, vl10[i]? = some (y, M) → rx_Met (zV b e D A X) dn y M (g i)) (hd : 5 ≤ dn) (j : Nat → rx_K) (hj : ∀ k pc, [80][k]? = some pc → rx_OK (zV b e D A X) mX13_loadAbove (dn + 1) pc (j k)) : rx_OK (zV b e D A X) mX13_loadAbove (dn + 1) 151 (vX13_loadAbove_151 g j) := by
  unfold vX13_loadAbove_151
  refine s_aload_n hZ.1 dX13_loadAbove_151 rfl ?_
  refine s_iload_n hZ.1 dX13_loadAbove_152 rfl ?_
  refine s_iload_n hZ.1 dX13_loadAbove_153 rfl ?_
  refine s_callV hZ.1 (Met_X13_letsBelow hZ) (Nat.succ_le_succ (Nat.le_trans (Nat.le_of_ble_eq_true rfl) hd)) vy_X13_letsBelow zcl13 zw3196 zw228 (Or.inl zw3194) dX13_loadAbove_154 ?_
  exact s_if_ne dX13_loadAbove_157 (by decide) (wX13_loadAbove_162 hZ hg hd j hj) (wX13_loadAbove_160 hZ hg hd j hj)
noncomputable def vX13_loadAbove_149 (g : Nat → List Nat → rx_H → Option (Nat × rx_H)) (j : Nat → rx_K) : rx_K := o_const 16 (o_ret1 rx_isI)
set_option maxRecDepth 20000 in
theorem wX13_loadAbove_149 {dn : Nat} {g : Nat → List Nat → rx_H → Option (Nat × rx_H)} (hZ : zO b e D A X) (hg : ∀ i y M, vl10[i]? = some (y, M) → rx_Met (zV b e D A X) dn y M (g i)) (hd : 5 ≤ dn) (j : Nat → rx_K) (hj : ∀ k pc, [80][k]? = some pc → rx_OK (zV b e D A X) mX13_loadAbove (dn + 1) pc (j k)) : rx_OK (zV b e D A X) mX13_loadAbove (dn + 1) 149 (vX13_loadAbove_149 g j) := by
  unfold vX13_loadAbove_149
  refine s_iconst dX13_loadAbove_149 (by decide +kernel) ?_
  exact s_iret hZ.1 rfl dX13_loadAbove_150
noncomputable def vX13_loadAbove_140 (g : Nat → List Nat → rx_H → Option (Nat × rx_H)) (j : Nat → rx_K) : rx_K := o_ld rx_isR 0 (o_ld rx_isI 3 (o_ld rx_isI 1 (o_callV 2 13 FX13_isLet (o_c1 rx_eq (vX13_loadAbove_149 g j) (vX13_loadAbove_151 g j)))))
set_option maxRecDepth 20000 in
theorem wX13_loadAbove_140 {dn : Nat} {g : Nat → List Nat → rx_H → Option (Nat × rx_H)} (hZ : zO b e D A X) (hg : ∀ i y M, vl10[i]? = some (y, M) → rx_Met (zV b e D A X) dn y M (g i)) (hd : 5 ≤ dn) (j : Nat → rx_K) (hj : ∀ k pc, [80][k]? = some pc → rx_OK (zV b e D A X) mX13_loadAbove (dn + 1) pc (j k)) : rx_OK (zV b e D A X) mX13_loadAbove (dn + 1) 140 (vX13_loadAbove_140 g j) := by
  unfold vX13_loadAbove_140
  refine s_aload_n hZ.1 dX13_loadAbove_140 rfl ?_
  refine s_iload_n hZ.1 dX13_loadAbove_141 rfl ?_
  refine s_iload_n hZ.1 dX13_loadAbove_142 rfl ?_
  refine s_callV hZ.1 (Met_X13_isLet hZ) (Nat.succ_le_succ (Nat.le_trans (Nat.le_of_ble_eq_true rfl) hd)) vy_X13_isLet zcl13 zw3200 zw229 (Or.inl zw3198) dX13_loadAbove_143 ?_
  exact s_if_ne dX13_loadAbove_146 (by decide) (wX13_loadAbove_151 hZ hg hd j hj) (wX13_loadAbove_149 hZ hg hd j hj)
noncomputable def vX13_loadAbove_138 (g : Nat → List Nat → rx_H → Option (Nat × rx_H)) (j : Nat → rx_K) : rx_K := o_const 24 (o_ret1 rx_isI)
set_option maxRecDepth 20000 in
theorem wX13_loadAbove_138 {dn : Nat} {g : Nat → List Nat → rx_H → Option (Nat × rx_H)} (hZ : zO b e D A X) (hg : ∀ i y M, vl10[i]? = some (y, M) → rx_Met (zV b e D A X) dn y M (g i)) (hd : 5 ≤ dn) (j : Nat → rx_K) (hj : ∀ k pc, [80][k]? = some pc → rx_OK (zV b e D A X) mX13_loadAbove (dn + 1) pc (j k)) : rx_OK (zV b e D A X) mX13_loadAbove (dn + 1) 138 (vX13_loadAbove_138 g j) := by
  unfold vX13_loadAbove_138
  refine s_iconst dX13_loadAbove_138 (by decide +kernel) ?_
  exact s_iret hZ.1 rfl dX13_loadAbove_139
noncomputable def vX13_loadAbove_130 (g : Nat → List Nat → rx_H → Option (Nat × rx_H)) (j : Nat → rx_K) : rx_K := o_ld rx_isR 0 (o_ld rx_isI 3 (o_callV 1 13 FX13_isFace (o_c1 rx_eq (vX13_loadAbove_138 g j) (vX13_loadAbove_140 g j))))
set_option maxRecDepth 20000 in
theorem wX13_loadAbove_130 {dn : Nat} {g : Nat → List Nat → rx_H → Option (Nat × rx_H)} (hZ : zO b e D A X) (hg : ∀ i y M, vl10[i]? = some (y, M) → rx_Met (zV b e D A X) dn y M (g i)) (hd : 5 ≤ dn) (j : Nat → rx_K) (hj : ∀ k pc, [80][k]? = some pc → rx_OK (zV b e D A X) mX13_loadAbove (dn + 1) pc (j k)) : rx_OK (zV b e D A X) mX13_loadAbove (dn + 1) 130 (vX13_loadAbove_130 g j) := by
  unfold vX13_loadAbove_130
  refine s_aload_n hZ.1 dX13_loadAbove_130 rfl ?_
  refine s_iload_n hZ.1 dX13_loadAbove_131 rfl ?_
  refine s_callV hZ.1 (Met_X13_isFace hZ) (Nat.succ_le_succ (Nat.le_trans (Nat.le_of_ble_eq_true rfl) hd)) vy_X13_isFace zcl13 zw3192 zw227 (Or.inl zw3190) dX13_loadAbove_132 ?_
  exact s_if_ne dX13_loadAbove_135 (by decide) (wX13_loadAbove_140 hZ hg hd j hj) (wX13_loadAbove_138 hZ hg hd j hj)
noncomputable def vX13_loadAbove_127 (g : Nat → List Nat → rx_H → Option (Nat × rx_H)) (j : Nat → rx_K) : rx_K := o_ld rx_isI 4 (o_ret1 rx_isI)
set_option maxRecDepth 20000 in
theorem wX13_loadAbove_127 {dn : Nat} {g : Nat → List Nat → rx_H → Option (Nat × rx_H)} (hZ : zO b e D A X) (hg : ∀ i y M, vl10[i]? = some (y, M) → rx_Met (zV b e D A X) dn y M (g i)) (hd : 5 ≤ dn) (j : Nat → rx_K) (hj : ∀ k pc, [80][k]? = some pc → rx_OK (zV b e D A X) mX13_loadAbove (dn + 1) pc (j k)) : rx_OK (zV b e D A X) mX13_loadAbove (dn + 1) 127 (vX13_loadAbove_127 g j) := by
  unfold vX13_loadAbove_127
  refine s_iload hZ.1 dX13_loadAbove_127 ?_
  exact s_iret hZ.1 rfl dX13_loadAbove_129
noncomputable def vX13_loadAbove_120 (g : Nat → List Nat → rx_H → Option (Nat × rx_H)) (j : Nat → rx_K) : rx_K := o_st rx_isI 4 (o_ld rx_isI 4 (o_c1 rx_eq (vX13_loadAbove_130 g j) (vX13_loadAbove_127 g j)))
set_option maxRecDepth 20000 in
theorem wX13_loadAbove_120 {dn : Nat} {g : Nat → List Nat → rx_H → Option (Nat × rx_H)} (hZ : zO b e D A X) (hg : ∀ i y M, vl10[i]? = some (y, M) → rx_Met (zV b e D A X) dn y M (g i)) (hd : 5 ≤ dn) (j : Nat → rx_K) (hj : ∀ k pc, [80][k]? = some pc → rx_OK (zV b e D A X) mX13_loadAbove (dn + 1) pc (j k)) : rx_OK (zV b e D A X) mX13_loadAbove (dn + 1) 120 (vX13_loadAbove_120 g j) := by
  unfold vX13_loadAbove_120
  refine s_istore hZ.1 dX13_loadAbove_120 (Nat.le_of_ble_eq_true rfl) ?_
  refine s_iload hZ.1 dX13_loadAbove_122 ?_
  exact s_if_eq dX13_loadAbove_124 (by decide) (wX13_loadAbove_130 hZ hg hd j hj) (wX13_loadAbove_127 hZ hg hd j hj)
noncomputable def vX13_loadAbove_115 (g : Nat → List Nat → rx_H → Option (Nat × rx_H)) (j : Nat → rx_K) : rx_K := o_ld rx_isR 0 (o_ld rx_isI 3 (o_callV 1 13 (g 0) ((vX13_loadAbove_120 g j))))
set_option maxRecDepth 20000 in
theorem wX13_loadAbove_115 {dn : Nat} {g : Nat → List Nat → rx_H → Option (Nat × rx_H)} (hZ : zO b e D A X) (hg : ∀ i y M, vl10[i]? = some (y, M) → rx_Met (zV b e D A X) dn y M (g i)) (hd : 5 ≤ dn) (j : Nat → rx_K) (hj : ∀ k pc, [80][k]? = some pc → rx_OK (zV b e D A X) mX13_loadAbove (dn + 1) pc (j k)) : rx_OK (zV b e D A X) mX13_loadAbove (dn + 1) 115 (vX13_loadAbove_115 g j) := by
  unfold vX13_loadAbove_115
  refine s_aload_n hZ.1 dX13_loadAbove_115 rfl ?_
  refine s_iload_n hZ.1 dX13_loadAbove_116 rfl ?_
  refine s_callV hZ.1 (hg 0 _ _ rfl) (Nat.le_refl _) vy_X13_load zcl13 zw3367 zw267 (Or.inl zw3365) dX13_loadAbove_117 ?_
  exact (wX13_loadAbove_120 hZ hg hd j hj)
noncomputable def vX13_loadAbove_111 (g : Nat → List Nat → rx_H → Option (Nat × rx_H)) (j : Nat → rx_K) : rx_K := o_const 8 ((vX13_loadAbove_120 g j))
set_option maxRecDepth 20000 in
theorem wX13_loadAbove_111 {dn : Nat} {g : Nat → List Nat → rx_H → Option (Nat × rx_H)} (hZ : zO b e D A X) (hg : ∀ i y M, vl10[i]? = some (y, M) → rx_Met (zV b e D A X) dn y M (g i)) (hd : 5 ≤ dn) (j : Nat → rx_K) (hj : ∀ k pc, [80][k]? = some pc → rx_OK (zV b e D A X) mX13_loadAbove (dn + 1) pc (j k)) : rx_OK (zV b e D A X) mX13_loadAbove (dn + 1) 111 (vX13_loadAbove_111 g j) := by
  unfold vX13_loadAbove_111
  refine s_iconst dX13_loadAbove_111 (by decide +kernel) ?_
  exact s_goto dX13_loadAbove_112 (by decide) (wX13_loadAbove_120 hZ hg hd j hj)
noncomputable def vX13_loadAbove_90 (g : Nat → List Nat → rx_H → Option (Nat × rx_H)) (j : Nat → rx_K) : rx_K := o_ld rx_isR 0 (o_ld rx_isR 0 (o_getf 13 30 (o_const 32 (o_ld rx_isI 1 (o_bi (fun x y => x * y) (o_ld rx_isI 2 (o_bi (fun x y => x + y) (o_ald 1 (o_callV 1 13 FX13_find (o_st rx_isI 3 (o_ld rx_isI 3 (o_const 34359738352 (o_c2 rx_eq (vX13_loadAbove_111 g j) (vX13_loadAbove_115 g j))))))))))))))
set_option maxRecDepth 20000 in
theorem wX13_loadAbove_90 {dn : Nat} {g : Nat → List Nat → rx_H → Option (Nat × rx_H)} (hZ : zO b e D A X) (hg : ∀ i y M, vl10[i]? = some (y, M) → rx_Met (zV b e D A X) dn y M (g i)) (hd : 5 ≤ dn) (j : Nat → rx_K) (hj : ∀ k pc, [80][k]? = some pc → rx_OK (zV b e D A X) mX13_loadAbove (dn + 1) pc (j k)) : rx_OK (zV b e D A X) mX13_loadAbove (dn + 1) 90 (vX13_loadAbove_90 g j) := by
  unfold vX13_loadAbove_90
  refine s_aload_n hZ.1 dX13_loadAbove_90 rfl ?_
  refine s_aload_n hZ.1 dX13_loadAbove_91 rfl ?_
  refine yg13_30 dX13_loadAbove_92 zw4151 ?_
  refine s_iconst dX13_loadAbove_95 (by decide +kernel) ?_
  refine s_iload_n hZ.1 dX13_loadAbove_96 rfl ?_
  refine s_imul dX13_loadAbove_97 ?_
  refine s_iload_n hZ.1 dX13_loadAbove_98 rfl ?_
  refine s_iadd dX13_loadAbove_99 ?_
  refine s_lald (tt := 1) rfl dX13_loadAbove_100 ?_
  refine s_callV hZ.1 (Met_X13_find hZ) (Nat.succ_le_succ (Nat.le_trans (Nat.le_of_ble_eq_true rfl) hd)) vy_X13_find zcl13 zw3186 zw226 (Or.inl zw3184) dX13_loadAbove_101 ?_
  refine s_istore_n hZ.1 dX13_loadAbove_104 rfl (Nat.le_of_ble_eq_true rfl) ?_
  refine s_iload_n hZ.1 dX13_loadAbove_105 rfl ?_
  refine s_bipush dX13_loadAbove_106 (by decide +kernel) ?_
  exact s_icmp_ne dX13_loadAbove_108 (by decide) (wX13_loadAbove_115 hZ hg hd j hj) (wX13_loadAbove_111 hZ hg hd j hj)
noncomputable def vX13_loadAbove_80 (g : Nat → List Nat → rx_H → Option (Nat × rx_H)) (j : Nat → rx_K) : rx_K := o_ld rx_isI 2 (o_ld rx_isR 0 (o_getf 13 32 (o_ld rx_isI 1 (o_ald 0 (o_c2 rx_lt (vX13_loadAbove_90 g j) (vX13_loadAbove_168 g j))))))
set_option maxRecDepth 20000 in
theorem wX13_loadAbove_80 {dn : Nat} {g : Nat → List Nat → rx_H → Option (Nat × rx_H)} (hZ : zO b e D A X) (hg : ∀ i y M, vl10[i]? = some (y, M) → rx_Met (zV b e D A X) dn y M (g i)) (hd : 5 ≤ dn) (j : Nat → rx_K) (hj : ∀ k pc, [80][k]? = some pc → rx_OK (zV b e D A X) mX13_loadAbove (dn + 1) pc (j k)) : rx_OK (zV b e D A X) mX13_loadAbove (dn + 1) 80 (vX13_loadAbove_80 g j) := by
  unfold vX13_loadAbove_80
  refine s_iload_n hZ.1 dX13_loadAbove_80 rfl ?_
  refine s_aload_n hZ.1 dX13_loadAbove_81 rfl ?_
  refine yg13_32 dX13_loadAbove_82 zw4153 ?_
  refine s_iload_n hZ.1 dX13_loadAbove_85 rfl ?_
  refine s_iald (tt := 0) rfl dX13_loadAbove_86 ?_
  exact s_icmp_ge dX13_loadAbove_87 (by decide) (wX13_loadAbove_168 hZ hg hd j hj) (wX13_loadAbove_90 hZ hg hd j hj)
noncomputable def vX13_loadAbove_78 (g : Nat → List Nat → rx_H → Option (Nat × rx_H)) (j : Nat → rx_K) : rx_K := o_const 0 (o_st rx_isI 2 ((vX13_loadAbove_80 g j)))
set_option maxRecDepth 20000 in
theorem wX13_loadAbove_78 {dn : Nat} {g : Nat → List Nat → rx_H → Option (Nat × rx_H)} (hZ : zO b e D A X) (hg : ∀ i y M, vl10[i]? = some (y, M) → rx_Met (zV b e D A X) dn y M (g i)) (hd : 5 ≤ dn) (j : Nat → rx_K) (hj : ∀ k pc, [80][k]? = some pc → rx_OK (zV b e D A X) mX13_loadAbove (dn + 1) pc (j k)) : rx_OK (zV b e D A X) mX13_loadAbove (dn + 1) 78 (vX13_loadAbove_78 g j) := by
  unfold vX13_loadAbove_78
  refine s_iconst dX13_loadAbove_78 (by decide +kernel) ?_
  refine s_istore_n hZ.1 dX13_loadAbove_79 rfl (Nat.le_of_ble_eq_true rfl) ?_
  exact (wX13_loadAbove_80 hZ hg hd j hj)
noncomputable def vX13_loadAbove_76 (g : Nat → List Nat → rx_H → Option (Nat × rx_H)) (j : Nat → rx_K) : rx_K := o_const 24 (o_ret1 rx_isI)
set_option maxRecDepth 20000 in
theorem wX13_loadAbove_76 {dn : Nat} {g : Nat → List Nat → rx_H → Option (Nat × rx_H)} (hZ : zO b e D A X) (hg : ∀ i y M, vl10[i]? = some (y, M) → rx_Met (zV b e D A X) dn y M (g i)) (hd : 5 ≤ dn) (j : Nat → rx_K) (hj : ∀ k pc, [80][k]? = some pc → rx_OK (zV b e D A X) mX13_loadAbove (dn + 1) pc (j k)) : rx_OK (zV b e D A X) mX13_loadAbove (dn + 1) 76 (vX13_loadAbove_76 g j) := by
  unfold vX13_loadAbove_76
  refine s_iconst dX13_loadAbove_76 (by decide +kernel) ?_
  exact s_iret hZ.1 rfl dX13_loadAbove_77
noncomputable def vX13_loadAbove_67 (g : Nat → List Nat → rx_H → Option (Nat × rx_H)) (j : Nat → rx_K) : rx_K := o_ld rx_isR 0 (o_ld rx_isI 2 (o_ld rx_isI 1 (o_callV 2 13 FX13_letsBelow (o_c1 rx_eq (vX13_loadAbove_76 g j) (vX13_loadAbove_78 g j)))))
set_option maxRecDepth 20000 in
theorem wX13_loadAbove_67 {dn : Nat} {g : Nat → List Nat → rx_H → Option (Nat × rx_H)} (hZ : zO b e D A X) (hg : ∀ i y M, vl10[i]? = some (y, M) → rx_Met (zV b e D A X) dn y M (g i)) (hd : 5 ≤ dn) (j : Nat → rx_K) (hj : ∀ k pc, [80][k]? = some pc → rx_OK (zV b e D A X) mX13_loadAbove (dn + 1) pc (j k)) : rx_OK (zV b e D A X) mX13_loadAbove (dn + 1) 67 (vX13_loadAbove_67 g j) := by
  unfold vX13_loadAbove_67
  refine s_aload_n hZ.1 dX13_loadAbove_67 rfl ?_
  refine s_iload_n hZ.1 dX13_loadAbove_68 rfl ?_
  refine s_iload_n hZ.1 dX13_loadAbove_69 rfl ?_
  refine s_callV hZ.1 (Met_X13_letsBelow hZ) (Nat.succ_le_succ (Nat.le_trans (Nat.le_of_ble_eq_true rfl) hd)) vy_X13_letsBelow zcl13 zw3196 zw228 (Or.inl zw3194) dX13_loadAbove_70 ?_
  exact s_if_ne dX13_loadAbove_73 (by decide) (wX13_loadAbove_78 hZ hg hd j hj) (wX13_loadAbove_76 hZ hg hd j hj)
noncomputable def vX13_loadAbove_57 (g : Nat → List Nat → rx_H → Option (Nat × rx_H)) (j : Nat → rx_K) : rx_K := o_ld rx_isR 0 (o_getf 13 27 (o_ld rx_isI 2 (o_ald 0 (o_const 8 (o_c2 rx_eq (vX13_loadAbove_76 g j) (vX13_loadAbove_67 g j))))))
set_option maxRecDepth 20000 in
theorem wX13_loadAbove_57 {dn : Nat} {g : Nat → List Nat → rx_H → Option (Nat × rx_H)} (hZ : zO b e D A X) (hg : ∀ i y M, vl10[i]? = some (y, M) → rx_Met (zV b e D A X) dn y M (g i)) (hd : 5 ≤ dn) (j : Nat → rx_K) (hj : ∀ k pc, [80][k]? = some pc → rx_OK (zV b e D A X) mX13_loadAbove (dn + 1) pc (j k)) : rx_OK (zV b e D A X) mX13_loadAbove (dn + 1) 57 (vX13_loadAbove_57 g j) := by
  unfold vX13_loadAbove_57
  refine s_aload_n hZ.1 dX13_loadAbove_57 rfl ?_
  refine yg13_27 dX13_loadAbove_58 zw4148 ?_
  refine s_iload_n hZ.1 dX13_loadAbove_61 rfl ?_
  refine s_iald (tt := 0) rfl dX13_loadAbove_62 ?_
  refine s_iconst dX13_loadAbove_63 (by decide +kernel) ?_
  exact s_icmp_eq dX13_loadAbove_64 (by decide) (wX13_loadAbove_76 hZ hg hd j hj) (wX13_loadAbove_67 hZ hg hd j hj)
noncomputable def vX13_loadAbove_55 (g : Nat → List Nat → rx_H → Option (Nat × rx_H)) (j : Nat → rx_K) : rx_K := o_const 16 (o_ret1 rx_isI)
set_option maxRecDepth 20000 in
theorem wX13_loadAbove_55 {dn : Nat} {g : Nat → List Nat → rx_H → Option (Nat × rx_H)} (hZ : zO b e D A X) (hg : ∀ i y M, vl10[i]? = some (y, M) → rx_Met (zV b e D A X) dn y M (g i)) (hd : 5 ≤ dn) (j : Nat → rx_K) (hj : ∀ k pc, [80][k]? = some pc → rx_OK (zV b e D A X) mX13_loadAbove (dn + 1) pc (j k)) : rx_OK (zV b e D A X) mX13_loadAbove (dn + 1) 55 (vX13_loadAbove_55 g j) := by
  unfold vX13_loadAbove_55
  refine s_iconst dX13_loadAbove_55 (by decide +kernel) ?_
  exact s_iret hZ.1 rfl dX13_loadAbove_56
noncomputable def vX13_loadAbove_46 (g : Nat → List Nat → rx_H → Option (Nat × rx_H)) (j : Nat → rx_K) : rx_K := o_ld rx_isR 0 (o_ld rx_isI 2 (o_ld rx_isI 1 (o_callV 2 13 FX13_isLet (o_c1 rx_eq (vX13_loadAbove_55 g j) (vX13_loadAbove_57 g j)))))
set_option maxRecDepth 20000 in
theorem wX13_loadAbove_46 {dn : Nat} {g : Nat → List Nat → rx_H → Option (Nat × rx_H)} (hZ : zO b e D A X) (hg : ∀ i y M, vl10[i]? = some (y, M) → rx_Met (zV b e D A X) dn y M (g i)) (hd : 5 ≤ dn) (j : Nat → rx_K) (hj : ∀ k pc, [80][k]? = some pc → rx_OK (zV b e D A X) mX13_loadAbove (dn + 1) pc (j k)) : rx_OK (zV b e D A X) mX13_loadAbove (dn + 1) 46 (vX13_loadAbove_46 g j) := by
  unfold vX13_loadAbove_46
  refine s_aload_n hZ.1 dX13_loadAbove_46 rfl ?_
  refine s_iload_n hZ.1 dX13_loadAbove_47 rfl ?_
  refine s_iload_n hZ.1 dX13_loadAbove_48 rfl ?_
  refine s_callV hZ.1 (Met_X13_isLet hZ) (Nat.succ_le_succ (Nat.le_trans (Nat.le_of_ble_eq_true rfl) hd)) vy_X13_isLet zcl13 zw3200 zw229 (Or.inl zw3198) dX13_loadAbove_49 ?_
  exact s_if_ne dX13_loadAbove_52 (by decide) (wX13_loadAbove_57 hZ hg hd j hj) (wX13_loadAbove_55 hZ hg hd j hj)
noncomputable def vX13_loadAbove_44 (g : Nat → List Nat → rx_H → Option (Nat × rx_H)) (j : Nat → rx_K) : rx_K := o_const 24 (o_ret1 rx_isI)
set_option maxRecDepth 20000 in
theorem wX13_loadAbove_44 {dn : Nat} {g : Nat → List Nat → rx_H → Option (Nat × rx_H)} (hZ : zO b e D A X) (hg : ∀ i y M, vl10[i]? = some (y, M) → rx_Met (zV b e D A X) dn y M (g i)) (hd : 5 ≤ dn) (j : Nat → rx_K) (hj : ∀ k pc, [80][k]? = some pc → rx_OK (zV b e D A X) mX13_loadAbove (dn + 1) pc (j k)) : rx_OK (zV b e D A X) mX13_loadAbove (dn + 1) 44 (vX13_loadAbove_44 g j) := by
  unfold vX13_loadAbove_44
  refine s_iconst dX13_loadAbove_44 (by decide +kernel) ?_
  exact s_iret hZ.1 rfl dX13_loadAbove_45
noncomputable def vX13_loadAbove_36 (g : Nat → List Nat → rx_H → Option (Nat × rx_H)) (j : Nat → rx_K) : rx_K := o_ld rx_isR 0 (o_ld rx_isI 2 (o_callV 1 13 FX13_isFace (o_c1 rx_eq (vX13_loadAbove_46 g j) (vX13_loadAbove_44 g j))))
set_option maxRecDepth 20000 in
theorem wX13_loadAbove_36 {dn : Nat} {g : Nat → List Nat → rx_H → Option (Nat × rx_H)} (hZ : zO b e D A X) (hg : ∀ i y M, vl10[i]? = some (y, M) → rx_Met (zV b e D A X) dn y M (g i)) (hd : 5 ≤ dn) (j : Nat → rx_K) (hj : ∀ k pc, [80][k]? = some pc → rx_OK (zV b e D A X) mX13_loadAbove (dn + 1) pc (j k)) : rx_OK (zV b e D A X) mX13_loadAbove (dn + 1) 36 (vX13_loadAbove_36 g j) := by
  unfold vX13_loadAbove_36
  refine s_aload_n hZ.1 dX13_loadAbove_36 rfl ?_
  refine s_iload_n hZ.1 dX13_loadAbove_37 rfl ?_
  refine s_callV hZ.1 (Met_X13_isFace hZ) (Nat.succ_le_succ (Nat.le_trans (Nat.le_of_ble_eq_true rfl) hd)) vy_X13_isFace zcl13 zw3192 zw227 (Or.inl zw3190) dX13_loadAbove_38 ?_
  exact s_if_eq dX13_loadAbove_41 (by decide) (wX13_loadAbove_46 hZ hg hd j hj) (wX13_loadAbove_44 hZ hg hd j hj)
noncomputable def vX13_loadAbove_34 (g : Nat → List Nat → rx_H → Option (Nat × rx_H)) (j : Nat → rx_K) : rx_K := o_ld rx_isI 3 (o_ret1 rx_isI)
set_option maxRecDepth 20000 in
theorem wX13_loadAbove_34 {dn : Nat} {g : Nat → List Nat → rx_H → Option (Nat × rx_H)} (hZ : zO b e D A X) (hg : ∀ i y M, vl10[i]? = some (y, M) → rx_Met (zV b e D A X) dn y M (g i)) (hd : 5 ≤ dn) (j : Nat → rx_K) (hj : ∀ k pc, [80][k]? = some pc → rx_OK (zV b e D A X) mX13_loadAbove (dn + 1) pc (j k)) : rx_OK (zV b e D A X) mX13_loadAbove (dn + 1) 34 (vX13_loadAbove_34 g j) := by
  unfold vX13_loadAbove_34
  refine s_iload_n hZ.1 dX13_loadAbove_34 rfl ?_
  exact s_iret hZ.1 rfl dX13_loadAbove_35
noncomputable def vX13_loadAbove_29 (g : Nat → List Nat → rx_H → Option (Nat × rx_H)) (j : Nat → rx_K) : rx_K := o_st rx_isI 3 (o_ld rx_isI 3 (o_c1 rx_eq (vX13_loadAbove_36 g j) (vX13_loadAbove_34 g j)))
set_option maxRecDepth 20000 in
theorem wX13_loadAbove_29 {dn : Nat} {g : Nat → List Nat → rx_H → Option (Nat × rx_H)} (hZ : zO b e D A X) (hg : ∀ i y M, vl10[i]? = some (y, M) → rx_Met (zV b e D A X) dn y M (g i)) (hd : 5 ≤ dn) (j : Nat → rx_K) (hj : ∀ k pc, [80][k]? = some pc → rx_OK (zV b e D A X) mX13_loadAbove (dn + 1) pc (j k)) : rx_OK (zV b e D A X) mX13_loadAbove (dn + 1) 29 (vX13_loadAbove_29 g j) := by
  unfold vX13_loadAbove_29
  refine s_istore_n hZ.1 dX13_loadAbove_29 rfl (Nat.le_of_ble_eq_true rfl) ?_
  refine s_iload_n hZ.1 dX13_loadAbove_30 rfl ?_
  exact s_if_eq dX13_loadAbove_31 (by decide) (wX13_loadAbove_36 hZ hg hd j hj) (wX13_loadAbove_34 hZ hg hd j hj)
noncomputable def vX13_loadAbove_24 (g : Nat → List Nat → rx_H → Option (Nat × rx_H)) (j : Nat → rx_K) : rx_K := o_ld rx_isR 0 (o_ld rx_isI 2 (o_callV 1 13 (g 0) ((vX13_loadAbove_29 g j))))
set_option maxRecDepth 20000 in
theorem wX13_loadAbove_24 {dn : Nat} {g : Nat → List Nat → rx_H → Option (Nat × rx_H)} (hZ : zO b e D A X) (hg : ∀ i y M, vl10[i]? = some (y, M) → rx_Met (zV b e D A X) dn y M (g i)) (hd : 5 ≤ dn) (j : Nat → rx_K) (hj : ∀ k pc, [80][k]? = some pc → rx_OK (zV b e D A X) mX13_loadAbove (dn + 1) pc (j k)) : rx_OK (zV b e D A X) mX13_loadAbove (dn + 1) 24 (vX13_loadAbove_24 g j) := by
  unfold vX13_loadAbove_24
  refine s_aload_n hZ.1 dX13_loadAbove_24 rfl ?_
  refine s_iload_n hZ.1 dX13_loadAbove_25 rfl ?_
  refine s_callV hZ.1 (hg 0 _ _ rfl) (Nat.le_refl _) vy_X13_load zcl13 zw3367 zw267 (Or.inl zw3365) dX13_loadAbove_26 ?_
  exact (wX13_loadAbove_29 hZ hg hd j hj)
noncomputable def vX13_loadAbove_20 (g : Nat → List Nat → rx_H → Option (Nat × rx_H)) (j : Nat → rx_K) : rx_K := o_const 8 ((vX13_loadAbove_29 g j))
set_option maxRecDepth 20000 in
theorem wX13_loadAbove_20 {dn : Nat} {g : Nat → List Nat → rx_H → Option (Nat × rx_H)} (hZ : zO b e D A X) (hg : ∀ i y M, vl10[i]? = some (y, M) → rx_Met (zV b e D A X) dn y M (g i)) (hd : 5 ≤ dn) (j : Nat → rx_K) (hj : ∀ k pc, [80][k]? = some pc → rx_OK (zV b e D A X) mX13_loadAbove (dn + 1) pc (j k)) : rx_OK (zV b e D A X) mX13_loadAbove (dn + 1) 20 (vX13_loadAbove_20 g j) := by
  unfold vX13_loadAbove_20
  refine s_iconst dX13_loadAbove_20 (by decide +kernel) ?_
  exact s_goto dX13_loadAbove_21 (by decide) (wX13_loadAbove_29 hZ hg hd j hj)
noncomputable def vX13_loadAbove_8 (g : Nat → List Nat → rx_H → Option (Nat × rx_H)) (j : Nat → rx_K) : rx_K := o_ld rx_isR 0 (o_ld rx_isI 1 (o_callV 1 13 FX13_parent (o_st rx_isI 2 (o_ld rx_isI 2 (o_const 34359738352 (o_c2 rx_eq (vX13_loadAbove_20 g j) (vX13_loadAbove_24 g j)))))))
set_option maxRecDepth 20000 in
theorem wX13_loadAbove_8 {dn : Nat} {g : Nat → List Nat → rx_H → Option (Nat × rx_H)} (hZ : zO b e D A X) (hg : ∀ i y M, vl10[i]? = some (y, M) → rx_Met (zV b e D A X) dn y M (g i)) (hd : 5 ≤ dn) (j : Nat → rx_K) (hj : ∀ k pc, [80][k]? = some pc → rx_OK (zV b e D A X) mX13_loadAbove (dn + 1) pc (j k)) : rx_OK (zV b e D A X) mX13_loadAbove (dn + 1) 8 (vX13_loadAbove_8 g j) := by
  unfold vX13_loadAbove_8
  refine s_aload_n hZ.1 dX13_loadAbove_8 rfl ?_
  refine s_iload_n hZ.1 dX13_loadAbove_9 rfl ?_
  refine s_callV hZ.1 (Met_X13_parent hZ) (Nat.succ_le_succ (Nat.le_trans (Nat.le_of_ble_eq_true rfl) hd)) vy_X13_parent zcl13 zw3220 zw233 (Or.inl zw3218) dX13_loadAbove_10 ?_
  refine s_istore_n hZ.1 dX13_loadAbove_13 rfl (Nat.le_of_ble_eq_true rfl) ?_
  refine s_iload_n hZ.1 dX13_loadAbove_14 rfl ?_
  refine s_bipush dX13_loadAbove_15 (by decide +kernel) ?_
  exact s_icmp_ne dX13_loadAbove_17 (by decide) (wX13_loadAbove_24 hZ hg hd j hj) (wX13_loadAbove_20 hZ hg hd j hj)
noncomputable def vX13_loadAbove_0 (g : Nat → List Nat → rx_H → Option (Nat × rx_H)) (j : Nat → rx_K) : rx_K := o_ld rx_isR 0 (o_ld rx_isI 1 (o_callV 1 13 FX13_isFace (o_c1 rx_eq (vX13_loadAbove_8 g j) (vX13_loadAbove_78 g j))))
set_option maxRecDepth 20000 in
theorem wX13_loadAbove_0 {dn : Nat} {g : Nat → List Nat → rx_H → Option (Nat × rx_H)} (hZ : zO b e D A X) (hg : ∀ i y M, vl10[i]? = some (y, M) → rx_Met (zV b e D A X) dn y M (g i)) (hd : 5 ≤ dn) (j : Nat → rx_K) (hj : ∀ k pc, [80][k]? = some pc → rx_OK (zV b e D A X) mX13_loadAbove (dn + 1) pc (j k)) : rx_OK (zV b e D A X) mX13_loadAbove (dn + 1) 0 (vX13_loadAbove_0 g j) := by
  unfold vX13_loadAbove_0
  refine s_aload_n hZ.1 dX13_loadAbove_0 rfl ?_
  refine s_iload_n hZ.1 dX13_loadAbove_1 rfl ?_
  refine s_callV hZ.1 (Met_X13_isFace hZ) (Nat.succ_le_succ (Nat.le_trans (Nat.le_of_ble_eq_true rfl) hd)) vy_X13_isFace zcl13 zw3192 zw227 (Or.inl zw3190) dX13_loadAbove_2 ?_
  exact s_if_ne dX13_loadAbove_5 (by decide) (wX13_loadAbove_78 hZ hg hd j hj) (wX13_loadAbove_8 hZ hg hd j hj)
noncomputable def vhX13_loadAbove (g : Nat → List Nat → rx_H → Option (Nat × rx_H)) (j : Nat → rx_K) : List rx_K := [vX13_loadAbove_80 g j]
theorem vlX13_loadAbove {dn : Nat} {g : Nat → List Nat → rx_H → Option (Nat × rx_H)} (hZ : zO b e D A X) (hg : ∀ i y M, vl10[i]? = some (y, M) → rx_Met (zV b e D A X) dn y M (g i)) (hd : 5 ≤ dn) : ∀ n k pc, [80][k]? = some pc → rx_OK (zV b e D A X) mX13_loadAbove (dn + 1) pc (rx_J (vhX13_loadAbove g) n k) := rx_loop fun j hj k pc h => by
  match k, h with
  | 0, h =>
    have e9 := Option.some.inj (show some 80 = some pc from h)
    subst e9
    exact wX13_loadAbove_80 hZ hg hd j hj
  | _ + 1, h => exact absurd h (by simp)
noncomputable def FX13_loadAbove (g : Nat → List Nat → rx_H → Option (Nat × rx_H)) : List Nat → rx_H → Option (Nat × rx_H) := rx_ent 5 (vX13_loadAbove_0 g (rx_J (vhX13_loadAbove g) 4000000000))
theorem Met_X13_loadAbove {dn : Nat} {g : Nat → List Nat → rx_H → Option (Nat × rx_H)} (hZ : zO b e D A X) (hg : ∀ i y M, vl10[i]? = some (y, M) → rx_Met (zV b e D A X) dn y M (g i)) (hd : 5 ≤ dn) : rx_Met (zV b e D A X) (dn + 1) yX13_loadAbove mX13_loadAbove (FX13_loadAbove g) := rx_entry hZ.1 (wX13_loadAbove_0 hZ hg hd _ (vlX13_loadAbove hZ hg hd 4000000000)) (by decide +kernel) rfl (fun h => by cases h)
noncomputable def q10 (n : Nat) : Nat → List Nat → rx_H → Option (Nat × rx_H) := Nat.rec (fun _ _ _ => none) (fun _ ih i => rx_nth [FX13_load ih, FX13_loadAbove ih] i (fun _ _ => none)) n
theorem q10_ok (hZ : zO b e D A X) : ∀ n i y M, vl10[i]? = some (y, M) → rx_Met (zV b e D A X) (5 + n) y M (q10 n i)
  | 0 => fun i y M _ As h r h2 hf => by cases hf
  | n + 1 => fun i y M h => by
    match i, h with
    | 0, h => cases h; exact Met_X13_load hZ (q10_ok hZ n) (Nat.le_add_right 5 n)
    | 1, h => cases h; exact Met_X13_loadAbove hZ (q10_ok hZ n) (Nat.le_add_right 5 n)
    | _ + 2, h => exact absurd h (by simp)
abbrev mX13_nest : rx_M := (RX13, cX13_nest, 3, (some .int), false)
theorem vy_X13_nest : rx_Y (zV b e D A X) yX13_nest mX13_nest 1 := ⟨zw3364, zw431, by decide, by decide +kernel, by decide +kernel, by decide +kernel⟩
noncomputable def vX13_nest_90 : rx_K := o_ret1 rx_isI
set_option maxRecDepth 20000 in
theorem wX13_nest_90 (hZ : zO b e D A X) : rx_OK (zV b e D A X) mX13_nest 166 90 vX13_nest_90 := by
  unfold vX13_nest_90
  exact s_iret hZ.1 rfl dX13_nest_90
noncomputable def vX13_nest_89 : rx_K := o_ld rx_isI 1 (vX13_nest_90)
set_option maxRecDepth 20000 in
theorem wX13_nest_89 (hZ : zO b e D A X) : rx_OK (zV b e D A X) mX13_nest 166 89 vX13_nest_89 := by
  unfold vX13_nest_89
  refine s_iload_n hZ.1 dX13_nest_89 rfl ?_
  exact (wX13_nest_90 hZ)
noncomputable def vX13_nest_85 : rx_K := o_ld rx_isI 2 (vX13_nest_90)
set_option maxRecDepth 20000 in
theorem wX13_nest_85 (hZ : zO b e D A X) : rx_OK (zV b e D A X) mX13_nest 166 85 vX13_nest_85 := by
  unfold vX13_nest_85
  refine s_iload_n hZ.1 dX13_nest_85 rfl ?_
  exact s_goto dX13_nest_86 (by decide) (wX13_nest_90 hZ)
noncomputable def vX13_nest_59 : rx_K := o_ld rx_isR 0 (o_getf 13 35 (o_const 64 (o_ld rx_isI 2 (o_bi (fun x y => x * y) (o_ld rx_isR 0 (o_getf 13 37 (o_ld rx_isI 2 (o_ald 0 (o_ld rx_isR 0 (o_getf 13 24 (o_ld rx_isI 1 (o_ald 1 (o_callS 4 FX13_stands (o_c1 rx_eq vX13_nest_89 vX13_nest_85))))))))))))))
set_option maxRecDepth 20000 in
theorem wX13_nest_59 (hZ : zO b e D A X) : rx_OK (zV b e D A X) mX13_nest 166 59 vX13_nest_59 := by
  unfold vX13_nest_59
  refine s_aload_n hZ.1 dX13_nest_59 rfl ?_
  refine yg13_35 dX13_nest_60 zw4156 ?_
  refine s_bipush dX13_nest_63 (by decide +kernel) ?_
  refine s_iload_n hZ.1 dX13_nest_65 rfl ?_
  refine s_imul dX13_nest_66 ?_
  refine s_aload_n hZ.1 dX13_nest_67 rfl ?_
  refine yg13_37 dX13_nest_68 zw4158 ?_
  refine s_iload_n hZ.1 dX13_nest_71 rfl ?_
  refine s_iald (tt := 0) rfl dX13_nest_72 ?_
  refine s_aload_n hZ.1 dX13_nest_73 rfl ?_
  refine yg13_24 dX13_nest_74 zw4145 ?_
  refine s_iload_n hZ.1 dX13_nest_77 rfl ?_
  refine s_lald (tt := 1) rfl dX13_nest_78 ?_
  refine s_callS hZ.1 (Met_X13_stands hZ) (Nat.le_of_ble_eq_true rfl) vy_X13_stands zw3207 (Or.inl zw3206) dX13_nest_79 ?_
  exact s_if_eq dX13_nest_82 (by decide) (wX13_nest_89 hZ) (wX13_nest_85 hZ)
noncomputable def vX13_nest_50 : rx_K := o_ld rx_isR 0 (o_ld rx_isI 2 (o_ld rx_isI 1 (o_callV 2 13 FX13_onePackage (o_c1 rx_eq vX13_nest_89 vX13_nest_59))))
set_option maxRecDepth 20000 in
theorem wX13_nest_50 (hZ : zO b e D A X) : rx_OK (zV b e D A X) mX13_nest 166 50 vX13_nest_50 := by
  unfold vX13_nest_50
  refine s_aload_n hZ.1 dX13_nest_50 rfl ?_
  refine s_iload_n hZ.1 dX13_nest_51 rfl ?_
  refine s_iload_n hZ.1 dX13_nest_52 rfl ?_
  refine s_callV hZ.1 (Met_X13_onePackage hZ) (Nat.le_of_ble_eq_true rfl) vy_X13_onePackage zcl13 zw3204 zw230 (Or.inl zw3202) dX13_nest_53 ?_
  exact s_if_eq dX13_nest_56 (by decide) (wX13_nest_89 hZ) (wX13_nest_59 hZ)
noncomputable def vX13_nest_48 : rx_K := o_ld rx_isI 1 (o_ret1 rx_isI)
set_option maxRecDepth 20000 in
theorem wX13_nest_48 (hZ : zO b e D A X) : rx_OK (zV b e D A X) mX13_nest 166 48 vX13_nest_48 := by
  unfold vX13_nest_48
  refine s_iload_n hZ.1 dX13_nest_48 rfl ?_
  exact s_iret hZ.1 rfl dX13_nest_49
noncomputable def vX13_nest_40 : rx_K := o_ld rx_isR 0 (o_ld rx_isI 2 (o_callV 1 13 (q10 160 0) (o_c1 rx_eq vX13_nest_50 vX13_nest_48)))
set_option maxRecDepth 20000 in
theorem wX13_nest_40 (hZ : zO b e D A X) : rx_OK (zV b e D A X) mX13_nest 166 40 vX13_nest_40 := by
  unfold vX13_nest_40
  refine s_aload_n hZ.1 dX13_nest_40 rfl ?_
  refine s_iload_n hZ.1 dX13_nest_41 rfl ?_
  refine s_callV hZ.1 (q10_ok hZ 160 0 _ _ rfl) (Nat.le_of_ble_eq_true rfl) vy_X13_load zcl13 zw3367 zw267 (Or.inl zw3365) dX13_nest_42 ?_
  exact s_if_eq dX13_nest_45 (by decide) (wX13_nest_50 hZ) (wX13_nest_48 hZ)
noncomputable def vX13_nest_33 : rx_K := o_ld rx_isR 0 (o_getf 13 92 (o_c1 rx_eq vX13_nest_50 vX13_nest_40))
set_option maxRecDepth 20000 in
theorem wX13_nest_33 (hZ : zO b e D A X) : rx_OK (zV b e D A X) mX13_nest 166 33 vX13_nest_33 := by
  unfold vX13_nest_33
  refine s_aload_n hZ.1 dX13_nest_33 rfl ?_
  refine yg13_92 dX13_nest_34 zw4213 ?_
  exact s_if_eq dX13_nest_37 (by decide) (wX13_nest_50 hZ) (wX13_nest_40 hZ)
noncomputable def vX13_nest_26 : rx_K := o_st rx_isI 2 (o_ld rx_isI 2 (o_const 34359738352 (o_c2 rx_eq vX13_nest_48 vX13_nest_33)))
set_option maxRecDepth 20000 in
theorem wX13_nest_26 (hZ : zO b e D A X) : rx_OK (zV b e D A X) mX13_nest 166 26 vX13_nest_26 := by
  unfold vX13_nest_26
  refine s_istore_n hZ.1 dX13_nest_26 rfl (Nat.le_of_ble_eq_true rfl) ?_
  refine s_iload_n hZ.1 dX13_nest_27 rfl ?_
  refine s_bipush dX13_nest_28 (by decide +kernel) ?_
  exact s_icmp_eq dX13_nest_30 (by decide) (wX13_nest_48 hZ) (wX13_nest_33 hZ)
noncomputable def vX13_nest_16 : rx_K := o_ld rx_isR 0 (o_ld rx_isR 0 (o_getf 13 33 (o_ld rx_isI 1 (o_ald 1 (o_callV 1 13 FX13_find (vX13_nest_26))))))
set_option maxRecDepth 20000 in
theorem wX13_nest_16 (hZ : zO b e D A X) : rx_OK (zV b e D A X) mX13_nest 166 16 vX13_nest_16 := by
  unfold vX13_nest_16
  refine s_aload_n hZ.1 dX13_nest_16 rfl ?_
  refine s_aload_n hZ.1 dX13_nest_17 rfl ?_
  refine yg13_33 dX13_nest_18 zw4154 ?_
  refine s_iload_n hZ.1 dX13_nest_21 rfl ?_
  refine s_lald (tt := 1) rfl dX13_nest_22 ?_
  refine s_callV hZ.1 (Met_X13_find hZ) (Nat.le_of_ble_eq_true rfl) vy_X13_find zcl13 zw3186 zw226 (Or.inl zw3184) dX13_nest_23 ?_
  exact (wX13_nest_26 hZ)
noncomputable def vX13_nest_11 : rx_K := o_const 34359738352 (vX13_nest_26)
set_option maxRecDepth 20000 in
theorem wX13_nest_11 (hZ : zO b e D A X) : rx_OK (zV b e D A X) mX13_nest 166 11 vX13_nest_11 := by
  unfold vX13_nest_11
  refine s_bipush dX13_nest_11 (by decide +kernel) ?_
  exact s_goto dX13_nest_13 (by decide) (wX13_nest_26 hZ)
noncomputable def vX13_nest_0 : rx_K := o_ld rx_isR 0 (o_getf 13 33 (o_ld rx_isI 1 (o_ald 1 (o_const 1 (o_bc (fun x y => lg_cmp x y) (o_c1 rx_eq vX13_nest_11 vX13_nest_16))))))
set_option maxRecDepth 20000 in
theorem wX13_nest_0 (hZ : zO b e D A X) : rx_OK (zV b e D A X) mX13_nest 166 0 vX13_nest_0 := by
  unfold vX13_nest_0
  refine s_aload_n hZ.1 dX13_nest_0 rfl ?_
  refine yg13_33 dX13_nest_1 zw4154 ?_
  refine s_iload_n hZ.1 dX13_nest_4 rfl ?_
  refine s_lald (tt := 1) rfl dX13_nest_5 ?_
  refine s_lconst dX13_nest_6 (by decide +kernel) ?_
  refine s_lcmp dX13_nest_7 ?_
  exact s_if_ne dX13_nest_8 (by decide) (wX13_nest_16 hZ) (wX13_nest_11 hZ)
noncomputable def FX13_nest : List Nat → rx_H → Option (Nat × rx_H) := rx_ent 3 vX13_nest_0
theorem Met_X13_nest (hZ : zO b e D A X) : rx_Met (zV b e D A X) 166 yX13_nest mX13_nest (FX13_nest) := rx_entry hZ.1 (wX13_nest_0 hZ) (by decide +kernel) rfl (fun h => by cases h)
abbrev mX13_nestsAreOne : rx_M := (RX13, cX13_nestsAreOne, 4, (some .boolean), false)
theorem vy_X13_nestsAreOne : rx_Y (zV b e D A X) yX13_nestsAreOne mX13_nestsAreOne 2 := ⟨zw3360, zw431, by decide, by decide +kernel, by decide +kernel, by decide +kernel⟩
noncomputable def vX13_nestsAreOne_20 : rx_K := o_ret1 rx_isZ
set_option maxRecDepth 20000 in
theorem wX13_nestsAreOne_20 (hZ : zO b e D A X) : rx_OK (zV b e D A X) mX13_nestsAreOne 167 20 vX13_nestsAreOne_20 := by
  unfold vX13_nestsAreOne_20
  exact s_zret rx_z_ok rfl dX13_nestsAreOne_20
noncomputable def vX13_nestsAreOne_19 : rx_K := o_const 0 (vX13_nestsAreOne_20)
set_option maxRecDepth 20000 in
theorem wX13_nestsAreOne_19 (hZ : zO b e D A X) : rx_OK (zV b e D A X) mX13_nestsAreOne 167 19 vX13_nestsAreOne_19 := by
  unfold vX13_nestsAreOne_19
  refine s_iconst dX13_nestsAreOne_19 (by decide +kernel) ?_
  exact (wX13_nestsAreOne_20 hZ)
noncomputable def vX13_nestsAreOne_15 : rx_K := o_const 8 (vX13_nestsAreOne_20)
set_option maxRecDepth 20000 in
theorem wX13_nestsAreOne_15 (hZ : zO b e D A X) : rx_OK (zV b e D A X) mX13_nestsAreOne 167 15 vX13_nestsAreOne_15 := by
  unfold vX13_nestsAreOne_15
  refine s_iconst dX13_nestsAreOne_15 (by decide +kernel) ?_
  exact s_goto dX13_nestsAreOne_16 (by decide) (wX13_nestsAreOne_20 hZ)
noncomputable def vX13_nestsAreOne_0 : rx_K := o_ld rx_isR 0 (o_ld rx_isI 1 (o_callV 1 13 FX13_nest (o_st rx_isI 3 (o_ld rx_isI 3 (o_ld rx_isR 0 (o_ld rx_isI 2 (o_callV 1 13 FX13_nest (o_c2 rx_eq vX13_nestsAreOne_15 vX13_nestsAreOne_19))))))))
set_option maxRecDepth 20000 in
theorem wX13_nestsAreOne_0 (hZ : zO b e D A X) : rx_OK (zV b e D A X) mX13_nestsAreOne 167 0 vX13_nestsAreOne_0 := by
  unfold vX13_nestsAreOne_0
  refine s_aload_n hZ.1 dX13_nestsAreOne_0 rfl ?_
  refine s_iload_n hZ.1 dX13_nestsAreOne_1 rfl ?_
  refine s_callV hZ.1 (Met_X13_nest hZ) (Nat.le_of_ble_eq_true rfl) vy_X13_nest zcl13 zw3363 zw266 (Or.inl zw3361) dX13_nestsAreOne_2 ?_
  refine s_istore_n hZ.1 dX13_nestsAreOne_5 rfl (Nat.le_of_ble_eq_true rfl) ?_
  refine s_iload_n hZ.1 dX13_nestsAreOne_6 rfl ?_
  refine s_aload_n hZ.1 dX13_nestsAreOne_7 rfl ?_
  refine s_iload_n hZ.1 dX13_nestsAreOne_8 rfl ?_
  refine s_callV hZ.1 (Met_X13_nest hZ) (Nat.le_of_ble_eq_true rfl) vy_X13_nest zcl13 zw3363 zw266 (Or.inl zw3361) dX13_nestsAreOne_9 ?_
  exact s_icmp_ne dX13_nestsAreOne_12 (by decide) (wX13_nestsAreOne_19 hZ) (wX13_nestsAreOne_15 hZ)
noncomputable def FX13_nestsAreOne : List Nat → rx_H → Option (Nat × rx_H) := rx_ent 4 vX13_nestsAreOne_0
theorem Met_X13_nestsAreOne (hZ : zO b e D A X) : rx_Met (zV b e D A X) 167 yX13_nestsAreOne mX13_nestsAreOne (FX13_nestsAreOne) := rx_entry hZ.1 (wX13_nestsAreOne_0 hZ) (by decide +kernel) rfl (fun h => by cases h)
abbrev mX13_isLetMember : rx_M := (RX13, cX13_isLetMember, 6, (some .boolean), false)
theorem vy_X13_isLetMember : rx_Y (zV b e D A X) yX13_isLetMember mX13_isLetMember 3 := ⟨zw3356, zw431, by decide, by decide +kernel, by decide +kernel, by decide +kernel⟩
noncomputable def vX13_isLetMember_134 : rx_K := o_ret1 rx_isZ
set_option maxRecDepth 20000 in
theorem wX13_isLetMember_134 (hZ : zO b e D A X) : rx_OK (zV b e D A X) mX13_isLetMember 168 134 vX13_isLetMember_134 := by
  unfold vX13_isLetMember_134
  exact s_zret rx_z_ok rfl dX13_isLetMember_134
noncomputable def vX13_isLetMember_133 : rx_K := o_const 0 (vX13_isLetMember_134)
set_option maxRecDepth 20000 in
theorem wX13_isLetMember_133 (hZ : zO b e D A X) : rx_OK (zV b e D A X) mX13_isLetMember 168 133 vX13_isLetMember_133 := by
  unfold vX13_isLetMember_133
  refine s_iconst dX13_isLetMember_133 (by decide +kernel) ?_
  exact (wX13_isLetMember_134 hZ)
noncomputable def vX13_isLetMember_129 : rx_K := o_const 8 (vX13_isLetMember_134)
set_option maxRecDepth 20000 in
theorem wX13_isLetMember_129 (hZ : zO b e D A X) : rx_OK (zV b e D A X) mX13_isLetMember 168 129 vX13_isLetMember_129 := by
  unfold vX13_isLetMember_129
  refine s_iconst dX13_isLetMember_129 (by decide +kernel) ?_
  exact s_goto dX13_isLetMember_130 (by decide) (wX13_isLetMember_134 hZ)
noncomputable def vX13_isLetMember_119 : rx_K := o_ld rx_isR 0 (o_ld rx_isI 3 (o_ld rx_isI 4 (o_callV 2 13 FX13_nestsAreOne (o_c1 rx_eq vX13_isLetMember_133 vX13_isLetMember_129))))
set_option maxRecDepth 20000 in
theorem wX13_isLetMember_119 (hZ : zO b e D A X) : rx_OK (zV b e D A X) mX13_isLetMember 168 119 vX13_isLetMember_119 := by
  unfold vX13_isLetMember_119
  refine s_aload_n hZ.1 dX13_isLetMember_119 rfl ?_
  refine s_iload_n hZ.1 dX13_isLetMember_120 rfl ?_
  refine s_iload hZ.1 dX13_isLetMember_121 ?_
  refine s_callV hZ.1 (Met_X13_nestsAreOne hZ) (Nat.le_of_ble_eq_true rfl) vy_X13_nestsAreOne zcl13 zw3359 zw265 (Or.inl zw3357) dX13_isLetMember_123 ?_
  exact s_if_eq dX13_isLetMember_126 (by decide) (wX13_isLetMember_133 hZ) (wX13_isLetMember_129 hZ)
noncomputable def vX13_isLetMember_113 : rx_K := o_ld rx_isI 3 (o_ld rx_isI 4 (o_c2 rx_eq vX13_isLetMember_129 vX13_isLetMember_119))
set_option maxRecDepth 20000 in
theorem wX13_isLetMember_113 (hZ : zO b e D A X) : rx_OK (zV b e D A X) mX13_isLetMember 168 113 vX13_isLetMember_113 := by
  unfold vX13_isLetMember_113
  refine s_iload_n hZ.1 dX13_isLetMember_113 rfl ?_
  refine s_iload hZ.1 dX13_isLetMember_114 ?_
  exact s_icmp_eq dX13_isLetMember_116 (by decide) (wX13_isLetMember_129 hZ) (wX13_isLetMember_119 hZ)
noncomputable def vX13_isLetMember_108 : rx_K := o_ld rx_isI 5 (o_c1 rx_eq vX13_isLetMember_113 vX13_isLetMember_133)
set_option maxRecDepth 20000 in
theorem wX13_isLetMember_108 (hZ : zO b e D A X) : rx_OK (zV b e D A X) mX13_isLetMember 168 108 vX13_isLetMember_108 := by
  unfold vX13_isLetMember_108
  refine s_iload hZ.1 dX13_isLetMember_108 ?_
  exact s_if_ne dX13_isLetMember_110 (by decide) (wX13_isLetMember_133 hZ) (wX13_isLetMember_113 hZ)
noncomputable def vX13_isLetMember_107 : rx_K := o_ret1 rx_isZ
set_option maxRecDepth 20000 in
theorem wX13_isLetMember_107 (hZ : zO b e D A X) : rx_OK (zV b e D A X) mX13_isLetMember 168 107 vX13_isLetMember_107 := by
  unfold vX13_isLetMember_107
  exact s_zret rx_z_ok rfl dX13_isLetMember_107
noncomputable def vX13_isLetMember_106 : rx_K := o_const 0 (vX13_isLetMember_107)
set_option maxRecDepth 20000 in
theorem wX13_isLetMember_106 (hZ : zO b e D A X) : rx_OK (zV b e D A X) mX13_isLetMember 168 106 vX13_isLetMember_106 := by
  unfold vX13_isLetMember_106
  refine s_iconst dX13_isLetMember_106 (by decide +kernel) ?_
  exact (wX13_isLetMember_107 hZ)
noncomputable def vX13_isLetMember_102 : rx_K := o_const 8 (vX13_isLetMember_107)
set_option maxRecDepth 20000 in
theorem wX13_isLetMember_102 (hZ : zO b e D A X) : rx_OK (zV b e D A X) mX13_isLetMember 168 102 vX13_isLetMember_102 := by
  unfold vX13_isLetMember_102
  refine s_iconst dX13_isLetMember_102 (by decide +kernel) ?_
  exact s_goto dX13_isLetMember_103 (by decide) (wX13_isLetMember_107 hZ)
noncomputable def vX13_isLetMember_93 : rx_K := o_ld rx_isR 0 (o_ld rx_isI 3 (o_ld rx_isI 2 (o_callV 2 13 FX13_isHeir (o_c1 rx_eq vX13_isLetMember_106 vX13_isLetMember_102))))
set_option maxRecDepth 20000 in
theorem wX13_isLetMember_93 (hZ : zO b e D A X) : rx_OK (zV b e D A X) mX13_isLetMember 168 93 vX13_isLetMember_93 := by
  unfold vX13_isLetMember_93
  refine s_aload_n hZ.1 dX13_isLetMember_93 rfl ?_
  refine s_iload_n hZ.1 dX13_isLetMember_94 rfl ?_
  refine s_iload_n hZ.1 dX13_isLetMember_95 rfl ?_
  refine s_callV hZ.1 (Met_X13_isHeir hZ) (Nat.le_of_ble_eq_true rfl) vy_X13_isHeir zcl13 zw3211 zw231 (Or.inl zw3209) dX13_isLetMember_96 ?_
  exact s_if_eq dX13_isLetMember_99 (by decide) (wX13_isLetMember_106 hZ) (wX13_isLetMember_102 hZ)
noncomputable def vX13_isLetMember_84 : rx_K := o_ld rx_isR 0 (o_ld rx_isI 2 (o_ld rx_isI 3 (o_callV 2 13 FX13_isHeir (o_c1 rx_eq vX13_isLetMember_93 vX13_isLetMember_102))))
set_option maxRecDepth 20000 in
theorem wX13_isLetMember_84 (hZ : zO b e D A X) : rx_OK (zV b e D A X) mX13_isLetMember 168 84 vX13_isLetMember_84 := by
  unfold vX13_isLetMember_84
  refine s_aload_n hZ.1 dX13_isLetMember_84 rfl ?_
  refine s_iload_n hZ.1 dX13_isLetMember_85 rfl ?_
  refine s_iload_n hZ.1 dX13_isLetMember_86 rfl ?_
  refine s_callV hZ.1 (Met_X13_isHeir hZ) (Nat.le_of_ble_eq_true rfl) vy_X13_isHeir zcl13 zw3211 zw231 (Or.inl zw3209) dX13_isLetMember_87 ?_
  exact s_if_ne dX13_isLetMember_90 (by decide) (wX13_isLetMember_102 hZ) (wX13_isLetMember_93 hZ)
noncomputable def vX13_isLetMember_79 : rx_K := o_ld rx_isI 2 (o_ld rx_isI 3 (o_c2 rx_eq vX13_isLetMember_102 vX13_isLetMember_84))
set_option maxRecDepth 20000 in
theorem wX13_isLetMember_79 (hZ : zO b e D A X) : rx_OK (zV b e D A X) mX13_isLetMember 168 79 vX13_isLetMember_79 := by
  unfold vX13_isLetMember_79
  refine s_iload_n hZ.1 dX13_isLetMember_79 rfl ?_
  refine s_iload_n hZ.1 dX13_isLetMember_80 rfl ?_
  exact s_icmp_eq dX13_isLetMember_81 (by decide) (wX13_isLetMember_102 hZ) (wX13_isLetMember_84 hZ)
noncomputable def vX13_isLetMember_70 : rx_K := o_ld rx_isR 0 (o_getf 13 45 (o_ld rx_isI 1 (o_ald 3 (o_c1 rx_eq vX13_isLetMember_79 vX13_isLetMember_102))))
set_option maxRecDepth 20000 in
theorem wX13_isLetMember_70 (hZ : zO b e D A X) : rx_OK (zV b e D A X) mX13_isLetMember 168 70 vX13_isLetMember_70 := by
  unfold vX13_isLetMember_70
  refine s_aload_n hZ.1 dX13_isLetMember_70 rfl ?_
  refine yg13_45 dX13_isLetMember_71 zw4166 ?_
  refine s_iload_n hZ.1 dX13_isLetMember_74 rfl ?_
  refine s_zald (tt := 3) rfl dX13_isLetMember_75 ?_
  exact s_if_ne dX13_isLetMember_76 (by decide) (wX13_isLetMember_102 hZ) (wX13_isLetMember_79 hZ)
noncomputable def vX13_isLetMember_60 : rx_K := o_ld rx_isR 0 (o_getf 13 42 (o_ld rx_isI 1 (o_ald 0 (o_const 16 (o_c2 rx_eq vX13_isLetMember_79 vX13_isLetMember_70)))))
set_option maxRecDepth 20000 in
theorem wX13_isLetMember_60 (hZ : zO b e D A X) : rx_OK (zV b e D A X) mX13_isLetMember 168 60 vX13_isLetMember_60 := by
  unfold vX13_isLetMember_60
  refine s_aload_n hZ.1 dX13_isLetMember_60 rfl ?_
  refine yg13_42 dX13_isLetMember_61 zw4163 ?_
  refine s_iload_n hZ.1 dX13_isLetMember_64 rfl ?_
  refine s_iald (tt := 0) rfl dX13_isLetMember_65 ?_
  refine s_iconst dX13_isLetMember_66 (by decide +kernel) ?_
  exact s_icmp_eq dX13_isLetMember_67 (by decide) (wX13_isLetMember_79 hZ) (wX13_isLetMember_70 hZ)
noncomputable def vX13_isLetMember_50 : rx_K := o_ld rx_isR 0 (o_ld rx_isI 3 (o_ld rx_isI 4 (o_callV 2 13 FX13_isHeir (o_c1 rx_eq vX13_isLetMember_106 vX13_isLetMember_60))))
set_option maxRecDepth 20000 in
theorem wX13_isLetMember_50 (hZ : zO b e D A X) : rx_OK (zV b e D A X) mX13_isLetMember 168 50 vX13_isLetMember_50 := by
  unfold vX13_isLetMember_50
  refine s_aload_n hZ.1 dX13_isLetMember_50 rfl ?_
  refine s_iload_n hZ.1 dX13_isLetMember_51 rfl ?_
  refine s_iload hZ.1 dX13_isLetMember_52 ?_
  refine s_callV hZ.1 (Met_X13_isHeir hZ) (Nat.le_of_ble_eq_true rfl) vy_X13_isHeir zcl13 zw3211 zw231 (Or.inl zw3209) dX13_isLetMember_54 ?_
  exact s_if_eq dX13_isLetMember_57 (by decide) (wX13_isLetMember_106 hZ) (wX13_isLetMember_60 hZ)
noncomputable def vX13_isLetMember_44 : rx_K := o_ld rx_isI 3 (o_ld rx_isI 4 (o_c2 rx_eq vX13_isLetMember_60 vX13_isLetMember_50))
set_option maxRecDepth 20000 in
theorem wX13_isLetMember_44 (hZ : zO b e D A X) : rx_OK (zV b e D A X) mX13_isLetMember 168 44 vX13_isLetMember_44 := by
  unfold vX13_isLetMember_44
  refine s_iload_n hZ.1 dX13_isLetMember_44 rfl ?_
  refine s_iload hZ.1 dX13_isLetMember_45 ?_
  exact s_icmp_eq dX13_isLetMember_47 (by decide) (wX13_isLetMember_60 hZ) (wX13_isLetMember_50 hZ)
noncomputable def vX13_isLetMember_38 : rx_K := o_ld rx_isI 5 (o_const 16 (o_c2 rx_eq vX13_isLetMember_44 vX13_isLetMember_108))
set_option maxRecDepth 20000 in
theorem wX13_isLetMember_38 (hZ : zO b e D A X) : rx_OK (zV b e D A X) mX13_isLetMember 168 38 vX13_isLetMember_38 := by
  unfold vX13_isLetMember_38
  refine s_iload hZ.1 dX13_isLetMember_38 ?_
  refine s_iconst dX13_isLetMember_40 (by decide +kernel) ?_
  exact s_icmp_ne dX13_isLetMember_41 (by decide) (wX13_isLetMember_108 hZ) (wX13_isLetMember_44 hZ)
noncomputable def vX13_isLetMember_36 : rx_K := o_const 8 (o_ret1 rx_isZ)
set_option maxRecDepth 20000 in
theorem wX13_isLetMember_36 (hZ : zO b e D A X) : rx_OK (zV b e D A X) mX13_isLetMember 168 36 vX13_isLetMember_36 := by
  unfold vX13_isLetMember_36
  refine s_iconst dX13_isLetMember_36 (by decide +kernel) ?_
  exact s_zret rx_z_ok rfl dX13_isLetMember_37
noncomputable def vX13_isLetMember_26 : rx_K := o_ld rx_isR 0 (o_ld rx_isI 3 (o_ld rx_isI 4 (o_callV 2 13 FX13_onePackage (o_c1 rx_eq vX13_isLetMember_38 vX13_isLetMember_36))))
set_option maxRecDepth 20000 in
theorem wX13_isLetMember_26 (hZ : zO b e D A X) : rx_OK (zV b e D A X) mX13_isLetMember 168 26 vX13_isLetMember_26 := by
  unfold vX13_isLetMember_26
  refine s_aload_n hZ.1 dX13_isLetMember_26 rfl ?_
  refine s_iload_n hZ.1 dX13_isLetMember_27 rfl ?_
  refine s_iload hZ.1 dX13_isLetMember_28 ?_
  refine s_callV hZ.1 (Met_X13_onePackage hZ) (Nat.le_of_ble_eq_true rfl) vy_X13_onePackage zcl13 zw3204 zw230 (Or.inl zw3202) dX13_isLetMember_30 ?_
  exact s_if_eq dX13_isLetMember_33 (by decide) (wX13_isLetMember_38 hZ) (wX13_isLetMember_36 hZ)
noncomputable def vX13_isLetMember_21 : rx_K := o_ld rx_isI 5 (o_c1 rx_eq vX13_isLetMember_38 vX13_isLetMember_26)
set_option maxRecDepth 20000 in
theorem wX13_isLetMember_21 (hZ : zO b e D A X) : rx_OK (zV b e D A X) mX13_isLetMember 168 21 vX13_isLetMember_21 := by
  unfold vX13_isLetMember_21
  refine s_iload hZ.1 dX13_isLetMember_21 ?_
  exact s_if_eq dX13_isLetMember_23 (by decide) (wX13_isLetMember_38 hZ) (wX13_isLetMember_26 hZ)
noncomputable def vX13_isLetMember_0 : rx_K := o_ld rx_isR 0 (o_ld rx_isI 1 (o_callV 1 13 FX13_classOfMember (o_st rx_isI 4 (o_ld rx_isR 0 (o_getf 13 44 (o_ld rx_isI 1 (o_ald 0 (o_st rx_isI 5 (o_ld rx_isI 5 (o_const 24 (o_c2 rx_eq vX13_isLetMember_36 vX13_isLetMember_21)))))))))))
set_option maxRecDepth 20000 in
theorem wX13_isLetMember_0 (hZ : zO b e D A X) : rx_OK (zV b e D A X) mX13_isLetMember 168 0 vX13_isLetMember_0 := by
  unfold vX13_isLetMember_0
  refine s_aload_n hZ.1 dX13_isLetMember_0 rfl ?_
  refine s_iload_n hZ.1 dX13_isLetMember_1 rfl ?_
  refine s_callV hZ.1 (Met_X13_classOfMember hZ) (Nat.le_of_ble_eq_true rfl) vy_X13_classOfMember zcl13 zw3255 zw241 (Or.inl zw3253) dX13_isLetMember_2 ?_
  refine s_istore hZ.1 dX13_isLetMember_5 (Nat.le_of_ble_eq_true rfl) ?_
  refine s_aload_n hZ.1 dX13_isLetMember_7 rfl ?_
  refine yg13_44 dX13_isLetMember_8 zw4165 ?_
  refine s_iload_n hZ.1 dX13_isLetMember_11 rfl ?_
  refine s_iald (tt := 0) rfl dX13_isLetMember_12 ?_
  refine s_istore hZ.1 dX13_isLetMember_13 (Nat.le_of_ble_eq_true rfl) ?_
  refine s_iload hZ.1 dX13_isLetMember_15 ?_
  refine s_iconst dX13_isLetMember_17 (by decide +kernel) ?_
  exact s_icmp_eq dX13_isLetMember_18 (by decide) (wX13_isLetMember_36 hZ) (wX13_isLetMember_21 hZ)
noncomputable def FX13_isLetMember : List Nat → rx_H → Option (Nat × rx_H) := rx_ent 6 vX13_isLetMember_0
theorem Met_X13_isLetMember (hZ : zO b e D A X) : rx_Met (zV b e D A X) 168 yX13_isLetMember mX13_isLetMember (FX13_isLetMember) := rx_entry hZ.1 (wX13_isLetMember_0 hZ) (by decide +kernel) rfl (fun h => by cases h)
abbrev mX13_ownField : rx_M := (RX13, cX13_ownField, 8, (some .int), false)
theorem vy_X13_ownField : rx_Y (zV b e D A X) yX13_ownField mX13_ownField 3 := ⟨zw3352, zw431, by decide, by decide +kernel, by decide +kernel, by decide +kernel⟩
noncomputable def vX13_ownField_74 (j : Nat → rx_K) : rx_K := o_const 34359738352 (o_ret1 rx_isI)
set_option maxRecDepth 20000 in
theorem wX13_ownField_74 (hZ : zO b e D A X) (j : Nat → rx_K) (hj : ∀ k pc, [3][k]? = some pc → rx_OK (zV b e D A X) mX13_ownField 0 pc (j k)) : rx_OK (zV b e D A X) mX13_ownField 0 74 (vX13_ownField_74 j) := by
  unfold vX13_ownField_74
  refine s_bipush dX13_ownField_74 (by decide +kernel) ?_
  exact s_iret hZ.1 rfl dX13_ownField_76
noncomputable def vX13_ownField_68 (j : Nat → rx_K) : rx_K := o_inc 6 (1) ((j 0))
set_option maxRecDepth 20000 in
theorem wX13_ownField_68 (hZ : zO b e D A X) (j : Nat → rx_K) (hj : ∀ k pc, [3][k]? = some pc → rx_OK (zV b e D A X) mX13_ownField 0 pc (j k)) : rx_OK (zV b e D A X) mX13_ownField 0 68 (vX13_ownField_68 j) := by
  unfold vX13_ownField_68
  refine s_iinc hZ.1 dX13_ownField_68 (Nat.le_of_ble_eq_true rfl) ?_
  exact s_goto dX13_ownField_71 (by decide) (hj 0 3 rfl)
noncomputable def vX13_ownField_65 (j : Nat → rx_K) : rx_K := o_ld rx_isI 7 (o_ret1 rx_isI)
set_option maxRecDepth 20000 in
theorem wX13_ownField_65 (hZ : zO b e D A X) (j : Nat → rx_K) (hj : ∀ k pc, [3][k]? = some pc → rx_OK (zV b e D A X) mX13_ownField 0 pc (j k)) : rx_OK (zV b e D A X) mX13_ownField 0 65 (vX13_ownField_65 j) := by
  unfold vX13_ownField_65
  refine s_iload hZ.1 dX13_ownField_65 ?_
  exact s_iret hZ.1 rfl dX13_ownField_67
noncomputable def vX13_ownField_52 (j : Nat → rx_K) : rx_K := o_ld rx_isR 0 (o_getf 13 53 (o_ld rx_isI 7 (o_ald 1 (o_ld rx_isL 4 (o_bc (fun x y => lg_cmp x y) (o_c1 rx_eq (vX13_ownField_65 j) (vX13_ownField_68 j)))))))
set_option maxRecDepth 20000 in
theorem wX13_ownField_52 (hZ : zO b e D A X) (j : Nat → rx_K) (hj : ∀ k pc, [3][k]? = some pc → rx_OK (zV b e D A X) mX13_ownField 0 pc (j k)) : rx_OK (zV b e D A X) mX13_ownField 0 52 (vX13_ownField_52 j) := by
  unfold vX13_ownField_52
  refine s_aload_n hZ.1 dX13_ownField_52 rfl ?_
  refine yg13_53 dX13_ownField_53 zw4174 ?_
  refine s_iload hZ.1 dX13_ownField_56 ?_
  refine s_lald (tt := 1) rfl dX13_ownField_58 ?_
  refine s_lload hZ.1 dX13_ownField_59 ?_
  refine s_lcmp dX13_ownField_61 ?_
  exact s_if_ne dX13_ownField_62 (by decide) (wX13_ownField_68 hZ j hj) (wX13_ownField_65 hZ j hj)
noncomputable def vX13_ownField_45 (j : Nat → rx_K) : rx_K := o_ld rx_isL 4 (o_const 1 (o_bc (fun x y => lg_cmp x y) (o_c1 rx_eq (vX13_ownField_65 j) (vX13_ownField_52 j))))
set_option maxRecDepth 20000 in
theorem wX13_ownField_45 (hZ : zO b e D A X) (j : Nat → rx_K) (hj : ∀ k pc, [3][k]? = some pc → rx_OK (zV b e D A X) mX13_ownField 0 pc (j k)) : rx_OK (zV b e D A X) mX13_ownField 0 45 (vX13_ownField_45 j) := by
  unfold vX13_ownField_45
  refine s_lload hZ.1 dX13_ownField_45 ?_
  refine s_lconst dX13_ownField_47 (by decide +kernel) ?_
  refine s_lcmp dX13_ownField_48 ?_
  exact s_if_eq dX13_ownField_49 (by decide) (wX13_ownField_65 hZ j hj) (wX13_ownField_52 hZ j hj)
noncomputable def vX13_ownField_33 (j : Nat → rx_K) : rx_K := o_ld rx_isR 0 (o_getf 13 51 (o_ld rx_isI 7 (o_ald 1 (o_ld rx_isL 2 (o_bc (fun x y => lg_cmp x y) (o_c1 rx_eq (vX13_ownField_45 j) (vX13_ownField_68 j)))))))
set_option maxRecDepth 20000 in
theorem wX13_ownField_33 (hZ : zO b e D A X) (j : Nat → rx_K) (hj : ∀ k pc, [3][k]? = some pc → rx_OK (zV b e D A X) mX13_ownField 0 pc (j k)) : rx_OK (zV b e D A X) mX13_ownField 0 33 (vX13_ownField_33 j) := by
  unfold vX13_ownField_33
  refine s_aload_n hZ.1 dX13_ownField_33 rfl ?_
  refine yg13_51 dX13_ownField_34 zw4172 ?_
  refine s_iload hZ.1 dX13_ownField_37 ?_
  refine s_lald (tt := 1) rfl dX13_ownField_39 ?_
  refine s_lload_n hZ.1 dX13_ownField_40 rfl ?_
  refine s_lcmp dX13_ownField_41 ?_
  exact s_if_ne dX13_ownField_42 (by decide) (wX13_ownField_68 hZ j hj) (wX13_ownField_45 hZ j hj)
noncomputable def vX13_ownField_14 (j : Nat → rx_K) : rx_K := o_ld rx_isI 1 (o_const 272 (o_bi (fun x y => x * y) (o_ld rx_isI 6 (o_bi (fun x y => x + y) (o_st rx_isI 7 (o_ld rx_isR 0 (o_getf 13 42 (o_ld rx_isI 7 (o_ald 0 (o_c1 rx_eq (vX13_ownField_33 j) (vX13_ownField_68 j)))))))))))
set_option maxRecDepth 20000 in
theorem wX13_ownField_14 (hZ : zO b e D A X) (j : Nat → rx_K) (hj : ∀ k pc, [3][k]? = some pc → rx_OK (zV b e D A X) mX13_ownField 0 pc (j k)) : rx_OK (zV b e D A X) mX13_ownField 0 14 (vX13_ownField_14 j) := by
  unfold vX13_ownField_14
  refine s_iload_n hZ.1 dX13_ownField_14 rfl ?_
  refine s_bipush dX13_ownField_15 (by decide +kernel) ?_
  refine s_imul dX13_ownField_17 ?_
  refine s_iload hZ.1 dX13_ownField_18 ?_
  refine s_iadd dX13_ownField_20 ?_
  refine s_istore hZ.1 dX13_ownField_21 (Nat.le_of_ble_eq_true rfl) ?_
  refine s_aload_n hZ.1 dX13_ownField_23 rfl ?_
  refine yg13_42 dX13_ownField_24 zw4163 ?_
  refine s_iload hZ.1 dX13_ownField_27 ?_
  refine s_iald (tt := 0) rfl dX13_ownField_29 ?_
  exact s_if_ne dX13_ownField_30 (by decide) (wX13_ownField_68 hZ j hj) (wX13_ownField_33 hZ j hj)
noncomputable def vX13_ownField_3 (j : Nat → rx_K) : rx_K := o_ld rx_isI 6 (o_ld rx_isR 0 (o_getf 13 41 (o_ld rx_isI 1 (o_ald 0 (o_c2 rx_lt (vX13_ownField_14 j) (vX13_ownField_74 j))))))
set_option maxRecDepth 20000 in
theorem wX13_ownField_3 (hZ : zO b e D A X) (j : Nat → rx_K) (hj : ∀ k pc, [3][k]? = some pc → rx_OK (zV b e D A X) mX13_ownField 0 pc (j k)) : rx_OK (zV b e D A X) mX13_ownField 0 3 (vX13_ownField_3 j) := by
  unfold vX13_ownField_3
  refine s_iload hZ.1 dX13_ownField_3 ?_
  refine s_aload_n hZ.1 dX13_ownField_5 rfl ?_
  refine yg13_41 dX13_ownField_6 zw4162 ?_
  refine s_iload_n hZ.1 dX13_ownField_9 rfl ?_
  refine s_iald (tt := 0) rfl dX13_ownField_10 ?_
  exact s_icmp_ge dX13_ownField_11 (by decide) (wX13_ownField_74 hZ j hj) (wX13_ownField_14 hZ j hj)
noncomputable def vX13_ownField_0 (j : Nat → rx_K) : rx_K := o_const 0 (o_st rx_isI 6 ((vX13_ownField_3 j)))
set_option maxRecDepth 20000 in
theorem wX13_ownField_0 (hZ : zO b e D A X) (j : Nat → rx_K) (hj : ∀ k pc, [3][k]? = some pc → rx_OK (zV b e D A X) mX13_ownField 0 pc (j k)) : rx_OK (zV b e D A X) mX13_ownField 0 0 (vX13_ownField_0 j) := by
  unfold vX13_ownField_0
  refine s_iconst dX13_ownField_0 (by decide +kernel) ?_
  refine s_istore hZ.1 dX13_ownField_1 (Nat.le_of_ble_eq_true rfl) ?_
  exact (wX13_ownField_3 hZ j hj)
noncomputable def vhX13_ownField (j : Nat → rx_K) : List rx_K := [vX13_ownField_3 j]
theorem vlX13_ownField (hZ : zO b e D A X) : ∀ n k pc, [3][k]? = some pc → rx_OK (zV b e D A X) mX13_ownField 0 pc (rx_J (vhX13_ownField) n k) := rx_loop fun j hj k pc h => by
  match k, h with
  | 0, h =>
    have e9 := Option.some.inj (show some 3 = some pc from h)
    subst e9
    exact wX13_ownField_3 hZ j hj
  | _ + 1, h => exact absurd h (by simp)
noncomputable def FX13_ownField : List Nat → rx_H → Option (Nat × rx_H) := rx_ent 8 (vX13_ownField_0 (rx_J (vhX13_ownField) 4000000000))
theorem Met_X13_ownField (hZ : zO b e D A X) : rx_Met (zV b e D A X) 0 yX13_ownField mX13_ownField (FX13_ownField) := rx_entry hZ.1 (wX13_ownField_0 hZ _ (vlX13_ownField hZ 4000000000)) (by decide +kernel) rfl (fun h => by cases h)
abbrev mX13_theField : rx_M := (RX13, cX13_theField, 12, (some .int), false)
theorem vy_X13_theField : rx_Y (zV b e D A X) yX13_theField mX13_theField 3 := ⟨zw3348, zw431, by decide, by decide +kernel, by decide +kernel, by decide +kernel⟩
noncomputable def vX13_theField_197 (j : Nat → rx_K) : rx_K := o_ld rx_isI 7 (o_ret1 rx_isI)
set_option maxRecDepth 20000 in
theorem wX13_theField_197 (hZ : zO b e D A X) (j : Nat → rx_K) (hj : ∀ k pc, [27, 146][k]? = some pc → rx_OK (zV b e D A X) mX13_theField 3 pc (j k)) : rx_OK (zV b e D A X) mX13_theField 3 197 (vX13_theField_197 j) := by
  unfold vX13_theField_197
  refine s_iload hZ.1 dX13_theField_197 ?_
  exact s_iret hZ.1 rfl dX13_theField_199
noncomputable def vX13_theField_194 (j : Nat → rx_K) : rx_K := (j 0)
set_option maxRecDepth 20000 in
theorem wX13_theField_194 (hZ : zO b e D A X) (j : Nat → rx_K) (hj : ∀ k pc, [27, 146][k]? = some pc → rx_OK (zV b e D A X) mX13_theField 3 pc (j k)) : rx_OK (zV b e D A X) mX13_theField 3 194 (vX13_theField_194 j) := by
  unfold vX13_theField_194
  exact s_goto dX13_theField_194 (by decide) (hj 0 27 rfl)
noncomputable def vX13_theField_188 (j : Nat → rx_K) : rx_K := o_inc 10 (-1) ((j 1))
set_option maxRecDepth 20000 in
theorem wX13_theField_188 (hZ : zO b e D A X) (j : Nat → rx_K) (hj : ∀ k pc, [27, 146][k]? = some pc → rx_OK (zV b e D A X) mX13_theField 3 pc (j k)) : rx_OK (zV b e D A X) mX13_theField 3 188 (vX13_theField_188 j) := by
  unfold vX13_theField_188
  refine s_iinc hZ.1 dX13_theField_188 (Nat.le_of_ble_eq_true rfl) ?_
  exact s_goto dX13_theField_191 (by decide) (hj 1 146 rfl)
noncomputable def vX13_theField_176 (j : Nat → rx_K) : rx_K := o_ld rx_isR 0 (o_getf 13 96 (o_ld rx_isI 6 (o_inc 6 (1) (o_ld rx_isI 11 (o_ast 0 (fun v => v) rx_isI ((vX13_theField_188 j)))))))
set_option maxRecDepth 20000 in
theorem wX13_theField_176 (hZ : zO b e D A X) (j : Nat → rx_K) (hj : ∀ k pc, [27, 146][k]? = some pc → rx_OK (zV b e D A X) mX13_theField 3 pc (j k)) : rx_OK (zV b e D A X) mX13_theField 3 176 (vX13_theField_176 j) := by
  unfold vX13_theField_176
  refine s_aload_n hZ.1 dX13_theField_176 rfl ?_
  refine yg13_96 dX13_theField_177 zw4217 ?_
  refine s_iload hZ.1 dX13_theField_180 ?_
  refine s_iinc hZ.1 dX13_theField_182 (Nat.le_of_ble_eq_true rfl) ?_
  refine s_iload hZ.1 dX13_theField_185 ?_
  refine s_iast hZ.1 (tt := 0) rfl dX13_theField_187 ?_
  exact (wX13_theField_188 hZ j hj)
noncomputable def vX13_theField_151 (j : Nat → rx_K) : rx_K := o_ld rx_isR 0 (o_ld rx_isR 0 (o_getf 13 30 (o_const 32 (o_ld rx_isI 8 (o_bi (fun x y => x * y) (o_ld rx_isI 10 (o_bi (fun x y => x + y) (o_ald 1 (o_callV 1 13 FX13_find (o_st rx_isI 11 (o_ld rx_isI 11 (o_const 34359738352 (o_c2 rx_eq (vX13_theField_188 j) (vX13_theField_176 j))))))))))))))
set_option maxRecDepth 20000 in
theorem wX13_theField_151 (hZ : zO b e D A X) (j : Nat → rx_K) (hj : ∀ k pc, [27, 146][k]? = some pc → rx_OK (zV b e D A X) mX13_theField 3 pc (j k)) : rx_OK (zV b e D A X) mX13_theField 3 151 (vX13_theField_151 j) := by
  unfold vX13_theField_151
  refine s_aload_n hZ.1 dX13_theField_151 rfl ?_
  refine s_aload_n hZ.1 dX13_theField_152 rfl ?_
  refine yg13_30 dX13_theField_153 zw4151 ?_
  refine s_iconst dX13_theField_156 (by decide +kernel) ?_
  refine s_iload hZ.1 dX13_theField_157 ?_
  refine s_imul dX13_theField_159 ?_
  refine s_iload hZ.1 dX13_theField_160 ?_
  refine s_iadd dX13_theField_162 ?_
  refine s_lald (tt := 1) rfl dX13_theField_163 ?_
  refine s_callV hZ.1 (Met_X13_find hZ) (Nat.le_of_ble_eq_true rfl) vy_X13_find zcl13 zw3186 zw226 (Or.inl zw3184) dX13_theField_164 ?_
  refine s_istore hZ.1 dX13_theField_167 (Nat.le_of_ble_eq_true rfl) ?_
  refine s_iload hZ.1 dX13_theField_169 ?_
  refine s_bipush dX13_theField_171 (by decide +kernel) ?_
  exact s_icmp_eq dX13_theField_173 (by decide) (wX13_theField_188 hZ j hj) (wX13_theField_176 hZ j hj)
noncomputable def vX13_theField_146 (j : Nat → rx_K) : rx_K := o_ld rx_isI 10 (o_c1 rx_lt (vX13_theField_194 j) (vX13_theField_151 j))
set_option maxRecDepth 20000 in
theorem wX13_theField_146 (hZ : zO b e D A X) (j : Nat → rx_K) (hj : ∀ k pc, [27, 146][k]? = some pc → rx_OK (zV b e D A X) mX13_theField 3 pc (j k)) : rx_OK (zV b e D A X) mX13_theField 3 146 (vX13_theField_146 j) := by
  unfold vX13_theField_146
  refine s_iload hZ.1 dX13_theField_146 ?_
  exact s_if_lt dX13_theField_148 (by decide) (wX13_theField_194 hZ j hj) (wX13_theField_151 hZ j hj)
noncomputable def vX13_theField_135 (j : Nat → rx_K) : rx_K := o_ld rx_isR 0 (o_getf 13 32 (o_ld rx_isI 8 (o_ald 0 (o_const 8 (o_bi (fun x y => x - y) (o_st rx_isI 10 ((vX13_theField_146 j))))))))
set_option maxRecDepth 20000 in
theorem wX13_theField_135 (hZ : zO b e D A X) (j : Nat → rx_K) (hj : ∀ k pc, [27, 146][k]? = some pc → rx_OK (zV b e D A X) mX13_theField 3 pc (j k)) : rx_OK (zV b e D A X) mX13_theField 3 135 (vX13_theField_135 j) := by
  unfold vX13_theField_135
  refine s_aload_n hZ.1 dX13_theField_135 rfl ?_
  refine yg13_32 dX13_theField_136 zw4153 ?_
  refine s_iload hZ.1 dX13_theField_139 ?_
  refine s_iald (tt := 0) rfl dX13_theField_141 ?_
  refine s_iconst dX13_theField_142 (by decide +kernel) ?_
  refine s_isub dX13_theField_143 ?_
  refine s_istore hZ.1 dX13_theField_144 (Nat.le_of_ble_eq_true rfl) ?_
  exact (wX13_theField_146 hZ j hj)
noncomputable def vX13_theField_123 (j : Nat → rx_K) : rx_K := o_ld rx_isR 0 (o_getf 13 96 (o_ld rx_isI 6 (o_inc 6 (1) (o_ld rx_isI 9 (o_ast 0 (fun v => v) rx_isI ((vX13_theField_135 j)))))))
set_option maxRecDepth 20000 in
theorem wX13_theField_123 (hZ : zO b e D A X) (j : Nat → rx_K) (hj : ∀ k pc, [27, 146][k]? = some pc → rx_OK (zV b e D A X) mX13_theField 3 pc (j k)) : rx_OK (zV b e D A X) mX13_theField 3 123 (vX13_theField_123 j) := by
  unfold vX13_theField_123
  refine s_aload_n hZ.1 dX13_theField_123 rfl ?_
  refine yg13_96 dX13_theField_124 zw4217 ?_
  refine s_iload hZ.1 dX13_theField_127 ?_
  refine s_iinc hZ.1 dX13_theField_129 (Nat.le_of_ble_eq_true rfl) ?_
  refine s_iload hZ.1 dX13_theField_132 ?_
  refine s_iast hZ.1 (tt := 0) rfl dX13_theField_134 ?_
  exact (wX13_theField_135 hZ j hj)
noncomputable def vX13_theField_108 (j : Nat → rx_K) : rx_K := o_ld rx_isR 0 (o_ld rx_isI 8 (o_callV 1 13 FX13_parent (o_st rx_isI 9 (o_ld rx_isI 9 (o_const 34359738352 (o_c2 rx_eq (vX13_theField_135 j) (vX13_theField_123 j)))))))
set_option maxRecDepth 20000 in
theorem wX13_theField_108 (hZ : zO b e D A X) (j : Nat → rx_K) (hj : ∀ k pc, [27, 146][k]? = some pc → rx_OK (zV b e D A X) mX13_theField 3 pc (j k)) : rx_OK (zV b e D A X) mX13_theField 3 108 (vX13_theField_108 j) := by
  unfold vX13_theField_108
  refine s_aload_n hZ.1 dX13_theField_108 rfl ?_
  refine s_iload hZ.1 dX13_theField_109 ?_
  refine s_callV hZ.1 (Met_X13_parent hZ) (Nat.le_of_ble_eq_true rfl) vy_X13_parent zcl13 zw3220 zw233 (Or.inl zw3218) dX13_theField_111 ?_
  refine s_istore hZ.1 dX13_theField_114 (Nat.le_of_ble_eq_true rfl) ?_
  refine s_iload hZ.1 dX13_theField_116 ?_
  refine s_bipush dX13_theField_118 (by decide +kernel) ?_
  exact s_icmp_eq dX13_theField_120 (by decide) (wX13_theField_135 hZ j hj) (wX13_theField_123 hZ j hj)
noncomputable def vX13_theField_65 (j : Nat → rx_K) : rx_K := o_ld rx_isR 0 (o_getf 13 94 (o_ld rx_isI 8 (o_ld rx_isR 0 (o_getf 13 95 (o_ast 0 (fun v => v) rx_isI (o_ld rx_isR 0 (o_getf 13 97 (o_ld rx_isR 0 (o_getf 13 98 (o_ld rx_isI 8 (o_ast 0 (fun v => v) rx_isI (o_ld rx_isR 0 (o_dup (o_getf 13 98 (o_const 8 (o_bi (fun x y => x + y) (o_putf rx_isI 13 98 (o_ld rx_isR 0 (o_ld rx_isI 8 (o_ld rx_isL 2 (o_ld rx_isL 4 (o_callV 3 13 FX13_ownField (o_st rx_isI 7 ((vX13_theField_108 j)))))))))))))))))))))))))
set_option maxRecDepth 20000 in
theorem wX13_theField_65 (hZ : zO b e D A X) (j : Nat → rx_K) (hj : ∀ k pc, [27, 146][k]? = some pc → rx_OK (zV b e D A X) mX13_theField 3 pc (j k)) : rx_OK (zV b e D A X) mX13_theField 3 65 (vX13_theField_65 j) := by
  unfold vX13_theField_65
  refine s_aload_n hZ.1 dX13_theField_65 rfl ?_
  refine yg13_94 dX13_theField_66 zw4215 ?_
  refine s_iload hZ.1 dX13_theField_69 ?_
  refine s_aload_n hZ.1 dX13_theField_71 rfl ?_
  refine yg13_95 dX13_theField_72 zw4216 ?_
  refine s_iast hZ.1 (tt := 0) rfl dX13_theField_75 ?_
  refine s_aload_n hZ.1 dX13_theField_76 rfl ?_
  refine yg13_97 dX13_theField_77 zw4218 ?_
  refine s_aload_n hZ.1 dX13_theField_80 rfl ?_
  refine yg13_98 dX13_theField_81 zw4219 ?_
  refine s_iload hZ.1 dX13_theField_84 ?_
  refine s_iast hZ.1 (tt := 0) rfl dX13_theField_86 ?_
  refine s_aload_n hZ.1 dX13_theField_87 rfl ?_
  refine s_dup hZ.1 dX13_theField_88 ?_
  refine yg13_98 dX13_theField_89 zw4219 ?_
  refine s_iconst dX13_theField_92 (by decide +kernel) ?_
  refine s_iadd dX13_theField_93 ?_
  refine yp13_98 hZ.1 dX13_theField_94 zw4219 ?_
  refine s_aload_n hZ.1 dX13_theField_97 rfl ?_
  refine s_iload hZ.1 dX13_theField_98 ?_
  refine s_lload_n hZ.1 dX13_theField_100 rfl ?_
  refine s_lload hZ.1 dX13_theField_101 ?_
  refine s_callV hZ.1 (Met_X13_ownField hZ) (Nat.le_of_ble_eq_true rfl) vy_X13_ownField zcl13 zw3351 zw263 (Or.inl zw3349) dX13_theField_103 ?_
  refine s_istore hZ.1 dX13_theField_106 (Nat.le_of_ble_eq_true rfl) ?_
  exact (wX13_theField_108 hZ j hj)
noncomputable def vX13_theField_39 (j : Nat → rx_K) : rx_K := o_inc 6 (-1) (o_ld rx_isR 0 (o_getf 13 96 (o_ld rx_isI 6 (o_ald 0 (o_st rx_isI 8 (o_ld rx_isR 0 (o_getf 13 94 (o_ld rx_isI 8 (o_ald 0 (o_ld rx_isR 0 (o_getf 13 95 (o_c2 rx_eq (vX13_theField_194 j) (vX13_theField_65 j)))))))))))))
set_option maxRecDepth 20000 in
theorem wX13_theField_39 (hZ : zO b e D A X) (j : Nat → rx_K) (hj : ∀ k pc, [27, 146][k]? = some pc → rx_OK (zV b e D A X) mX13_theField 3 pc (j k)) : rx_OK (zV b e D A X) mX13_theField 3 39 (vX13_theField_39 j) := by
  unfold vX13_theField_39
  refine s_iinc hZ.1 dX13_theField_39 (Nat.le_of_ble_eq_true rfl) ?_
  refine s_aload_n hZ.1 dX13_theField_42 rfl ?_
  refine yg13_96 dX13_theField_43 zw4217 ?_
  refine s_iload hZ.1 dX13_theField_46 ?_
  refine s_iald (tt := 0) rfl dX13_theField_48 ?_
  refine s_istore hZ.1 dX13_theField_49 (Nat.le_of_ble_eq_true rfl) ?_
  refine s_aload_n hZ.1 dX13_theField_51 rfl ?_
  refine yg13_94 dX13_theField_52 zw4215 ?_
  refine s_iload hZ.1 dX13_theField_55 ?_
  refine s_iald (tt := 0) rfl dX13_theField_57 ?_
  refine s_aload_n hZ.1 dX13_theField_58 rfl ?_
  refine yg13_95 dX13_theField_59 zw4216 ?_
  exact s_icmp_eq dX13_theField_62 (by decide) (wX13_theField_194 hZ j hj) (wX13_theField_65 hZ j hj)
noncomputable def vX13_theField_32 (j : Nat → rx_K) : rx_K := o_ld rx_isI 7 (o_const 34359738352 (o_c2 rx_eq (vX13_theField_39 j) (vX13_theField_197 j)))
set_option maxRecDepth 20000 in
theorem wX13_theField_32 (hZ : zO b e D A X) (j : Nat → rx_K) (hj : ∀ k pc, [27, 146][k]? = some pc → rx_OK (zV b e D A X) mX13_theField 3 pc (j k)) : rx_OK (zV b e D A X) mX13_theField 3 32 (vX13_theField_32 j) := by
  unfold vX13_theField_32
  refine s_iload hZ.1 dX13_theField_32 ?_
  refine s_bipush dX13_theField_34 (by decide +kernel) ?_
  exact s_icmp_ne dX13_theField_36 (by decide) (wX13_theField_197 hZ j hj) (wX13_theField_39 hZ j hj)
noncomputable def vX13_theField_27 (j : Nat → rx_K) : rx_K := o_ld rx_isI 6 (o_c1 (fun h x y => rx_lt h y x) (vX13_theField_32 j) (vX13_theField_197 j))
set_option maxRecDepth 20000 in
theorem wX13_theField_27 (hZ : zO b e D A X) (j : Nat → rx_K) (hj : ∀ k pc, [27, 146][k]? = some pc → rx_OK (zV b e D A X) mX13_theField 3 pc (j k)) : rx_OK (zV b e D A X) mX13_theField 3 27 (vX13_theField_27 j) := by
  unfold vX13_theField_27
  refine s_iload hZ.1 dX13_theField_27 ?_
  exact s_if_le dX13_theField_29 (by decide) (wX13_theField_197 hZ j hj) (wX13_theField_32 hZ j hj)
noncomputable def vX13_theField_0 (j : Nat → rx_K) : rx_K := o_ld rx_isR 0 (o_callV 0 13 FX13_newStamp (o_ld rx_isR 0 (o_const 0 (o_putf rx_isI 13 98 (o_const 0 (o_st rx_isI 6 (o_ld rx_isR 0 (o_getf 13 96 (o_ld rx_isI 6 (o_inc 6 (1) (o_ld rx_isI 1 (o_ast 0 (fun v => v) rx_isI (o_const 34359738352 (o_st rx_isI 7 ((vX13_theField_27 j))))))))))))))))
set_option maxRecDepth 20000 in
theorem wX13_theField_0 (hZ : zO b e D A X) (j : Nat → rx_K) (hj : ∀ k pc, [27, 146][k]? = some pc → rx_OK (zV b e D A X) mX13_theField 3 pc (j k)) : rx_OK (zV b e D A X) mX13_theField 3 0 (vX13_theField_0 j) := by
  unfold vX13_theField_0
  refine s_aload_n hZ.1 dX13_theField_0 rfl ?_
  refine s_callV hZ.1 (Met_X13_newStamp hZ) (Nat.le_of_ble_eq_true rfl) vy_X13_newStamp zcl13 zw3215 zw232 (Or.inl zw3213) dX13_theField_1 ?_
  refine s_aload_n hZ.1 dX13_theField_4 rfl ?_
  refine s_iconst dX13_theField_5 (by decide +kernel) ?_
  refine yp13_98 hZ.1 dX13_theField_6 zw4219 ?_
  refine s_iconst dX13_theField_9 (by decide +kernel) ?_
  refine s_istore hZ.1 dX13_theField_10 (Nat.le_of_ble_eq_true rfl) ?_
  refine s_aload_n hZ.1 dX13_theField_12 rfl ?_
  refine yg13_96 dX13_theField_13 zw4217 ?_
  refine s_iload hZ.1 dX13_theField_16 ?_
  refine s_iinc hZ.1 dX13_theField_18 (Nat.le_of_ble_eq_true rfl) ?_
  refine s_iload_n hZ.1 dX13_theField_21 rfl ?_
  refine s_iast hZ.1 (tt := 0) rfl dX13_theField_22 ?_
  refine s_bipush dX13_theField_23 (by decide +kernel) ?_
  refine s_istore hZ.1 dX13_theField_25 (Nat.le_of_ble_eq_true rfl) ?_
  exact (wX13_theField_27 hZ j hj)
noncomputable def vhX13_theField (j : Nat → rx_K) : List rx_K := [vX13_theField_27 j, vX13_theField_146 j]
theorem vlX13_theField (hZ : zO b e D A X) : ∀ n k pc, [27, 146][k]? = some pc → rx_OK (zV b e D A X) mX13_theField 3 pc (rx_J (vhX13_theField) n k) := rx_loop fun j hj k pc h => by
  match k, h with
  | 0, h =>
    have e9 := Option.some.inj (show some 27 = some pc from h)
    subst e9
    exact wX13_theField_27 hZ j hj
  | 1, h =>
    have e9 := Option.some.inj (show some 146 = some pc from h)
    subst e9
    exact wX13_theField_146 hZ j hj
  | _ + 2, h => exact absurd h (by simp)
noncomputable def FX13_theField : List Nat → rx_H → Option (Nat × rx_H) := rx_ent 12 (vX13_theField_0 (rx_J (vhX13_theField) 4000000000))
theorem Met_X13_theField (hZ : zO b e D A X) : rx_Met (zV b e D A X) 3 yX13_theField mX13_theField (FX13_theField) := rx_entry hZ.1 (wX13_theField_0 hZ _ (vlX13_theField hZ 4000000000)) (by decide +kernel) rfl (fun h => by cases h)
abbrev mX13_sameParams : rx_M := (RX13, cX13_sameParams, 5, (some .boolean), false)
theorem vy_X13_sameParams : rx_Y (zV b e D A X) yX13_sameParams mX13_sameParams 2 := ⟨zw3244, zw431, by decide, by decide +kernel, by decide +kernel, by decide +kernel⟩
noncomputable def vX13_sameParams_77 (j : Nat → rx_K) : rx_K := o_ld rx_isI 3 (o_ret1 rx_isZ)
set_option maxRecDepth 20000 in
theorem wX13_sameParams_77 (hZ : zO b e D A X) (j : Nat → rx_K) (hj : ∀ k pc, [24][k]? = some pc → rx_OK (zV b e D A X) mX13_sameParams 0 pc (j k)) : rx_OK (zV b e D A X) mX13_sameParams 0 77 (vX13_sameParams_77 j) := by
  unfold vX13_sameParams_77
  refine s_iload_n hZ.1 dX13_sameParams_77 rfl ?_
  exact s_zret rx_z_ok rfl dX13_sameParams_78
noncomputable def vX13_sameParams_70 (j : Nat → rx_K) : rx_K := o_st rx_isI 3 (o_inc 4 (1) ((j 0)))
set_option maxRecDepth 20000 in
theorem wX13_sameParams_70 (hZ : zO b e D A X) (j : Nat → rx_K) (hj : ∀ k pc, [24][k]? = some pc → rx_OK (zV b e D A X) mX13_sameParams 0 pc (j k)) : rx_OK (zV b e D A X) mX13_sameParams 0 70 (vX13_sameParams_70 j) := by
  unfold vX13_sameParams_70
  refine s_istore_n hZ.1 dX13_sameParams_70 rfl (Nat.le_of_ble_eq_true rfl) ?_
  refine s_iinc hZ.1 dX13_sameParams_71 (Nat.le_of_ble_eq_true rfl) ?_
  exact s_goto dX13_sameParams_74 (by decide) (hj 0 24 rfl)
noncomputable def vX13_sameParams_69 (j : Nat → rx_K) : rx_K := o_const 0 ((vX13_sameParams_70 j))
set_option maxRecDepth 20000 in
theorem wX13_sameParams_69 (hZ : zO b e D A X) (j : Nat → rx_K) (hj : ∀ k pc, [24][k]? = some pc → rx_OK (zV b e D A X) mX13_sameParams 0 pc (j k)) : rx_OK (zV b e D A X) mX13_sameParams 0 69 (vX13_sameParams_69 j) := by
  unfold vX13_sameParams_69
  refine s_iconst dX13_sameParams_69 (by decide +kernel) ?_
  exact (wX13_sameParams_70 hZ j hj)
noncomputable def vX13_sameParams_65 (j : Nat → rx_K) : rx_K := o_const 8 ((vX13_sameParams_70 j))
set_option maxRecDepth 20000 in
theorem wX13_sameParams_65 (hZ : zO b e D A X) (j : Nat → rx_K) (hj : ∀ k pc, [24][k]? = some pc → rx_OK (zV b e D A X) mX13_sameParams 0 pc (j k)) : rx_OK (zV b e D A X) mX13_sameParams 0 65 (vX13_sameParams_65 j) := by
  unfold vX13_sameParams_65
  refine s_iconst dX13_sameParams_65 (by decide +kernel) ?_
  exact s_goto dX13_sameParams_66 (by decide) (wX13_sameParams_70 hZ j hj)
noncomputable def vX13_sameParams_39 (j : Nat → rx_K) : rx_K := o_ld rx_isR 0 (o_getf 13 56 (o_const 32 (o_ld rx_isI 1 (o_bi (fun x y => x * y) (o_ld rx_isI 4 (o_bi (fun x y => x + y) (o_ald 1 (o_ld rx_isR 0 (o_getf 13 56 (o_const 32 (o_ld rx_isI 2 (o_bi (fun x y => x * y) (o_ld rx_isI 4 (o_bi (fun x y => x + y) (o_ald 1 (o_bc (fun x y => lg_cmp x y) (o_c1 rx_eq (vX13_sameParams_65 j) (vX13_sameParams_69 j))))))))))))))))))
set_option maxRecDepth 20000 in
theorem wX13_sameParams_39 (hZ : zO b e D A X) (j : Nat → rx_K) (hj : ∀ k pc, [24][k]? = some pc → rx_OK (zV b e D A X) mX13_sameParams 0 pc (j k)) : rx_OK (zV b e D A X) mX13_sameParams 0 39 (vX13_sameParams_39 j) := by
  unfold vX13_sameParams_39
  refine s_aload_n hZ.1 dX13_sameParams_39 rfl ?_
  refine yg13_56 dX13_sameParams_40 zw4177 ?_
  refine s_iconst dX13_sameParams_43 (by decide +kernel) ?_
  refine s_iload_n hZ.1 dX13_sameParams_44 rfl ?_
  refine s_imul dX13_sameParams_45 ?_
  refine s_iload hZ.1 dX13_sameParams_46 ?_
  refine s_iadd dX13_sameParams_48 ?_
  refine s_lald (tt := 1) rfl dX13_sameParams_49 ?_
  refine s_aload_n hZ.1 dX13_sameParams_50 rfl ?_
  refine yg13_56 dX13_sameParams_51 zw4177 ?_
  refine s_iconst dX13_sameParams_54 (by decide +kernel) ?_
  refine s_iload_n hZ.1 dX13_sameParams_55 rfl ?_
  refine s_imul dX13_sameParams_56 ?_
  refine s_iload hZ.1 dX13_sameParams_57 ?_
  refine s_iadd dX13_sameParams_59 ?_
  refine s_lald (tt := 1) rfl dX13_sameParams_60 ?_
  refine s_lcmp dX13_sameParams_61 ?_
  exact s_if_ne dX13_sameParams_62 (by decide) (wX13_sameParams_69 hZ j hj) (wX13_sameParams_65 hZ j hj)
noncomputable def vX13_sameParams_35 (j : Nat → rx_K) : rx_K := o_ld rx_isI 3 (o_c1 rx_eq (vX13_sameParams_77 j) (vX13_sameParams_39 j))
set_option maxRecDepth 20000 in
theorem wX13_sameParams_35 (hZ : zO b e D A X) (j : Nat → rx_K) (hj : ∀ k pc, [24][k]? = some pc → rx_OK (zV b e D A X) mX13_sameParams 0 pc (j k)) : rx_OK (zV b e D A X) mX13_sameParams 0 35 (vX13_sameParams_35 j) := by
  unfold vX13_sameParams_35
  refine s_iload_n hZ.1 dX13_sameParams_35 rfl ?_
  exact s_if_eq dX13_sameParams_36 (by decide) (wX13_sameParams_77 hZ j hj) (wX13_sameParams_39 hZ j hj)
noncomputable def vX13_sameParams_24 (j : Nat → rx_K) : rx_K := o_ld rx_isI 4 (o_ld rx_isR 0 (o_getf 13 55 (o_ld rx_isI 1 (o_ald 0 (o_c2 rx_lt (vX13_sameParams_35 j) (vX13_sameParams_77 j))))))
set_option maxRecDepth 20000 in
theorem wX13_sameParams_24 (hZ : zO b e D A X) (j : Nat → rx_K) (hj : ∀ k pc, [24][k]? = some pc → rx_OK (zV b e D A X) mX13_sameParams 0 pc (j k)) : rx_OK (zV b e D A X) mX13_sameParams 0 24 (vX13_sameParams_24 j) := by
  unfold vX13_sameParams_24
  refine s_iload hZ.1 dX13_sameParams_24 ?_
  refine s_aload_n hZ.1 dX13_sameParams_26 rfl ?_
  refine yg13_55 dX13_sameParams_27 zw4176 ?_
  refine s_iload_n hZ.1 dX13_sameParams_30 rfl ?_
  refine s_iald (tt := 0) rfl dX13_sameParams_31 ?_
  exact s_icmp_ge dX13_sameParams_32 (by decide) (wX13_sameParams_77 hZ j hj) (wX13_sameParams_35 hZ j hj)
noncomputable def vX13_sameParams_20 (j : Nat → rx_K) : rx_K := o_st rx_isI 3 (o_const 0 (o_st rx_isI 4 ((vX13_sameParams_24 j))))
set_option maxRecDepth 20000 in
theorem wX13_sameParams_20 (hZ : zO b e D A X) (j : Nat → rx_K) (hj : ∀ k pc, [24][k]? = some pc → rx_OK (zV b e D A X) mX13_sameParams 0 pc (j k)) : rx_OK (zV b e D A X) mX13_sameParams 0 20 (vX13_sameParams_20 j) := by
  unfold vX13_sameParams_20
  refine s_istore_n hZ.1 dX13_sameParams_20 rfl (Nat.le_of_ble_eq_true rfl) ?_
  refine s_iconst dX13_sameParams_21 (by decide +kernel) ?_
  refine s_istore hZ.1 dX13_sameParams_22 (Nat.le_of_ble_eq_true rfl) ?_
  exact (wX13_sameParams_24 hZ j hj)
noncomputable def vX13_sameParams_19 (j : Nat → rx_K) : rx_K := o_const 0 ((vX13_sameParams_20 j))
set_option maxRecDepth 20000 in
theorem wX13_sameParams_19 (hZ : zO b e D A X) (j : Nat → rx_K) (hj : ∀ k pc, [24][k]? = some pc → rx_OK (zV b e D A X) mX13_sameParams 0 pc (j k)) : rx_OK (zV b e D A X) mX13_sameParams 0 19 (vX13_sameParams_19 j) := by
  unfold vX13_sameParams_19
  refine s_iconst dX13_sameParams_19 (by decide +kernel) ?_
  exact (wX13_sameParams_20 hZ j hj)
noncomputable def vX13_sameParams_15 (j : Nat → rx_K) : rx_K := o_const 8 ((vX13_sameParams_20 j))
set_option maxRecDepth 20000 in
theorem wX13_sameParams_15 (hZ : zO b e D A X) (j : Nat → rx_K) (hj : ∀ k pc, [24][k]? = some pc → rx_OK (zV b e D A X) mX13_sameParams 0 pc (j k)) : rx_OK (zV b e D A X) mX13_sameParams 0 15 (vX13_sameParams_15 j) := by
  unfold vX13_sameParams_15
  refine s_iconst dX13_sameParams_15 (by decide +kernel) ?_
  exact s_goto dX13_sameParams_16 (by decide) (wX13_sameParams_20 hZ j hj)
noncomputable def vX13_sameParams_0 (j : Nat → rx_K) : rx_K := o_ld rx_isR 0 (o_getf 13 55 (o_ld rx_isI 1 (o_ald 0 (o_ld rx_isR 0 (o_getf 13 55 (o_ld rx_isI 2 (o_ald 0 (o_c2 rx_eq (vX13_sameParams_15 j) (vX13_sameParams_19 j)))))))))
set_option maxRecDepth 20000 in
theorem wX13_sameParams_0 (hZ : zO b e D A X) (j : Nat → rx_K) (hj : ∀ k pc, [24][k]? = some pc → rx_OK (zV b e D A X) mX13_sameParams 0 pc (j k)) : rx_OK (zV b e D A X) mX13_sameParams 0 0 (vX13_sameParams_0 j) := by
  unfold vX13_sameParams_0
  refine s_aload_n hZ.1 dX13_sameParams_0 rfl ?_
  refine yg13_55 dX13_sameParams_1 zw4176 ?_
  refine s_iload_n hZ.1 dX13_sameParams_4 rfl ?_
  refine s_iald (tt := 0) rfl dX13_sameParams_5 ?_
  refine s_aload_n hZ.1 dX13_sameParams_6 rfl ?_
  refine yg13_55 dX13_sameParams_7 zw4176 ?_
  refine s_iload_n hZ.1 dX13_sameParams_10 rfl ?_
  refine s_iald (tt := 0) rfl dX13_sameParams_11 ?_
  exact s_icmp_ne dX13_sameParams_12 (by decide) (wX13_sameParams_19 hZ j hj) (wX13_sameParams_15 hZ j hj)
noncomputable def vhX13_sameParams (j : Nat → rx_K) : List rx_K := [vX13_sameParams_24 j]
theorem vlX13_sameParams (hZ : zO b e D A X) : ∀ n k pc, [24][k]? = some pc → rx_OK (zV b e D A X) mX13_sameParams 0 pc (rx_J (vhX13_sameParams) n k) := rx_loop fun j hj k pc h => by
  match k, h with
  | 0, h =>
    have e9 := Option.some.inj (show some 24 = some pc from h)
    subst e9
    exact wX13_sameParams_24 hZ j hj
  | _ + 1, h => exact absurd h (by simp)
noncomputable def FX13_sameParams : List Nat → rx_H → Option (Nat × rx_H) := rx_ent 5 (vX13_sameParams_0 (rx_J (vhX13_sameParams) 4000000000))
theorem Met_X13_sameParams (hZ : zO b e D A X) : rx_Met (zV b e D A X) 0 yX13_sameParams mX13_sameParams (FX13_sameParams) := rx_entry hZ.1 (wX13_sameParams_0 hZ _ (vlX13_sameParams hZ 4000000000)) (by decide +kernel) rfl (fun h => by cases h)
abbrev mX13_sameSign : rx_M := (RX13, cX13_sameSign, 3, (some .boolean), false)
theorem vy_X13_sameSign : rx_Y (zV b e D A X) yX13_sameSign mX13_sameSign 2 := ⟨zw3300, zw431, by decide, by decide +kernel, by decide +kernel, by decide +kernel⟩
noncomputable def vX13_sameSign_46 : rx_K := o_ret1 rx_isZ
set_option maxRecDepth 20000 in
theorem wX13_sameSign_46 (hZ : zO b e D A X) : rx_OK (zV b e D A X) mX13_sameSign 1 46 vX13_sameSign_46 := by
  unfold vX13_sameSign_46
  exact s_zret rx_z_ok rfl dX13_sameSign_46
noncomputable def vX13_sameSign_45 : rx_K := o_const 0 (vX13_sameSign_46)
set_option maxRecDepth 20000 in
theorem wX13_sameSign_45 (hZ : zO b e D A X) : rx_OK (zV b e D A X) mX13_sameSign 1 45 vX13_sameSign_45 := by
  unfold vX13_sameSign_45
  refine s_iconst dX13_sameSign_45 (by decide +kernel) ?_
  exact (wX13_sameSign_46 hZ)
noncomputable def vX13_sameSign_41 : rx_K := o_const 8 (vX13_sameSign_46)
set_option maxRecDepth 20000 in
theorem wX13_sameSign_41 (hZ : zO b e D A X) : rx_OK (zV b e D A X) mX13_sameSign 1 41 vX13_sameSign_41 := by
  unfold vX13_sameSign_41
  refine s_iconst dX13_sameSign_41 (by decide +kernel) ?_
  exact s_goto dX13_sameSign_42 (by decide) (wX13_sameSign_46 hZ)
noncomputable def vX13_sameSign_32 : rx_K := o_ld rx_isR 0 (o_ld rx_isI 1 (o_ld rx_isI 2 (o_callV 2 13 FX13_sameParams (o_c1 rx_eq vX13_sameSign_45 vX13_sameSign_41))))
set_option maxRecDepth 20000 in
theorem wX13_sameSign_32 (hZ : zO b e D A X) : rx_OK (zV b e D A X) mX13_sameSign 1 32 vX13_sameSign_32 := by
  unfold vX13_sameSign_32
  refine s_aload_n hZ.1 dX13_sameSign_32 rfl ?_
  refine s_iload_n hZ.1 dX13_sameSign_33 rfl ?_
  refine s_iload_n hZ.1 dX13_sameSign_34 rfl ?_
  refine s_callV hZ.1 (Met_X13_sameParams hZ) (Nat.le_of_ble_eq_true rfl) vy_X13_sameParams zcl13 zw3243 zw238 (Or.inl zw3241) dX13_sameSign_35 ?_
  exact s_if_eq dX13_sameSign_38 (by decide) (wX13_sameSign_45 hZ) (wX13_sameSign_41 hZ)
noncomputable def vX13_sameSign_16 : rx_K := o_ld rx_isR 0 (o_getf 13 53 (o_ld rx_isI 1 (o_ald 1 (o_ld rx_isR 0 (o_getf 13 53 (o_ld rx_isI 2 (o_ald 1 (o_bc (fun x y => lg_cmp x y) (o_c1 rx_eq vX13_sameSign_32 vX13_sameSign_45)))))))))
set_option maxRecDepth 20000 in
theorem wX13_sameSign_16 (hZ : zO b e D A X) : rx_OK (zV b e D A X) mX13_sameSign 1 16 vX13_sameSign_16 := by
  unfold vX13_sameSign_16
  refine s_aload_n hZ.1 dX13_sameSign_16 rfl ?_
  refine yg13_53 dX13_sameSign_17 zw4174 ?_
  refine s_iload_n hZ.1 dX13_sameSign_20 rfl ?_
  refine s_lald (tt := 1) rfl dX13_sameSign_21 ?_
  refine s_aload_n hZ.1 dX13_sameSign_22 rfl ?_
  refine yg13_53 dX13_sameSign_23 zw4174 ?_
  refine s_iload_n hZ.1 dX13_sameSign_26 rfl ?_
  refine s_lald (tt := 1) rfl dX13_sameSign_27 ?_
  refine s_lcmp dX13_sameSign_28 ?_
  exact s_if_ne dX13_sameSign_29 (by decide) (wX13_sameSign_45 hZ) (wX13_sameSign_32 hZ)
noncomputable def vX13_sameSign_0 : rx_K := o_ld rx_isR 0 (o_getf 13 51 (o_ld rx_isI 1 (o_ald 1 (o_ld rx_isR 0 (o_getf 13 51 (o_ld rx_isI 2 (o_ald 1 (o_bc (fun x y => lg_cmp x y) (o_c1 rx_eq vX13_sameSign_16 vX13_sameSign_45)))))))))
set_option maxRecDepth 20000 in
theorem wX13_sameSign_0 (hZ : zO b e D A X) : rx_OK (zV b e D A X) mX13_sameSign 1 0 vX13_sameSign_0 := by
  unfold vX13_sameSign_0
  refine s_aload_n hZ.1 dX13_sameSign_0 rfl ?_
  refine yg13_51 dX13_sameSign_1 zw4172 ?_
  refine s_iload_n hZ.1 dX13_sameSign_4 rfl ?_
  refine s_lald (tt := 1) rfl dX13_sameSign_5 ?_
  refine s_aload_n hZ.1 dX13_sameSign_6 rfl ?_
  refine yg13_51 dX13_sameSign_7 zw4172 ?_
  refine s_iload_n hZ.1 dX13_sameSign_10 rfl ?_
  refine s_lald (tt := 1) rfl dX13_sameSign_11 ?_
  refine s_lcmp dX13_sameSign_12 ?_
  exact s_if_ne dX13_sameSign_13 (by decide) (wX13_sameSign_45 hZ) (wX13_sameSign_16 hZ)
noncomputable def FX13_sameSign : List Nat → rx_H → Option (Nat × rx_H) := rx_ent 3 vX13_sameSign_0
theorem Met_X13_sameSign (hZ : zO b e D A X) : rx_Met (zV b e D A X) 1 yX13_sameSign mX13_sameSign (FX13_sameSign) := rx_entry hZ.1 (wX13_sameSign_0 hZ) (by decide +kernel) rfl (fun h => by cases h)
abbrev mX13_ownMethod : rx_M := (RX13, cX13_ownMethod, 5, (some .int), false)
theorem vy_X13_ownMethod : rx_Y (zV b e D A X) yX13_ownMethod mX13_ownMethod 2 := ⟨zw3320, zw431, by decide, by decide +kernel, by decide +kernel, by decide +kernel⟩
noncomputable def vX13_ownMethod_50 (j : Nat → rx_K) : rx_K := o_const 34359738352 (o_ret1 rx_isI)
set_option maxRecDepth 20000 in
theorem wX13_ownMethod_50 (hZ : zO b e D A X) (j : Nat → rx_K) (hj : ∀ k pc, [2][k]? = some pc → rx_OK (zV b e D A X) mX13_ownMethod 2 pc (j k)) : rx_OK (zV b e D A X) mX13_ownMethod 2 50 (vX13_ownMethod_50 j) := by
  unfold vX13_ownMethod_50
  refine s_bipush dX13_ownMethod_50 (by decide +kernel) ?_
  exact s_iret hZ.1 rfl dX13_ownMethod_52
noncomputable def vX13_ownMethod_44 (j : Nat → rx_K) : rx_K := o_inc 3 (1) ((j 0))
set_option maxRecDepth 20000 in
theorem wX13_ownMethod_44 (hZ : zO b e D A X) (j : Nat → rx_K) (hj : ∀ k pc, [2][k]? = some pc → rx_OK (zV b e D A X) mX13_ownMethod 2 pc (j k)) : rx_OK (zV b e D A X) mX13_ownMethod 2 44 (vX13_ownMethod_44 j) := by
  unfold vX13_ownMethod_44
  refine s_iinc hZ.1 dX13_ownMethod_44 (Nat.le_of_ble_eq_true rfl) ?_
  exact s_goto dX13_ownMethod_47 (by decide) (hj 0 2 rfl)
noncomputable def vX13_ownMethod_41 (j : Nat → rx_K) : rx_K := o_ld rx_isI 4 (o_ret1 rx_isI)
set_option maxRecDepth 20000 in
theorem wX13_ownMethod_41 (hZ : zO b e D A X) (j : Nat → rx_K) (hj : ∀ k pc, [2][k]? = some pc → rx_OK (zV b e D A X) mX13_ownMethod 2 pc (j k)) : rx_OK (zV b e D A X) mX13_ownMethod 2 41 (vX13_ownMethod_41 j) := by
  unfold vX13_ownMethod_41
  refine s_iload hZ.1 dX13_ownMethod_41 ?_
  exact s_iret hZ.1 rfl dX13_ownMethod_43
noncomputable def vX13_ownMethod_31 (j : Nat → rx_K) : rx_K := o_ld rx_isR 0 (o_ld rx_isI 4 (o_ld rx_isI 2 (o_callV 2 13 FX13_sameSign (o_c1 rx_eq (vX13_ownMethod_44 j) (vX13_ownMethod_41 j)))))
set_option maxRecDepth 20000 in
theorem wX13_ownMethod_31 (hZ : zO b e D A X) (j : Nat → rx_K) (hj : ∀ k pc, [2][k]? = some pc → rx_OK (zV b e D A X) mX13_ownMethod 2 pc (j k)) : rx_OK (zV b e D A X) mX13_ownMethod 2 31 (vX13_ownMethod_31 j) := by
  unfold vX13_ownMethod_31
  refine s_aload_n hZ.1 dX13_ownMethod_31 rfl ?_
  refine s_iload hZ.1 dX13_ownMethod_32 ?_
  refine s_iload_n hZ.1 dX13_ownMethod_34 rfl ?_
  refine s_callV hZ.1 (Met_X13_sameSign hZ) (Nat.le_of_ble_eq_true rfl) vy_X13_sameSign zcl13 zw3299 zw251 (Or.inl zw3297) dX13_ownMethod_35 ?_
  exact s_if_eq dX13_ownMethod_38 (by decide) (wX13_ownMethod_44 hZ j hj) (wX13_ownMethod_41 hZ j hj)
noncomputable def vX13_ownMethod_12 (j : Nat → rx_K) : rx_K := o_ld rx_isI 1 (o_const 272 (o_bi (fun x y => x * y) (o_ld rx_isI 3 (o_bi (fun x y => x + y) (o_st rx_isI 4 (o_ld rx_isR 0 (o_getf 13 42 (o_ld rx_isI 4 (o_ald 0 (o_const 8 (o_c2 rx_eq (vX13_ownMethod_31 j) (vX13_ownMethod_44 j))))))))))))
set_option maxRecDepth 20000 in
theorem wX13_ownMethod_12 (hZ : zO b e D A X) (j : Nat → rx_K) (hj : ∀ k pc, [2][k]? = some pc → rx_OK (zV b e D A X) mX13_ownMethod 2 pc (j k)) : rx_OK (zV b e D A X) mX13_ownMethod 2 12 (vX13_ownMethod_12 j) := by
  unfold vX13_ownMethod_12
  refine s_iload_n hZ.1 dX13_ownMethod_12 rfl ?_
  refine s_bipush dX13_ownMethod_13 (by decide +kernel) ?_
  refine s_imul dX13_ownMethod_15 ?_
  refine s_iload_n hZ.1 dX13_ownMethod_16 rfl ?_
  refine s_iadd dX13_ownMethod_17 ?_
  refine s_istore hZ.1 dX13_ownMethod_18 (Nat.le_of_ble_eq_true rfl) ?_
  refine s_aload_n hZ.1 dX13_ownMethod_20 rfl ?_
  refine yg13_42 dX13_ownMethod_21 zw4163 ?_
  refine s_iload hZ.1 dX13_ownMethod_24 ?_
  refine s_iald (tt := 0) rfl dX13_ownMethod_26 ?_
  refine s_iconst dX13_ownMethod_27 (by decide +kernel) ?_
  exact s_icmp_ne dX13_ownMethod_28 (by decide) (wX13_ownMethod_44 hZ j hj) (wX13_ownMethod_31 hZ j hj)
noncomputable def vX13_ownMethod_2 (j : Nat → rx_K) : rx_K := o_ld rx_isI 3 (o_ld rx_isR 0 (o_getf 13 41 (o_ld rx_isI 1 (o_ald 0 (o_c2 rx_lt (vX13_ownMethod_12 j) (vX13_ownMethod_50 j))))))
set_option maxRecDepth 20000 in
theorem wX13_ownMethod_2 (hZ : zO b e D A X) (j : Nat → rx_K) (hj : ∀ k pc, [2][k]? = some pc → rx_OK (zV b e D A X) mX13_ownMethod 2 pc (j k)) : rx_OK (zV b e D A X) mX13_ownMethod 2 2 (vX13_ownMethod_2 j) := by
  unfold vX13_ownMethod_2
  refine s_iload_n hZ.1 dX13_ownMethod_2 rfl ?_
  refine s_aload_n hZ.1 dX13_ownMethod_3 rfl ?_
  refine yg13_41 dX13_ownMethod_4 zw4162 ?_
  refine s_iload_n hZ.1 dX13_ownMethod_7 rfl ?_
  refine s_iald (tt := 0) rfl dX13_ownMethod_8 ?_
  exact s_icmp_ge dX13_ownMethod_9 (by decide) (wX13_ownMethod_50 hZ j hj) (wX13_ownMethod_12 hZ j hj)
noncomputable def vX13_ownMethod_0 (j : Nat → rx_K) : rx_K := o_const 0 (o_st rx_isI 3 ((vX13_ownMethod_2 j)))
set_option maxRecDepth 20000 in
theorem wX13_ownMethod_0 (hZ : zO b e D A X) (j : Nat → rx_K) (hj : ∀ k pc, [2][k]? = some pc → rx_OK (zV b e D A X) mX13_ownMethod 2 pc (j k)) : rx_OK (zV b e D A X) mX13_ownMethod 2 0 (vX13_ownMethod_0 j) := by
  unfold vX13_ownMethod_0
  refine s_iconst dX13_ownMethod_0 (by decide +kernel) ?_
  refine s_istore_n hZ.1 dX13_ownMethod_1 rfl (Nat.le_of_ble_eq_true rfl) ?_
  exact (wX13_ownMethod_2 hZ j hj)
noncomputable def vhX13_ownMethod (j : Nat → rx_K) : List rx_K := [vX13_ownMethod_2 j]
theorem vlX13_ownMethod (hZ : zO b e D A X) : ∀ n k pc, [2][k]? = some pc → rx_OK (zV b e D A X) mX13_ownMethod 2 pc (rx_J (vhX13_ownMethod) n k) := rx_loop fun j hj k pc h => by
  match k, h with
  | 0, h =>
    have e9 := Option.some.inj (show some 2 = some pc from h)
    subst e9
    exact wX13_ownMethod_2 hZ j hj
  | _ + 1, h => exact absurd h (by simp)
noncomputable def FX13_ownMethod : List Nat → rx_H → Option (Nat × rx_H) := rx_ent 5 (vX13_ownMethod_0 (rx_J (vhX13_ownMethod) 4000000000))
theorem Met_X13_ownMethod (hZ : zO b e D A X) : rx_Met (zV b e D A X) 2 yX13_ownMethod mX13_ownMethod (FX13_ownMethod) := rx_entry hZ.1 (wX13_ownMethod_0 hZ _ (vlX13_ownMethod hZ 4000000000)) (by decide +kernel) rfl (fun h => by cases h)
end ZM46

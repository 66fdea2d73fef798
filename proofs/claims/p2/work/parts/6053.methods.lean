section ZM53
variable {b : Nat} {e : Nat → Value} {D : va_G} {A : Nat → ClassId} {X : State → Prop}
noncomputable def vX13_judge_185 (g : Nat → List Nat → rx_H → Option (Nat × rx_H)) (j : Nat → rx_K) : rx_K := o_ld rx_isR 0 (o_getf 13 76 (o_ld rx_isI 1 (o_ald 1 (o_ret1 rx_isL))))
set_option maxRecDepth 20000 in
theorem wX13_judge_185 {dn : Nat} {g : Nat → List Nat → rx_H → Option (Nat × rx_H)} (hZ : zO b e D A X) (hg : ∀ i y M, vl13[i]? = some (y, M) → rx_Met (zV b e D A X) dn y M (g i)) (hd : 172 ≤ dn) (j : Nat → rx_K) (hj : ∀ k pc, [7, 117][k]? = some pc → rx_OK (zV b e D A X) mX13_judge (dn + 1) pc (j k)) : rx_OK (zV b e D A X) mX13_judge (dn + 1) 185 (vX13_judge_185 g j) := by
  unfold vX13_judge_185
  refine s_aload_n hZ.1 dX13_judge_185 rfl ?_
  refine yg13_76 dX13_judge_186 zw4197 ?_
  refine s_iload_n hZ.1 dX13_judge_189 rfl ?_
  refine s_lald (tt := 1) rfl dX13_judge_190 ?_
  exact s_lret rfl dX13_judge_191
noncomputable def vX13_judge_178 (g : Nat → List Nat → rx_H → Option (Nat × rx_H)) (j : Nat → rx_K) : rx_K := o_ast 1 (fun v => v) rx_isL (o_ld rx_isI 4 (o_st rx_isI 3 ((j 1))))
set_option maxRecDepth 20000 in
theorem wX13_judge_178 {dn : Nat} {g : Nat → List Nat → rx_H → Option (Nat × rx_H)} (hZ : zO b e D A X) (hg : ∀ i y M, vl13[i]? = some (y, M) → rx_Met (zV b e D A X) dn y M (g i)) (hd : 172 ≤ dn) (j : Nat → rx_K) (hj : ∀ k pc, [7, 117][k]? = some pc → rx_OK (zV b e D A X) mX13_judge (dn + 1) pc (j k)) : rx_OK (zV b e D A X) mX13_judge (dn + 1) 178 (vX13_judge_178 g j) := by
  unfold vX13_judge_178
  refine s_last (tt := 1) rfl dX13_judge_178 ?_
  refine s_iload hZ.1 dX13_judge_179 ?_
  refine s_istore_n hZ.1 dX13_judge_181 rfl (Nat.le_of_ble_eq_true rfl) ?_
  exact s_goto dX13_judge_182 (by decide) (hj 1 117 rfl)
noncomputable def vX13_judge_175 (g : Nat → List Nat → rx_H → Option (Nat × rx_H)) (j : Nat → rx_K) : rx_K := o_const 17 ((vX13_judge_178 g j))
set_option maxRecDepth 20000 in
theorem wX13_judge_175 {dn : Nat} {g : Nat → List Nat → rx_H → Option (Nat × rx_H)} (hZ : zO b e D A X) (hg : ∀ i y M, vl13[i]? = some (y, M) → rx_Met (zV b e D A X) dn y M (g i)) (hd : 172 ≤ dn) (j : Nat → rx_K) (hj : ∀ k pc, [7, 117][k]? = some pc → rx_OK (zV b e D A X) mX13_judge (dn + 1) pc (j k)) : rx_OK (zV b e D A X) mX13_judge (dn + 1) 175 (vX13_judge_175 g j) := by
  unfold vX13_judge_175
  refine s_ldc2 dX13_judge_175 zw3066 (by decide +kernel) ?_
  exact (wX13_judge_178 hZ hg hd j hj)
noncomputable def vX13_judge_159 (g : Nat → List Nat → rx_H → Option (Nat × rx_H)) (j : Nat → rx_K) : rx_K := o_ld rx_isR 0 (o_ld rx_isI 4 (o_ld rx_isI 3 (o_ld rx_isR 0 (o_getf 13 76 (o_ld rx_isI 3 (o_ald 1 (o_callV 3 13 (g 4) ((vX13_judge_178 g j)))))))))
set_option maxRecDepth 20000 in
theorem wX13_judge_159 {dn : Nat} {g : Nat → List Nat → rx_H → Option (Nat × rx_H)} (hZ : zO b e D A X) (hg : ∀ i y M, vl13[i]? = some (y, M) → rx_Met (zV b e D A X) dn y M (g i)) (hd : 172 ≤ dn) (j : Nat → rx_K) (hj : ∀ k pc, [7, 117][k]? = some pc → rx_OK (zV b e D A X) mX13_judge (dn + 1) pc (j k)) : rx_OK (zV b e D A X) mX13_judge (dn + 1) 159 (vX13_judge_159 g j) := by
  unfold vX13_judge_159
  refine s_aload_n hZ.1 dX13_judge_159 rfl ?_
  refine s_iload hZ.1 dX13_judge_160 ?_
  refine s_iload_n hZ.1 dX13_judge_162 rfl ?_
  refine s_aload_n hZ.1 dX13_judge_163 rfl ?_
  refine yg13_76 dX13_judge_164 zw4197 ?_
  refine s_iload_n hZ.1 dX13_judge_167 rfl ?_
  refine s_lald (tt := 1) rfl dX13_judge_168 ?_
  refine s_callV hZ.1 (hg 4 _ _ rfl) (Nat.le_refl _) vy_X13_overLeft zcl13 zw3461 zw289 (Or.inl zw3459) dX13_judge_169 ?_
  exact s_goto dX13_judge_172 (by decide) (wX13_judge_178 hZ hg hd j hj)
noncomputable def vX13_judge_125 (g : Nat → List Nat → rx_H → Option (Nat × rx_H)) (j : Nat → rx_K) : rx_K := o_ld rx_isR 0 (o_dup (o_getf 13 108 (o_const 8 (o_bi (fun x y => x - y) (o_putf rx_isI 13 108 (o_ld rx_isR 0 (o_getf 13 107 (o_ld rx_isR 0 (o_getf 13 108 (o_ald 0 (o_st rx_isI 4 (o_ld rx_isR 0 (o_getf 13 76 (o_ld rx_isI 4 (o_ld rx_isR 0 (o_getf 13 20 (o_c1 rx_eq (vX13_judge_159 g j) (vX13_judge_175 g j))))))))))))))))))
set_option maxRecDepth 20000 in
theorem wX13_judge_125 {dn : Nat} {g : Nat → List Nat → rx_H → Option (Nat × rx_H)} (hZ : zO b e D A X) (hg : ∀ i y M, vl13[i]? = some (y, M) → rx_Met (zV b e D A X) dn y M (g i)) (hd : 172 ≤ dn) (j : Nat → rx_K) (hj : ∀ k pc, [7, 117][k]? = some pc → rx_OK (zV b e D A X) mX13_judge (dn + 1) pc (j k)) : rx_OK (zV b e D A X) mX13_judge (dn + 1) 125 (vX13_judge_125 g j) := by
  unfold vX13_judge_125
  refine s_aload_n hZ.1 dX13_judge_125 rfl ?_
  refine s_dup hZ.1 dX13_judge_126 ?_
  refine yg13_108 dX13_judge_127 zw4228 ?_
  refine s_iconst dX13_judge_130 (by decide +kernel) ?_
  refine s_isub dX13_judge_131 ?_
  refine yp13_108 hZ.1 dX13_judge_132 zw4228 ?_
  refine s_aload_n hZ.1 dX13_judge_135 rfl ?_
  refine yg13_107 dX13_judge_136 zw4227 ?_
  refine s_aload_n hZ.1 dX13_judge_139 rfl ?_
  refine yg13_108 dX13_judge_140 zw4228 ?_
  refine s_iald (tt := 0) rfl dX13_judge_143 ?_
  refine s_istore hZ.1 dX13_judge_144 (Nat.le_of_ble_eq_true rfl) ?_
  refine s_aload_n hZ.1 dX13_judge_146 rfl ?_
  refine yg13_76 dX13_judge_147 zw4197 ?_
  refine s_iload hZ.1 dX13_judge_150 ?_
  refine s_aload_n hZ.1 dX13_judge_152 rfl ?_
  refine yg13_20 dX13_judge_153 zw4141 ?_
  exact s_if_ne dX13_judge_156 (by decide) (wX13_judge_175 hZ hg hd j hj) (wX13_judge_159 hZ hg hd j hj)
noncomputable def vX13_judge_117 (g : Nat → List Nat → rx_H → Option (Nat × rx_H)) (j : Nat → rx_K) : rx_K := o_ld rx_isR 0 (o_getf 13 108 (o_ld rx_isI 2 (o_c2 (fun h x y => rx_lt h y x) (vX13_judge_125 g j) (vX13_judge_185 g j))))
set_option maxRecDepth 20000 in
theorem wX13_judge_117 {dn : Nat} {g : Nat → List Nat → rx_H → Option (Nat × rx_H)} (hZ : zO b e D A X) (hg : ∀ i y M, vl13[i]? = some (y, M) → rx_Met (zV b e D A X) dn y M (g i)) (hd : 172 ≤ dn) (j : Nat → rx_K) (hj : ∀ k pc, [7, 117][k]? = some pc → rx_OK (zV b e D A X) mX13_judge (dn + 1) pc (j k)) : rx_OK (zV b e D A X) mX13_judge (dn + 1) 117 (vX13_judge_117 g j) := by
  unfold vX13_judge_117
  refine s_aload_n hZ.1 dX13_judge_117 rfl ?_
  refine yg13_108 dX13_judge_118 zw4228 ?_
  refine s_iload_n hZ.1 dX13_judge_121 rfl ?_
  exact s_icmp_le dX13_judge_122 (by decide) (wX13_judge_185 hZ hg hd j hj) (wX13_judge_125 hZ hg hd j hj)
noncomputable def vX13_judge_116 (g : Nat → List Nat → rx_H → Option (Nat × rx_H)) (j : Nat → rx_K) : rx_K := o_ast 1 (fun v => v) rx_isL ((vX13_judge_117 g j))
set_option maxRecDepth 20000 in
theorem wX13_judge_116 {dn : Nat} {g : Nat → List Nat → rx_H → Option (Nat × rx_H)} (hZ : zO b e D A X) (hg : ∀ i y M, vl13[i]? = some (y, M) → rx_Met (zV b e D A X) dn y M (g i)) (hd : 172 ≤ dn) (j : Nat → rx_K) (hj : ∀ k pc, [7, 117][k]? = some pc → rx_OK (zV b e D A X) mX13_judge (dn + 1) pc (j k)) : rx_OK (zV b e D A X) mX13_judge (dn + 1) 116 (vX13_judge_116 g j) := by
  unfold vX13_judge_116
  refine s_last (tt := 1) rfl dX13_judge_116 ?_
  exact (wX13_judge_117 hZ hg hd j hj)
noncomputable def vX13_judge_113 (g : Nat → List Nat → rx_H → Option (Nat × rx_H)) (j : Nat → rx_K) : rx_K := o_const 17 ((vX13_judge_116 g j))
set_option maxRecDepth 20000 in
theorem wX13_judge_113 {dn : Nat} {g : Nat → List Nat → rx_H → Option (Nat × rx_H)} (hZ : zO b e D A X) (hg : ∀ i y M, vl13[i]? = some (y, M) → rx_Met (zV b e D A X) dn y M (g i)) (hd : 172 ≤ dn) (j : Nat → rx_K) (hj : ∀ k pc, [7, 117][k]? = some pc → rx_OK (zV b e D A X) mX13_judge (dn + 1) pc (j k)) : rx_OK (zV b e D A X) mX13_judge (dn + 1) 113 (vX13_judge_113 g j) := by
  unfold vX13_judge_113
  refine s_ldc2 dX13_judge_113 zw3066 (by decide +kernel) ?_
  exact (wX13_judge_116 hZ hg hd j hj)
noncomputable def vX13_judge_105 (g : Nat → List Nat → rx_H → Option (Nat × rx_H)) (j : Nat → rx_K) : rx_K := o_ld rx_isR 0 (o_ld rx_isI 3 (o_callV 1 13 (g 2) ((vX13_judge_116 g j))))
set_option maxRecDepth 20000 in
theorem wX13_judge_105 {dn : Nat} {g : Nat → List Nat → rx_H → Option (Nat × rx_H)} (hZ : zO b e D A X) (hg : ∀ i y M, vl13[i]? = some (y, M) → rx_Met (zV b e D A X) dn y M (g i)) (hd : 172 ≤ dn) (j : Nat → rx_K) (hj : ∀ k pc, [7, 117][k]? = some pc → rx_OK (zV b e D A X) mX13_judge (dn + 1) pc (j k)) : rx_OK (zV b e D A X) mX13_judge (dn + 1) 105 (vX13_judge_105 g j) := by
  unfold vX13_judge_105
  refine s_aload_n hZ.1 dX13_judge_105 rfl ?_
  refine s_iload_n hZ.1 dX13_judge_106 rfl ?_
  refine s_callV hZ.1 (hg 2 _ _ rfl) (Nat.le_refl _) vy_X13_leaf zcl13 zw3402 zw275 (Or.inl zw3400) dX13_judge_107 ?_
  exact s_goto dX13_judge_110 (by decide) (wX13_judge_116 hZ hg hd j hj)
noncomputable def vX13_judge_93 (g : Nat → List Nat → rx_H → Option (Nat × rx_H)) (j : Nat → rx_K) : rx_K := o_ld rx_isR 0 (o_getf 13 76 (o_ld rx_isI 3 (o_ld rx_isR 0 (o_getf 13 20 (o_c1 rx_eq (vX13_judge_105 g j) (vX13_judge_113 g j))))))
set_option maxRecDepth 20000 in
theorem wX13_judge_93 {dn : Nat} {g : Nat → List Nat → rx_H → Option (Nat × rx_H)} (hZ : zO b e D A X) (hg : ∀ i y M, vl13[i]? = some (y, M) → rx_Met (zV b e D A X) dn y M (g i)) (hd : 172 ≤ dn) (j : Nat → rx_K) (hj : ∀ k pc, [7, 117][k]? = some pc → rx_OK (zV b e D A X) mX13_judge (dn + 1) pc (j k)) : rx_OK (zV b e D A X) mX13_judge (dn + 1) 93 (vX13_judge_93 g j) := by
  unfold vX13_judge_93
  refine s_aload_n hZ.1 dX13_judge_93 rfl ?_
  refine yg13_76 dX13_judge_94 zw4197 ?_
  refine s_iload_n hZ.1 dX13_judge_97 rfl ?_
  refine s_aload_n hZ.1 dX13_judge_98 rfl ?_
  refine yg13_20 dX13_judge_99 zw4141 ?_
  exact s_if_ne dX13_judge_102 (by decide) (wX13_judge_113 hZ hg hd j hj) (wX13_judge_105 hZ hg hd j hj)
noncomputable def vX13_judge_63 (g : Nat → List Nat → rx_H → Option (Nat × rx_H)) (j : Nat → rx_K) : rx_K := o_ld rx_isR 0 (o_getf 13 107 (o_ld rx_isR 0 (o_getf 13 108 (o_ld rx_isI 3 (o_ast 0 (fun v => v) rx_isI (o_ld rx_isR 0 (o_dup (o_getf 13 108 (o_const 8 (o_bi (fun x y => x + y) (o_putf rx_isI 13 108 (o_ld rx_isR 0 (o_getf 13 77 (o_ld rx_isI 3 (o_ald 0 (o_st rx_isI 3 ((j 0))))))))))))))))))
set_option maxRecDepth 20000 in
theorem wX13_judge_63 {dn : Nat} {g : Nat → List Nat → rx_H → Option (Nat × rx_H)} (hZ : zO b e D A X) (hg : ∀ i y M, vl13[i]? = some (y, M) → rx_Met (zV b e D A X) dn y M (g i)) (hd : 172 ≤ dn) (j : Nat → rx_K) (hj : ∀ k pc, [7, 117][k]? = some pc → rx_OK (zV b e D A X) mX13_judge (dn + 1) pc (j k)) : rx_OK (zV b e D A X) mX13_judge (dn + 1) 63 (vX13_judge_63 g j) := by
  unfold vX13_judge_63
  refine s_aload_n hZ.1 dX13_judge_63 rfl ?_
  refine yg13_107 dX13_judge_64 zw4227 ?_
  refine s_aload_n hZ.1 dX13_judge_67 rfl ?_
  refine yg13_108 dX13_judge_68 zw4228 ?_
  refine s_iload_n hZ.1 dX13_judge_71 rfl ?_
  refine s_iast hZ.1 (tt := 0) rfl dX13_judge_72 ?_
  refine s_aload_n hZ.1 dX13_judge_73 rfl ?_
  refine s_dup hZ.1 dX13_judge_74 ?_
  refine yg13_108 dX13_judge_75 zw4228 ?_
  refine s_iconst dX13_judge_78 (by decide +kernel) ?_
  refine s_iadd dX13_judge_79 ?_
  refine yp13_108 hZ.1 dX13_judge_80 zw4228 ?_
  refine s_aload_n hZ.1 dX13_judge_83 rfl ?_
  refine yg13_77 dX13_judge_84 zw4198 ?_
  refine s_iload_n hZ.1 dX13_judge_87 rfl ?_
  refine s_iald (tt := 0) rfl dX13_judge_88 ?_
  refine s_istore_n hZ.1 dX13_judge_89 rfl (Nat.le_of_ble_eq_true rfl) ?_
  exact s_goto dX13_judge_90 (by decide) (hj 0 7 rfl)
noncomputable def vX13_judge_52 (g : Nat → List Nat → rx_H → Option (Nat × rx_H)) (j : Nat → rx_K) : rx_K := o_ld rx_isR 0 (o_getf 13 70 (o_ld rx_isI 3 (o_ald 0 (o_const 112 (o_c2 rx_eq (vX13_judge_63 g j) (vX13_judge_93 g j))))))
set_option maxRecDepth 20000 in
theorem wX13_judge_52 {dn : Nat} {g : Nat → List Nat → rx_H → Option (Nat × rx_H)} (hZ : zO b e D A X) (hg : ∀ i y M, vl13[i]? = some (y, M) → rx_Met (zV b e D A X) dn y M (g i)) (hd : 172 ≤ dn) (j : Nat → rx_K) (hj : ∀ k pc, [7, 117][k]? = some pc → rx_OK (zV b e D A X) mX13_judge (dn + 1) pc (j k)) : rx_OK (zV b e D A X) mX13_judge (dn + 1) 52 (vX13_judge_52 g j) := by
  unfold vX13_judge_52
  refine s_aload_n hZ.1 dX13_judge_52 rfl ?_
  refine yg13_70 dX13_judge_53 zw4191 ?_
  refine s_iload_n hZ.1 dX13_judge_56 rfl ?_
  refine s_iald (tt := 0) rfl dX13_judge_57 ?_
  refine s_bipush dX13_judge_58 (by decide +kernel) ?_
  exact s_icmp_ne dX13_judge_60 (by decide) (wX13_judge_93 hZ hg hd j hj) (wX13_judge_63 hZ hg hd j hj)
noncomputable def vX13_judge_41 (g : Nat → List Nat → rx_H → Option (Nat × rx_H)) (j : Nat → rx_K) : rx_K := o_ld rx_isR 0 (o_getf 13 70 (o_ld rx_isI 3 (o_ald 0 (o_const 104 (o_c2 rx_eq (vX13_judge_63 g j) (vX13_judge_52 g j))))))
set_option maxRecDepth 20000 in
theorem wX13_judge_41 {dn : Nat} {g : Nat → List Nat → rx_H → Option (Nat × rx_H)} (hZ : zO b e D A X) (hg : ∀ i y M, vl13[i]? = some (y, M) → rx_Met (zV b e D A X) dn y M (g i)) (hd : 172 ≤ dn) (j : Nat → rx_K) (hj : ∀ k pc, [7, 117][k]? = some pc → rx_OK (zV b e D A X) mX13_judge (dn + 1) pc (j k)) : rx_OK (zV b e D A X) mX13_judge (dn + 1) 41 (vX13_judge_41 g j) := by
  unfold vX13_judge_41
  refine s_aload_n hZ.1 dX13_judge_41 rfl ?_
  refine yg13_70 dX13_judge_42 zw4191 ?_
  refine s_iload_n hZ.1 dX13_judge_45 rfl ?_
  refine s_iald (tt := 0) rfl dX13_judge_46 ?_
  refine s_bipush dX13_judge_47 (by decide +kernel) ?_
  exact s_icmp_eq dX13_judge_49 (by decide) (wX13_judge_63 hZ hg hd j hj) (wX13_judge_52 hZ hg hd j hj)
noncomputable def vX13_judge_30 (g : Nat → List Nat → rx_H → Option (Nat × rx_H)) (j : Nat → rx_K) : rx_K := o_ld rx_isR 0 (o_getf 13 70 (o_ld rx_isI 3 (o_ald 0 (o_const 96 (o_c2 rx_eq (vX13_judge_63 g j) (vX13_judge_41 g j))))))
set_option maxRecDepth 20000 in
theorem wX13_judge_30 {dn : Nat} {g : Nat → List Nat → rx_H → Option (Nat × rx_H)} (hZ : zO b e D A X) (hg : ∀ i y M, vl13[i]? = some (y, M) → rx_Met (zV b e D A X) dn y M (g i)) (hd : 172 ≤ dn) (j : Nat → rx_K) (hj : ∀ k pc, [7, 117][k]? = some pc → rx_OK (zV b e D A X) mX13_judge (dn + 1) pc (j k)) : rx_OK (zV b e D A X) mX13_judge (dn + 1) 30 (vX13_judge_30 g j) := by
  unfold vX13_judge_30
  refine s_aload_n hZ.1 dX13_judge_30 rfl ?_
  refine yg13_70 dX13_judge_31 zw4191 ?_
  refine s_iload_n hZ.1 dX13_judge_34 rfl ?_
  refine s_iald (tt := 0) rfl dX13_judge_35 ?_
  refine s_bipush dX13_judge_36 (by decide +kernel) ?_
  exact s_icmp_eq dX13_judge_38 (by decide) (wX13_judge_63 hZ hg hd j hj) (wX13_judge_41 hZ hg hd j hj)
noncomputable def vX13_judge_19 (g : Nat → List Nat → rx_H → Option (Nat × rx_H)) (j : Nat → rx_K) : rx_K := o_ld rx_isR 0 (o_getf 13 70 (o_ld rx_isI 3 (o_ald 0 (o_const 88 (o_c2 rx_eq (vX13_judge_63 g j) (vX13_judge_30 g j))))))
set_option maxRecDepth 20000 in
theorem wX13_judge_19 {dn : Nat} {g : Nat → List Nat → rx_H → Option (Nat × rx_H)} (hZ : zO b e D A X) (hg : ∀ i y M, vl13[i]? = some (y, M) → rx_Met (zV b e D A X) dn y M (g i)) (hd : 172 ≤ dn) (j : Nat → rx_K) (hj : ∀ k pc, [7, 117][k]? = some pc → rx_OK (zV b e D A X) mX13_judge (dn + 1) pc (j k)) : rx_OK (zV b e D A X) mX13_judge (dn + 1) 19 (vX13_judge_19 g j) := by
  unfold vX13_judge_19
  refine s_aload_n hZ.1 dX13_judge_19 rfl ?_
  refine yg13_70 dX13_judge_20 zw4191 ?_
  refine s_iload_n hZ.1 dX13_judge_23 rfl ?_
  refine s_iald (tt := 0) rfl dX13_judge_24 ?_
  refine s_bipush dX13_judge_25 (by decide +kernel) ?_
  exact s_icmp_eq dX13_judge_27 (by decide) (wX13_judge_63 hZ hg hd j hj) (wX13_judge_30 hZ hg hd j hj)
noncomputable def vX13_judge_7 (g : Nat → List Nat → rx_H → Option (Nat × rx_H)) (j : Nat → rx_K) : rx_K := o_ld rx_isR 0 (o_getf 13 70 (o_ld rx_isI 3 (o_ald 0 (o_callS 1 FX13_isTwo (o_c1 rx_eq (vX13_judge_19 g j) (vX13_judge_63 g j))))))
set_option maxRecDepth 20000 in
theorem wX13_judge_7 {dn : Nat} {g : Nat → List Nat → rx_H → Option (Nat × rx_H)} (hZ : zO b e D A X) (hg : ∀ i y M, vl13[i]? = some (y, M) → rx_Met (zV b e D A X) dn y M (g i)) (hd : 172 ≤ dn) (j : Nat → rx_K) (hj : ∀ k pc, [7, 117][k]? = some pc → rx_OK (zV b e D A X) mX13_judge (dn + 1) pc (j k)) : rx_OK (zV b e D A X) mX13_judge (dn + 1) 7 (vX13_judge_7 g j) := by
  unfold vX13_judge_7
  refine s_aload_n hZ.1 dX13_judge_7 rfl ?_
  refine yg13_70 dX13_judge_8 zw4191 ?_
  refine s_iload_n hZ.1 dX13_judge_11 rfl ?_
  refine s_iald (tt := 0) rfl dX13_judge_12 ?_
  refine s_callS hZ.1 (Met_X13_isTwo hZ) (Nat.succ_le_succ (Nat.le_trans (Nat.le_of_ble_eq_true rfl) hd)) vy_X13_isTwo zw3338 (Or.inl zw3337) dX13_judge_13 ?_
  exact s_if_ne dX13_judge_16 (by decide) (wX13_judge_63 hZ hg hd j hj) (wX13_judge_19 hZ hg hd j hj)
noncomputable def vX13_judge_0 (g : Nat → List Nat → rx_H → Option (Nat × rx_H)) (j : Nat → rx_K) : rx_K := o_ld rx_isR 0 (o_getf 13 108 (o_st rx_isI 2 (o_ld rx_isI 1 (o_st rx_isI 3 ((vX13_judge_7 g j))))))
set_option maxRecDepth 20000 in
theorem wX13_judge_0 {dn : Nat} {g : Nat → List Nat → rx_H → Option (Nat × rx_H)} (hZ : zO b e D A X) (hg : ∀ i y M, vl13[i]? = some (y, M) → rx_Met (zV b e D A X) dn y M (g i)) (hd : 172 ≤ dn) (j : Nat → rx_K) (hj : ∀ k pc, [7, 117][k]? = some pc → rx_OK (zV b e D A X) mX13_judge (dn + 1) pc (j k)) : rx_OK (zV b e D A X) mX13_judge (dn + 1) 0 (vX13_judge_0 g j) := by
  unfold vX13_judge_0
  refine s_aload_n hZ.1 dX13_judge_0 rfl ?_
  refine yg13_108 dX13_judge_1 zw4228 ?_
  refine s_istore_n hZ.1 dX13_judge_4 rfl (Nat.le_of_ble_eq_true rfl) ?_
  refine s_iload_n hZ.1 dX13_judge_5 rfl ?_
  refine s_istore_n hZ.1 dX13_judge_6 rfl (Nat.le_of_ble_eq_true rfl) ?_
  exact (wX13_judge_7 hZ hg hd j hj)
noncomputable def vhX13_judge (g : Nat → List Nat → rx_H → Option (Nat × rx_H)) (j : Nat → rx_K) : List rx_K := [vX13_judge_7 g j, vX13_judge_117 g j]
theorem vlX13_judge {dn : Nat} {g : Nat → List Nat → rx_H → Option (Nat × rx_H)} (hZ : zO b e D A X) (hg : ∀ i y M, vl13[i]? = some (y, M) → rx_Met (zV b e D A X) dn y M (g i)) (hd : 172 ≤ dn) : ∀ n k pc, [7, 117][k]? = some pc → rx_OK (zV b e D A X) mX13_judge (dn + 1) pc (rx_J (vhX13_judge g) n k) := rx_loop fun j hj k pc h => by
  match k, h with
  | 0, h =>
    have e9 := Option.some.inj (show some 7 = some pc from h)
    subst e9
    exact wX13_judge_7 hZ hg hd j hj
  | 1, h =>
    have e9 := Option.some.inj (show some 117 = some pc from h)
    subst e9
    exact wX13_judge_117 hZ hg hd j hj
  | _ + 2, h => exact absurd h (by simp)
noncomputable def FX13_judge (g : Nat → List Nat → rx_H → Option (Nat × rx_H)) : List Nat → rx_H → Option (Nat × rx_H) := rx_ent 5 (vX13_judge_0 g (rx_J (vhX13_judge g) 4000000000))
theorem Met_X13_judge {dn : Nat} {g : Nat → List Nat → rx_H → Option (Nat × rx_H)} (hZ : zO b e D A X) (hg : ∀ i y M, vl13[i]? = some (y, M) → rx_Met (zV b e D A X) dn y M (g i)) (hd : 172 ≤ dn) : rx_Met (zV b e D A X) (dn + 1) yX13_judge mX13_judge (FX13_judge g) := rx_entry hZ.1 (wX13_judge_0 hZ hg hd _ (vlX13_judge hZ hg hd 4000000000)) (by decide +kernel) rfl (fun h => by cases h)
noncomputable def vX13_leaf_256 (g : Nat → List Nat → rx_H → Option (Nat × rx_H)) : rx_K := o_ld rx_isR 0 (o_ld rx_isI 1 (o_callV 1 13 (g 3) (o_ret1 rx_isL)))
set_option maxRecDepth 20000 in
theorem wX13_leaf_256 {dn : Nat} {g : Nat → List Nat → rx_H → Option (Nat × rx_H)} (hZ : zO b e D A X) (hg : ∀ i y M, vl13[i]? = some (y, M) → rx_Met (zV b e D A X) dn y M (g i)) (hd : 172 ≤ dn) : rx_OK (zV b e D A X) mX13_leaf (dn + 1) 256 (vX13_leaf_256 g) := by
  unfold vX13_leaf_256
  refine s_aload_n hZ.1 dX13_leaf_256 rfl ?_
  refine s_iload_n hZ.1 dX13_leaf_257 rfl ?_
  refine s_callV hZ.1 (hg 3 _ _ rfl) (Nat.le_refl _) vy_X13_leafOfMore zcl13 zw3446 zw286 (Or.inl zw3444) dX13_leaf_258 ?_
  exact s_lret rfl dX13_leaf_261
noncomputable def vX13_leaf_255 (g : Nat → List Nat → rx_H → Option (Nat × rx_H)) : rx_K := o_ret1 rx_isL
set_option maxRecDepth 20000 in
theorem wX13_leaf_255 {dn : Nat} {g : Nat → List Nat → rx_H → Option (Nat × rx_H)} (hZ : zO b e D A X) (hg : ∀ i y M, vl13[i]? = some (y, M) → rx_Met (zV b e D A X) dn y M (g i)) (hd : 172 ≤ dn) : rx_OK (zV b e D A X) mX13_leaf (dn + 1) 255 (vX13_leaf_255 g) := by
  unfold vX13_leaf_255
  exact s_lret rfl dX13_leaf_255
noncomputable def vX13_leaf_252 (g : Nat → List Nat → rx_H → Option (Nat × rx_H)) : rx_K := o_const 17 ((vX13_leaf_255 g))
set_option maxRecDepth 20000 in
theorem wX13_leaf_252 {dn : Nat} {g : Nat → List Nat → rx_H → Option (Nat × rx_H)} (hZ : zO b e D A X) (hg : ∀ i y M, vl13[i]? = some (y, M) → rx_Met (zV b e D A X) dn y M (g i)) (hd : 172 ≤ dn) : rx_OK (zV b e D A X) mX13_leaf (dn + 1) 252 (vX13_leaf_252 g) := by
  unfold vX13_leaf_252
  refine s_ldc2 dX13_leaf_252 zw3066 (by decide +kernel) ?_
  exact (wX13_leaf_255 hZ hg hd)
noncomputable def vX13_leaf_227 (g : Nat → List Nat → rx_H → Option (Nat × rx_H)) : rx_K := o_ld rx_isR 0 (o_ld rx_isI 1 (o_ld rx_isR 0 (o_ld rx_isR 0 (o_getf 13 75 (o_ld rx_isI 1 (o_ald 1 (o_callV 1 13 FX13_find (o_ld rx_isR 0 (o_getf 13 75 (o_ld rx_isI 1 (o_ald 1 (o_const 8 (o_callV 4 13 FX13_call ((vX13_leaf_255 g)))))))))))))))
set_option maxRecDepth 20000 in
theorem wX13_leaf_227 {dn : Nat} {g : Nat → List Nat → rx_H → Option (Nat × rx_H)} (hZ : zO b e D A X) (hg : ∀ i y M, vl13[i]? = some (y, M) → rx_Met (zV b e D A X) dn y M (g i)) (hd : 172 ≤ dn) : rx_OK (zV b e D A X) mX13_leaf (dn + 1) 227 (vX13_leaf_227 g) := by
  unfold vX13_leaf_227
  refine s_aload_n hZ.1 dX13_leaf_227 rfl ?_
  refine s_iload_n hZ.1 dX13_leaf_228 rfl ?_
  refine s_aload_n hZ.1 dX13_leaf_229 rfl ?_
  refine s_aload_n hZ.1 dX13_leaf_230 rfl ?_
  refine yg13_75 dX13_leaf_231 zw4196 ?_
  refine s_iload_n hZ.1 dX13_leaf_234 rfl ?_
  refine s_lald (tt := 1) rfl dX13_leaf_235 ?_
  refine s_callV hZ.1 (Met_X13_find hZ) (Nat.succ_le_succ (Nat.le_trans (Nat.le_of_ble_eq_true rfl) hd)) vy_X13_find zcl13 zw3186 zw226 (Or.inl zw3184) dX13_leaf_236 ?_
  refine s_aload_n hZ.1 dX13_leaf_239 rfl ?_
  refine yg13_75 dX13_leaf_240 zw4196 ?_
  refine s_iload_n hZ.1 dX13_leaf_243 rfl ?_
  refine s_lald (tt := 1) rfl dX13_leaf_244 ?_
  refine s_iconst dX13_leaf_245 (by decide +kernel) ?_
  refine s_callV hZ.1 (Met_X13_call hZ) (Nat.succ_le_succ (Nat.le_trans (Nat.le_of_ble_eq_true rfl) hd)) vy_X13_call zcl13 zw3418 zw279 (Or.inl zw3416) dX13_leaf_246 ?_
  exact s_goto dX13_leaf_249 (by decide) (wX13_leaf_255 hZ hg hd)
noncomputable def vX13_leaf_190 (g : Nat → List Nat → rx_H → Option (Nat × rx_H)) : rx_K := o_ld rx_isR 0 (o_ld rx_isR 0 (o_getf 13 75 (o_ld rx_isI 1 (o_ald 1 (o_ld rx_isR 0 (o_getf 13 73 (o_ld rx_isI 1 (o_ald 0 (o_ld rx_isR 0 (o_getf 13 109 (o_callV 3 13 FX13_type (o_ld rx_isR 0 (o_ld rx_isR 0 (o_getf 13 78 (o_ld rx_isI 1 (o_ald 0 (o_callV 1 13 (g 0) (o_ld rx_isR 0 (o_getf 13 20 (o_c1 rx_eq (vX13_leaf_227 g) (vX13_leaf_252 g)))))))))))))))))))))
set_option maxRecDepth 20000 in
theorem wX13_leaf_190 {dn : Nat} {g : Nat → List Nat → rx_H → Option (Nat × rx_H)} (hZ : zO b e D A X) (hg : ∀ i y M, vl13[i]? = some (y, M) → rx_Met (zV b e D A X) dn y M (g i)) (hd : 172 ≤ dn) : rx_OK (zV b e D A X) mX13_leaf (dn + 1) 190 (vX13_leaf_190 g) := by
  unfold vX13_leaf_190
  refine s_aload_n hZ.1 dX13_leaf_190 rfl ?_
  refine s_aload_n hZ.1 dX13_leaf_191 rfl ?_
  refine yg13_75 dX13_leaf_192 zw4196 ?_
  refine s_iload_n hZ.1 dX13_leaf_195 rfl ?_
  refine s_lald (tt := 1) rfl dX13_leaf_196 ?_
  refine s_aload_n hZ.1 dX13_leaf_197 rfl ?_
  refine yg13_73 dX13_leaf_198 zw4194 ?_
  refine s_iload_n hZ.1 dX13_leaf_201 rfl ?_
  refine s_iald (tt := 0) rfl dX13_leaf_202 ?_
  refine s_aload_n hZ.1 dX13_leaf_203 rfl ?_
  refine yg13_109 dX13_leaf_204 zw4229 ?_
  refine s_callV hZ.1 (Met_X13_type hZ) (Nat.succ_le_succ (Nat.le_trans (Nat.le_of_ble_eq_true rfl) hd)) vy_X13_type zcl13 zw3236 zw237 (Or.inl zw3234) dX13_leaf_207 ?_
  refine s_aload_n hZ.1 dX13_leaf_210 rfl ?_
  refine s_aload_n hZ.1 dX13_leaf_211 rfl ?_
  refine yg13_78 dX13_leaf_212 zw4199 ?_
  refine s_iload_n hZ.1 dX13_leaf_215 rfl ?_
  refine s_iald (tt := 0) rfl dX13_leaf_216 ?_
  refine s_callV hZ.1 (hg 0 _ _ rfl) (Nat.le_refl _) vy_X13_args zcl13 zw3414 zw278 (Or.inl zw3412) dX13_leaf_217 ?_
  refine s_aload_n hZ.1 dX13_leaf_220 rfl ?_
  refine yg13_20 dX13_leaf_221 zw4141 ?_
  exact s_if_ne dX13_leaf_224 (by decide) (wX13_leaf_252 hZ hg hd) (wX13_leaf_227 hZ hg hd)
noncomputable def vX13_leaf_189 (g : Nat → List Nat → rx_H → Option (Nat × rx_H)) : rx_K := o_ret1 rx_isL
set_option maxRecDepth 20000 in
theorem wX13_leaf_189 {dn : Nat} {g : Nat → List Nat → rx_H → Option (Nat × rx_H)} (hZ : zO b e D A X) (hg : ∀ i y M, vl13[i]? = some (y, M) → rx_Met (zV b e D A X) dn y M (g i)) (hd : 172 ≤ dn) : rx_OK (zV b e D A X) mX13_leaf (dn + 1) 189 (vX13_leaf_189 g) := by
  unfold vX13_leaf_189
  exact s_lret rfl dX13_leaf_189
noncomputable def vX13_leaf_186 (g : Nat → List Nat → rx_H → Option (Nat × rx_H)) : rx_K := o_const 17 ((vX13_leaf_189 g))
set_option maxRecDepth 20000 in
theorem wX13_leaf_186 {dn : Nat} {g : Nat → List Nat → rx_H → Option (Nat × rx_H)} (hZ : zO b e D A X) (hg : ∀ i y M, vl13[i]? = some (y, M) → rx_Met (zV b e D A X) dn y M (g i)) (hd : 172 ≤ dn) : rx_OK (zV b e D A X) mX13_leaf (dn + 1) 186 (vX13_leaf_186 g) := by
  unfold vX13_leaf_186
  refine s_ldc2 dX13_leaf_186 zw3066 (by decide +kernel) ?_
  exact (wX13_leaf_189 hZ hg hd)
noncomputable def vX13_leaf_164 (g : Nat → List Nat → rx_H → Option (Nat × rx_H)) : rx_K := o_ld rx_isR 0 (o_ld rx_isI 1 (o_ld rx_isR 0 (o_getf 13 109 (o_ld rx_isR 0 (o_getf 13 24 (o_ld rx_isR 0 (o_getf 13 109 (o_ald 1 (o_const 0 (o_callV 4 13 FX13_call ((vX13_leaf_189 g))))))))))))
set_option maxRecDepth 20000 in
theorem wX13_leaf_164 {dn : Nat} {g : Nat → List Nat → rx_H → Option (Nat × rx_H)} (hZ : zO b e D A X) (hg : ∀ i y M, vl13[i]? = some (y, M) → rx_Met (zV b e D A X) dn y M (g i)) (hd : 172 ≤ dn) : rx_OK (zV b e D A X) mX13_leaf (dn + 1) 164 (vX13_leaf_164 g) := by
  unfold vX13_leaf_164
  refine s_aload_n hZ.1 dX13_leaf_164 rfl ?_
  refine s_iload_n hZ.1 dX13_leaf_165 rfl ?_
  refine s_aload_n hZ.1 dX13_leaf_166 rfl ?_
  refine yg13_109 dX13_leaf_167 zw4229 ?_
  refine s_aload_n hZ.1 dX13_leaf_170 rfl ?_
  refine yg13_24 dX13_leaf_171 zw4145 ?_
  refine s_aload_n hZ.1 dX13_leaf_174 rfl ?_
  refine yg13_109 dX13_leaf_175 zw4229 ?_
  refine s_lald (tt := 1) rfl dX13_leaf_178 ?_
  refine s_iconst dX13_leaf_179 (by decide +kernel) ?_
  refine s_callV hZ.1 (Met_X13_call hZ) (Nat.succ_le_succ (Nat.le_trans (Nat.le_of_ble_eq_true rfl) hd)) vy_X13_call zcl13 zw3418 zw279 (Or.inl zw3416) dX13_leaf_180 ?_
  exact s_goto dX13_leaf_183 (by decide) (wX13_leaf_189 hZ hg hd)
noncomputable def vX13_leaf_147 (g : Nat → List Nat → rx_H → Option (Nat × rx_H)) : rx_K := o_ld rx_isR 0 (o_ld rx_isR 0 (o_getf 13 78 (o_ld rx_isI 1 (o_ald 0 (o_callV 1 13 (g 0) (o_ld rx_isR 0 (o_getf 13 20 (o_c1 rx_eq (vX13_leaf_164 g) (vX13_leaf_186 g)))))))))
set_option maxRecDepth 20000 in
theorem wX13_leaf_147 {dn : Nat} {g : Nat → List Nat → rx_H → Option (Nat × rx_H)} (hZ : zO b e D A X) (hg : ∀ i y M, vl13[i]? = some (y, M) → rx_Met (zV b e D A X) dn y M (g i)) (hd : 172 ≤ dn) : rx_OK (zV b e D A X) mX13_leaf (dn + 1) 147 (vX13_leaf_147 g) := by
  unfold vX13_leaf_147
  refine s_aload_n hZ.1 dX13_leaf_147 rfl ?_
  refine s_aload_n hZ.1 dX13_leaf_148 rfl ?_
  refine yg13_78 dX13_leaf_149 zw4199 ?_
  refine s_iload_n hZ.1 dX13_leaf_152 rfl ?_
  refine s_iald (tt := 0) rfl dX13_leaf_153 ?_
  refine s_callV hZ.1 (hg 0 _ _ rfl) (Nat.le_refl _) vy_X13_args zcl13 zw3414 zw278 (Or.inl zw3412) dX13_leaf_154 ?_
  refine s_aload_n hZ.1 dX13_leaf_157 rfl ?_
  refine yg13_20 dX13_leaf_158 zw4141 ?_
  exact s_if_ne dX13_leaf_161 (by decide) (wX13_leaf_186 hZ hg hd) (wX13_leaf_164 hZ hg hd)
noncomputable def vX13_leaf_146 (g : Nat → List Nat → rx_H → Option (Nat × rx_H)) : rx_K := o_ret1 rx_isL
set_option maxRecDepth 20000 in
theorem wX13_leaf_146 {dn : Nat} {g : Nat → List Nat → rx_H → Option (Nat × rx_H)} (hZ : zO b e D A X) (hg : ∀ i y M, vl13[i]? = some (y, M) → rx_Met (zV b e D A X) dn y M (g i)) (hd : 172 ≤ dn) : rx_OK (zV b e D A X) mX13_leaf (dn + 1) 146 (vX13_leaf_146 g) := by
  unfold vX13_leaf_146
  exact s_lret rfl dX13_leaf_146
noncomputable def vX13_leaf_143 (g : Nat → List Nat → rx_H → Option (Nat × rx_H)) : rx_K := o_const 17 ((vX13_leaf_146 g))
set_option maxRecDepth 20000 in
theorem wX13_leaf_143 {dn : Nat} {g : Nat → List Nat → rx_H → Option (Nat × rx_H)} (hZ : zO b e D A X) (hg : ∀ i y M, vl13[i]? = some (y, M) → rx_Met (zV b e D A X) dn y M (g i)) (hd : 172 ≤ dn) : rx_OK (zV b e D A X) mX13_leaf (dn + 1) 143 (vX13_leaf_143 g) := by
  unfold vX13_leaf_143
  refine s_ldc2 dX13_leaf_143 zw3066 (by decide +kernel) ?_
  exact (wX13_leaf_146 hZ hg hd)
noncomputable def vX13_leaf_118 (g : Nat → List Nat → rx_H → Option (Nat × rx_H)) : rx_K := o_ld rx_isR 0 (o_ld rx_isI 1 (o_ld rx_isR 0 (o_ld rx_isR 0 (o_getf 13 75 (o_ld rx_isI 1 (o_ald 1 (o_callV 1 13 FX13_find (o_ld rx_isR 0 (o_getf 13 75 (o_ld rx_isI 1 (o_ald 1 (o_const 8 (o_callV 4 13 FX13_field ((vX13_leaf_146 g)))))))))))))))
set_option maxRecDepth 20000 in
theorem wX13_leaf_118 {dn : Nat} {g : Nat → List Nat → rx_H → Option (Nat × rx_H)} (hZ : zO b e D A X) (hg : ∀ i y M, vl13[i]? = some (y, M) → rx_Met (zV b e D A X) dn y M (g i)) (hd : 172 ≤ dn) : rx_OK (zV b e D A X) mX13_leaf (dn + 1) 118 (vX13_leaf_118 g) := by
  unfold vX13_leaf_118
  refine s_aload_n hZ.1 dX13_leaf_118 rfl ?_
  refine s_iload_n hZ.1 dX13_leaf_119 rfl ?_
  refine s_aload_n hZ.1 dX13_leaf_120 rfl ?_
  refine s_aload_n hZ.1 dX13_leaf_121 rfl ?_
  refine yg13_75 dX13_leaf_122 zw4196 ?_
  refine s_iload_n hZ.1 dX13_leaf_125 rfl ?_
  refine s_lald (tt := 1) rfl dX13_leaf_126 ?_
  refine s_callV hZ.1 (Met_X13_find hZ) (Nat.succ_le_succ (Nat.le_trans (Nat.le_of_ble_eq_true rfl) hd)) vy_X13_find zcl13 zw3186 zw226 (Or.inl zw3184) dX13_leaf_127 ?_
  refine s_aload_n hZ.1 dX13_leaf_130 rfl ?_
  refine yg13_75 dX13_leaf_131 zw4196 ?_
  refine s_iload_n hZ.1 dX13_leaf_134 rfl ?_
  refine s_lald (tt := 1) rfl dX13_leaf_135 ?_
  refine s_iconst dX13_leaf_136 (by decide +kernel) ?_
  refine s_callV hZ.1 (Met_X13_field hZ) (Nat.succ_le_succ (Nat.le_trans (Nat.le_of_ble_eq_true rfl) hd)) vy_X13_field zcl13 zw3410 zw277 (Or.inl zw3408) dX13_leaf_137 ?_
  exact s_goto dX13_leaf_140 (by decide) (wX13_leaf_146 hZ hg hd)
noncomputable def vX13_leaf_91 (g : Nat → List Nat → rx_H → Option (Nat × rx_H)) : rx_K := o_ld rx_isR 0 (o_ld rx_isR 0 (o_getf 13 75 (o_ld rx_isI 1 (o_ald 1 (o_ld rx_isR 0 (o_getf 13 73 (o_ld rx_isI 1 (o_ald 0 (o_ld rx_isR 0 (o_getf 13 109 (o_callV 3 13 FX13_type (o_ld rx_isR 0 (o_getf 13 20 (o_c1 rx_eq (vX13_leaf_118 g) (vX13_leaf_143 g)))))))))))))))
set_option maxRecDepth 20000 in
theorem wX13_leaf_91 {dn : Nat} {g : Nat → List Nat → rx_H → Option (Nat × rx_H)} (hZ : zO b e D A X) (hg : ∀ i y M, vl13[i]? = some (y, M) → rx_Met (zV b e D A X) dn y M (g i)) (hd : 172 ≤ dn) : rx_OK (zV b e D A X) mX13_leaf (dn + 1) 91 (vX13_leaf_91 g) := by
  unfold vX13_leaf_91
  refine s_aload_n hZ.1 dX13_leaf_91 rfl ?_
  refine s_aload_n hZ.1 dX13_leaf_92 rfl ?_
  refine yg13_75 dX13_leaf_93 zw4196 ?_
  refine s_iload_n hZ.1 dX13_leaf_96 rfl ?_
  refine s_lald (tt := 1) rfl dX13_leaf_97 ?_
  refine s_aload_n hZ.1 dX13_leaf_98 rfl ?_
  refine yg13_73 dX13_leaf_99 zw4194 ?_
  refine s_iload_n hZ.1 dX13_leaf_102 rfl ?_
  refine s_iald (tt := 0) rfl dX13_leaf_103 ?_
  refine s_aload_n hZ.1 dX13_leaf_104 rfl ?_
  refine yg13_109 dX13_leaf_105 zw4229 ?_
  refine s_callV hZ.1 (Met_X13_type hZ) (Nat.succ_le_succ (Nat.le_trans (Nat.le_of_ble_eq_true rfl) hd)) vy_X13_type zcl13 zw3236 zw237 (Or.inl zw3234) dX13_leaf_108 ?_
  refine s_aload_n hZ.1 dX13_leaf_111 rfl ?_
  refine yg13_20 dX13_leaf_112 zw4141 ?_
  exact s_if_ne dX13_leaf_115 (by decide) (wX13_leaf_143 hZ hg hd) (wX13_leaf_118 hZ hg hd)
noncomputable def vX13_leaf_85 (g : Nat → List Nat → rx_H → Option (Nat × rx_H)) : rx_K := o_ld rx_isR 0 (o_ld rx_isI 1 (o_callV 1 13 FX13_nameAlone (o_ret1 rx_isL)))
set_option maxRecDepth 20000 in
theorem wX13_leaf_85 {dn : Nat} {g : Nat → List Nat → rx_H → Option (Nat × rx_H)} (hZ : zO b e D A X) (hg : ∀ i y M, vl13[i]? = some (y, M) → rx_Met (zV b e D A X) dn y M (g i)) (hd : 172 ≤ dn) : rx_OK (zV b e D A X) mX13_leaf (dn + 1) 85 (vX13_leaf_85 g) := by
  unfold vX13_leaf_85
  refine s_aload_n hZ.1 dX13_leaf_85 rfl ?_
  refine s_iload_n hZ.1 dX13_leaf_86 rfl ?_
  refine s_callV hZ.1 (Met_X13_nameAlone hZ) (Nat.succ_le_succ (Nat.le_trans (Nat.le_of_ble_eq_true rfl) hd)) vy_X13_nameAlone zcl13 zw3406 zw276 (Or.inl zw3404) dX13_leaf_87 ?_
  exact s_lret rfl dX13_leaf_90
noncomputable def vX13_leaf_75 (g : Nat → List Nat → rx_H → Option (Nat × rx_H)) : rx_K := o_ld rx_isR 0 (o_getf 13 24 (o_ld rx_isR 0 (o_getf 13 109 (o_ald 1 (o_ret1 rx_isL)))))
set_option maxRecDepth 20000 in
theorem wX13_leaf_75 {dn : Nat} {g : Nat → List Nat → rx_H → Option (Nat × rx_H)} (hZ : zO b e D A X) (hg : ∀ i y M, vl13[i]? = some (y, M) → rx_Met (zV b e D A X) dn y M (g i)) (hd : 172 ≤ dn) : rx_OK (zV b e D A X) mX13_leaf (dn + 1) 75 (vX13_leaf_75 g) := by
  unfold vX13_leaf_75
  refine s_aload_n hZ.1 dX13_leaf_75 rfl ?_
  refine yg13_24 dX13_leaf_76 zw4145 ?_
  refine s_aload_n hZ.1 dX13_leaf_79 rfl ?_
  refine yg13_109 dX13_leaf_80 zw4229 ?_
  refine s_lald (tt := 1) rfl dX13_leaf_83 ?_
  exact s_lret rfl dX13_leaf_84
noncomputable def vX13_leaf_63 (g : Nat → List Nat → rx_H → Option (Nat × rx_H)) : rx_K := o_ld rx_isR 0 (o_const 112 (o_ld rx_isR 0 (o_getf 13 71 (o_ld rx_isI 1 (o_ald 0 (o_callV 2 13 FX13_fault ((vX13_leaf_75 g))))))))
set_option maxRecDepth 20000 in
theorem wX13_leaf_63 {dn : Nat} {g : Nat → List Nat → rx_H → Option (Nat × rx_H)} (hZ : zO b e D A X) (hg : ∀ i y M, vl13[i]? = some (y, M) → rx_Met (zV b e D A X) dn y M (g i)) (hd : 172 ≤ dn) : rx_OK (zV b e D A X) mX13_leaf (dn + 1) 63 (vX13_leaf_63 g) := by
  unfold vX13_leaf_63
  refine s_aload_n hZ.1 dX13_leaf_63 rfl ?_
  refine s_bipush dX13_leaf_64 (by decide +kernel) ?_
  refine s_aload_n hZ.1 dX13_leaf_66 rfl ?_
  refine yg13_71 dX13_leaf_67 zw4192 ?_
  refine s_iload_n hZ.1 dX13_leaf_70 rfl ?_
  refine s_iald (tt := 0) rfl dX13_leaf_71 ?_
  refine s_callV hZ.1 (Met_X13_fault hZ) (Nat.succ_le_succ (Nat.le_trans (Nat.le_of_ble_eq_true rfl) hd)) vy_X13_fault zcl13 zw3004 zw190 (Or.inl zw3002) dX13_leaf_72 ?_
  exact (wX13_leaf_75 hZ hg hd)
noncomputable def vX13_leaf_56 (g : Nat → List Nat → rx_H → Option (Nat × rx_H)) : rx_K := o_ld rx_isR 0 (o_getf 13 111 (o_c1 rx_eq (vX13_leaf_75 g) (vX13_leaf_63 g)))
set_option maxRecDepth 20000 in
theorem wX13_leaf_56 {dn : Nat} {g : Nat → List Nat → rx_H → Option (Nat × rx_H)} (hZ : zO b e D A X) (hg : ∀ i y M, vl13[i]? = some (y, M) → rx_Met (zV b e D A X) dn y M (g i)) (hd : 172 ≤ dn) : rx_OK (zV b e D A X) mX13_leaf (dn + 1) 56 (vX13_leaf_56 g) := by
  unfold vX13_leaf_56
  refine s_aload_n hZ.1 dX13_leaf_56 rfl ?_
  refine yg13_111 dX13_leaf_57 zw4231 ?_
  exact s_if_eq dX13_leaf_60 (by decide) (wX13_leaf_75 hZ hg hd) (wX13_leaf_63 hZ hg hd)
noncomputable def vX13_leaf_52 (g : Nat → List Nat → rx_H → Option (Nat × rx_H)) : rx_K := o_const 25 (o_ret1 rx_isL)
set_option maxRecDepth 20000 in
theorem wX13_leaf_52 {dn : Nat} {g : Nat → List Nat → rx_H → Option (Nat × rx_H)} (hZ : zO b e D A X) (hg : ∀ i y M, vl13[i]? = some (y, M) → rx_Met (zV b e D A X) dn y M (g i)) (hd : 172 ≤ dn) : rx_OK (zV b e D A X) mX13_leaf (dn + 1) 52 (vX13_leaf_52 g) := by
  unfold vX13_leaf_52
  refine s_ldc2 dX13_leaf_52 zw3280 (by decide +kernel) ?_
  exact s_lret rfl dX13_leaf_55
noncomputable def vX13_leaf_48 (g : Nat → List Nat → rx_H → Option (Nat × rx_H)) : rx_K := o_const 17 (o_ret1 rx_isL)
set_option maxRecDepth 20000 in
theorem wX13_leaf_48 {dn : Nat} {g : Nat → List Nat → rx_H → Option (Nat × rx_H)} (hZ : zO b e D A X) (hg : ∀ i y M, vl13[i]? = some (y, M) → rx_Met (zV b e D A X) dn y M (g i)) (hd : 172 ≤ dn) : rx_OK (zV b e D A X) mX13_leaf (dn + 1) 48 (vX13_leaf_48 g) := by
  unfold vX13_leaf_48
  refine s_ldc2 dX13_leaf_48 zw3066 (by decide +kernel) ?_
  exact s_lret rfl dX13_leaf_51
noncomputable def vX13_leaf_0 (g : Nat → List Nat → rx_H → Option (Nat × rx_H)) : rx_K := o_ld rx_isR 0 (o_getf 13 70 (o_ld rx_isI 1 (o_ald 0 (o_sw 0 [48, 52, 56, 85, 147, 91, 190] 256 (rx_pk [(48, (vX13_leaf_48 g)), (52, (vX13_leaf_52 g)), (56, (vX13_leaf_56 g)), (85, (vX13_leaf_85 g)), (91, (vX13_leaf_91 g)), (147, (vX13_leaf_147 g)), (190, (vX13_leaf_190 g)), (256, (vX13_leaf_256 g))])))))
set_option maxRecDepth 20000 in
theorem wX13_leaf_0 {dn : Nat} {g : Nat → List Nat → rx_H → Option (Nat × rx_H)} (hZ : zO b e D A X) (hg : ∀ i y M, vl13[i]? = some (y, M) → rx_Met (zV b e D A X) dn y M (g i)) (hd : 172 ≤ dn) : rx_OK (zV b e D A X) mX13_leaf (dn + 1) 0 (vX13_leaf_0 g) := by
  unfold vX13_leaf_0
  refine s_aload_n hZ.1 dX13_leaf_0 rfl ?_
  refine yg13_70 dX13_leaf_1 zw4191 ?_
  refine s_iload_n hZ.1 dX13_leaf_4 rfl ?_
  refine s_iald (tt := 0) rfl dX13_leaf_5 ?_
  exact s_sw dX13_leaf_6 (by decide) (by decide) (by decide) (by decide) (by decide) (fun b _ => (rx_pk_ok (List.forall_mem_cons.mpr ⟨(wX13_leaf_48 hZ hg hd), List.forall_mem_cons.mpr ⟨(wX13_leaf_52 hZ hg hd), List.forall_mem_cons.mpr ⟨(wX13_leaf_56 hZ hg hd), List.forall_mem_cons.mpr ⟨(wX13_leaf_85 hZ hg hd), List.forall_mem_cons.mpr ⟨(wX13_leaf_91 hZ hg hd), List.forall_mem_cons.mpr ⟨(wX13_leaf_147 hZ hg hd), List.forall_mem_cons.mpr ⟨(wX13_leaf_190 hZ hg hd), List.forall_mem_cons.mpr ⟨(wX13_leaf_256 hZ hg hd), fun _ h => absurd h List.not_mem_nil⟩⟩⟩⟩⟩⟩⟩⟩)) b)
noncomputable def FX13_leaf (g : Nat → List Nat → rx_H → Option (Nat × rx_H)) : List Nat → rx_H → Option (Nat × rx_H) := rx_ent 2 (vX13_leaf_0 g)
theorem Met_X13_leaf {dn : Nat} {g : Nat → List Nat → rx_H → Option (Nat × rx_H)} (hZ : zO b e D A X) (hg : ∀ i y M, vl13[i]? = some (y, M) → rx_Met (zV b e D A X) dn y M (g i)) (hd : 172 ≤ dn) : rx_Met (zV b e D A X) (dn + 1) yX13_leaf mX13_leaf (FX13_leaf g) := rx_entry hZ.1 (wX13_leaf_0 hZ hg hd) (by decide +kernel) rfl (fun h => by cases h)
noncomputable def vX13_leafOfMore_359 (g : Nat → List Nat → rx_H → Option (Nat × rx_H)) : rx_K := o_ld rx_isR 0 (o_getf 13 75 (o_ld rx_isI 1 (o_ald 1 (o_ret1 rx_isL))))
set_option maxRecDepth 20000 in
theorem wX13_leafOfMore_359 {dn : Nat} {g : Nat → List Nat → rx_H → Option (Nat × rx_H)} (hZ : zO b e D A X) (hg : ∀ i y M, vl13[i]? = some (y, M) → rx_Met (zV b e D A X) dn y M (g i)) (hd : 172 ≤ dn) : rx_OK (zV b e D A X) mX13_leafOfMore (dn + 1) 359 (vX13_leafOfMore_359 g) := by
  unfold vX13_leafOfMore_359
  refine s_aload_n hZ.1 dX13_leafOfMore_359 rfl ?_
  refine yg13_75 dX13_leafOfMore_360 zw4196 ?_
  refine s_iload_n hZ.1 dX13_leafOfMore_363 rfl ?_
  refine s_lald (tt := 1) rfl dX13_leafOfMore_364 ?_
  exact s_lret rfl dX13_leafOfMore_365
noncomputable def vX13_leafOfMore_342 (g : Nat → List Nat → rx_H → Option (Nat × rx_H)) : rx_K := o_ld rx_isR 0 (o_const 104 (o_ld rx_isR 0 (o_getf 13 71 (o_ld rx_isR 0 (o_getf 13 77 (o_ld rx_isI 1 (o_ald 0 (o_ald 0 (o_callV 2 13 FX13_fault ((vX13_leafOfMore_359 g)))))))))))
set_option maxRecDepth 20000 in
theorem wX13_leafOfMore_342 {dn : Nat} {g : Nat → List Nat → rx_H → Option (Nat × rx_H)} (hZ : zO b e D A X) (hg : ∀ i y M, vl13[i]? = some (y, M) → rx_Met (zV b e D A X) dn y M (g i)) (hd : 172 ≤ dn) : rx_OK (zV b e D A X) mX13_leafOfMore (dn + 1) 342 (vX13_leafOfMore_342 g) := by
  unfold vX13_leafOfMore_342
  refine s_aload_n hZ.1 dX13_leafOfMore_342 rfl ?_
  refine s_bipush dX13_leafOfMore_343 (by decide +kernel) ?_
  refine s_aload_n hZ.1 dX13_leafOfMore_345 rfl ?_
  refine yg13_71 dX13_leafOfMore_346 zw4192 ?_
  refine s_aload_n hZ.1 dX13_leafOfMore_349 rfl ?_
  refine yg13_77 dX13_leafOfMore_350 zw4198 ?_
  refine s_iload_n hZ.1 dX13_leafOfMore_353 rfl ?_
  refine s_iald (tt := 0) rfl dX13_leafOfMore_354 ?_
  refine s_iald (tt := 0) rfl dX13_leafOfMore_355 ?_
  refine s_callV hZ.1 (Met_X13_fault hZ) (Nat.succ_le_succ (Nat.le_trans (Nat.le_of_ble_eq_true rfl) hd)) vy_X13_fault zcl13 zw3004 zw190 (Or.inl zw3002) dX13_leafOfMore_356 ?_
  exact (wX13_leafOfMore_359 hZ hg hd)
noncomputable def vX13_leafOfMore_335 (g : Nat → List Nat → rx_H → Option (Nat × rx_H)) : rx_K := o_ld rx_isL 3 (o_callS 1 FX13_isObject (o_c1 rx_eq (vX13_leafOfMore_342 g) (vX13_leafOfMore_359 g)))
set_option maxRecDepth 20000 in
theorem wX13_leafOfMore_335 {dn : Nat} {g : Nat → List Nat → rx_H → Option (Nat × rx_H)} (hZ : zO b e D A X) (hg : ∀ i y M, vl13[i]? = some (y, M) → rx_Met (zV b e D A X) dn y M (g i)) (hd : 172 ≤ dn) : rx_OK (zV b e D A X) mX13_leafOfMore (dn + 1) 335 (vX13_leafOfMore_335 g) := by
  unfold vX13_leafOfMore_335
  refine s_lload_n hZ.1 dX13_leafOfMore_335 rfl ?_
  refine s_callS hZ.1 (Met_X13_isObject hZ) (Nat.succ_le_succ (Nat.le_trans (Nat.le_of_ble_eq_true rfl) hd)) vy_X13_isObject zw3457 (Or.inl zw3456) dX13_leafOfMore_336 ?_
  exact s_if_ne dX13_leafOfMore_339 (by decide) (wX13_leafOfMore_359 hZ hg hd) (wX13_leafOfMore_342 hZ hg hd)
noncomputable def vX13_leafOfMore_322 (g : Nat → List Nat → rx_H → Option (Nat × rx_H)) : rx_K := o_stL 3 (o_ld rx_isR 0 (o_ld rx_isI 2 (o_putf rx_isI 13 108 (o_ld rx_isR 0 (o_getf 13 20 (o_c1 rx_eq (vX13_leafOfMore_335 g) (vX13_leafOfMore_359 g)))))))
set_option maxRecDepth 20000 in
theorem wX13_leafOfMore_322 {dn : Nat} {g : Nat → List Nat → rx_H → Option (Nat × rx_H)} (hZ : zO b e D A X) (hg : ∀ i y M, vl13[i]? = some (y, M) → rx_Met (zV b e D A X) dn y M (g i)) (hd : 172 ≤ dn) : rx_OK (zV b e D A X) mX13_leafOfMore (dn + 1) 322 (vX13_leafOfMore_322 g) := by
  unfold vX13_leafOfMore_322
  refine s_lstore_n hZ.1 dX13_leafOfMore_322 rfl (Nat.le_of_ble_eq_true rfl) ?_
  refine s_aload_n hZ.1 dX13_leafOfMore_323 rfl ?_
  refine s_iload_n hZ.1 dX13_leafOfMore_324 rfl ?_
  refine yp13_108 hZ.1 dX13_leafOfMore_325 zw4228 ?_
  refine s_aload_n hZ.1 dX13_leafOfMore_328 rfl ?_
  refine yg13_20 dX13_leafOfMore_329 zw4141 ?_
  exact s_if_ne dX13_leafOfMore_332 (by decide) (wX13_leafOfMore_359 hZ hg hd) (wX13_leafOfMore_335 hZ hg hd)
noncomputable def vX13_leafOfMore_319 (g : Nat → List Nat → rx_H → Option (Nat × rx_H)) : rx_K := o_const 17 ((vX13_leafOfMore_322 g))
set_option maxRecDepth 20000 in
theorem wX13_leafOfMore_319 {dn : Nat} {g : Nat → List Nat → rx_H → Option (Nat × rx_H)} (hZ : zO b e D A X) (hg : ∀ i y M, vl13[i]? = some (y, M) → rx_Met (zV b e D A X) dn y M (g i)) (hd : 172 ≤ dn) : rx_OK (zV b e D A X) mX13_leafOfMore (dn + 1) 319 (vX13_leafOfMore_319 g) := by
  unfold vX13_leafOfMore_319
  refine s_ldc2 dX13_leafOfMore_319 zw3066 (by decide +kernel) ?_
  exact (wX13_leafOfMore_322 hZ hg hd)
noncomputable def vX13_leafOfMore_306 (g : Nat → List Nat → rx_H → Option (Nat × rx_H)) : rx_K := o_ld rx_isR 0 (o_ld rx_isR 0 (o_getf 13 77 (o_ld rx_isI 1 (o_ald 0 (o_callV 1 13 (g 1) ((vX13_leafOfMore_322 g)))))))
set_option maxRecDepth 20000 in
theorem wX13_leafOfMore_306 {dn : Nat} {g : Nat → List Nat → rx_H → Option (Nat × rx_H)} (hZ : zO b e D A X) (hg : ∀ i y M, vl13[i]? = some (y, M) → rx_Met (zV b e D A X) dn y M (g i)) (hd : 172 ≤ dn) : rx_OK (zV b e D A X) mX13_leafOfMore (dn + 1) 306 (vX13_leafOfMore_306 g) := by
  unfold vX13_leafOfMore_306
  refine s_aload_n hZ.1 dX13_leafOfMore_306 rfl ?_
  refine s_aload_n hZ.1 dX13_leafOfMore_307 rfl ?_
  refine yg13_77 dX13_leafOfMore_308 zw4198 ?_
  refine s_iload_n hZ.1 dX13_leafOfMore_311 rfl ?_
  refine s_iald (tt := 0) rfl dX13_leafOfMore_312 ?_
  refine s_callV hZ.1 (hg 1 _ _ rfl) (Nat.le_refl _) vy_X13_judge zcl13 zw3398 zw274 (Or.inl zw3396) dX13_leafOfMore_313 ?_
  exact s_goto dX13_leafOfMore_316 (by decide) (wX13_leafOfMore_322 hZ hg hd)
noncomputable def vX13_leafOfMore_294 (g : Nat → List Nat → rx_H → Option (Nat × rx_H)) : rx_K := o_ld rx_isR 0 (o_getf 13 108 (o_st rx_isI 2 (o_ld rx_isR 0 (o_getf 13 20 (o_c1 rx_eq (vX13_leafOfMore_306 g) (vX13_leafOfMore_319 g))))))
set_option maxRecDepth 20000 in
theorem wX13_leafOfMore_294 {dn : Nat} {g : Nat → List Nat → rx_H → Option (Nat × rx_H)} (hZ : zO b e D A X) (hg : ∀ i y M, vl13[i]? = some (y, M) → rx_Met (zV b e D A X) dn y M (g i)) (hd : 172 ≤ dn) : rx_OK (zV b e D A X) mX13_leafOfMore (dn + 1) 294 (vX13_leafOfMore_294 g) := by
  unfold vX13_leafOfMore_294
  refine s_aload_n hZ.1 dX13_leafOfMore_294 rfl ?_
  refine yg13_108 dX13_leafOfMore_295 zw4228 ?_
  refine s_istore_n hZ.1 dX13_leafOfMore_298 rfl (Nat.le_of_ble_eq_true rfl) ?_
  refine s_aload_n hZ.1 dX13_leafOfMore_299 rfl ?_
  refine yg13_20 dX13_leafOfMore_300 zw4141 ?_
  exact s_if_ne dX13_leafOfMore_303 (by decide) (wX13_leafOfMore_319 hZ hg hd) (wX13_leafOfMore_306 hZ hg hd)
noncomputable def vX13_leafOfMore_287 (g : Nat → List Nat → rx_H → Option (Nat × rx_H)) : rx_K := o_ld rx_isR 0 (o_getf 13 75 (o_ld rx_isI 1 (o_ald 1 (o_ret1 rx_isL))))
set_option maxRecDepth 20000 in
theorem wX13_leafOfMore_287 {dn : Nat} {g : Nat → List Nat → rx_H → Option (Nat × rx_H)} (hZ : zO b e D A X) (hg : ∀ i y M, vl13[i]? = some (y, M) → rx_Met (zV b e D A X) dn y M (g i)) (hd : 172 ≤ dn) : rx_OK (zV b e D A X) mX13_leafOfMore (dn + 1) 287 (vX13_leafOfMore_287 g) := by
  unfold vX13_leafOfMore_287
  refine s_aload_n hZ.1 dX13_leafOfMore_287 rfl ?_
  refine yg13_75 dX13_leafOfMore_288 zw4196 ?_
  refine s_iload_n hZ.1 dX13_leafOfMore_291 rfl ?_
  refine s_lald (tt := 1) rfl dX13_leafOfMore_292 ?_
  exact s_lret rfl dX13_leafOfMore_293
noncomputable def vX13_leafOfMore_281 (g : Nat → List Nat → rx_H → Option (Nat × rx_H)) : rx_K := o_ld rx_isR 0 (o_ld rx_isI 1 (o_ld rx_isI 3 (o_callV 2 13 FX13_keepParams ((vX13_leafOfMore_287 g)))))
set_option maxRecDepth 20000 in
theorem wX13_leafOfMore_281 {dn : Nat} {g : Nat → List Nat → rx_H → Option (Nat × rx_H)} (hZ : zO b e D A X) (hg : ∀ i y M, vl13[i]? = some (y, M) → rx_Met (zV b e D A X) dn y M (g i)) (hd : 172 ≤ dn) : rx_OK (zV b e D A X) mX13_leafOfMore (dn + 1) 281 (vX13_leafOfMore_281 g) := by
  unfold vX13_leafOfMore_281
  refine s_aload_n hZ.1 dX13_leafOfMore_281 rfl ?_
  refine s_iload_n hZ.1 dX13_leafOfMore_282 rfl ?_
  refine s_iload_n hZ.1 dX13_leafOfMore_283 rfl ?_
  refine s_callV hZ.1 (Met_X13_keepParams hZ) (Nat.succ_le_succ (Nat.le_trans (Nat.le_of_ble_eq_true rfl) hd)) vy_X13_keepParams zcl13 zw3442 zw285 (Or.inl zw3440) dX13_leafOfMore_284 ?_
  exact (wX13_leafOfMore_287 hZ hg hd)
noncomputable def vX13_leafOfMore_266 (g : Nat → List Nat → rx_H → Option (Nat × rx_H)) : rx_K := o_ld rx_isR 0 (o_const 144 (o_ld rx_isR 0 (o_getf 13 73 (o_ld rx_isI 1 (o_ald 0 (o_callV 2 13 FX13_fault ((vX13_leafOfMore_287 g))))))))
set_option maxRecDepth 20000 in
theorem wX13_leafOfMore_266 {dn : Nat} {g : Nat → List Nat → rx_H → Option (Nat × rx_H)} (hZ : zO b e D A X) (hg : ∀ i y M, vl13[i]? = some (y, M) → rx_Met (zV b e D A X) dn y M (g i)) (hd : 172 ≤ dn) : rx_OK (zV b e D A X) mX13_leafOfMore (dn + 1) 266 (vX13_leafOfMore_266 g) := by
  unfold vX13_leafOfMore_266
  refine s_aload_n hZ.1 dX13_leafOfMore_266 rfl ?_
  refine s_bipush dX13_leafOfMore_267 (by decide +kernel) ?_
  refine s_aload_n hZ.1 dX13_leafOfMore_269 rfl ?_
  refine yg13_73 dX13_leafOfMore_270 zw4194 ?_
  refine s_iload_n hZ.1 dX13_leafOfMore_273 rfl ?_
  refine s_iald (tt := 0) rfl dX13_leafOfMore_274 ?_
  refine s_callV hZ.1 (Met_X13_fault hZ) (Nat.succ_le_succ (Nat.le_trans (Nat.le_of_ble_eq_true rfl) hd)) vy_X13_fault zcl13 zw3004 zw190 (Or.inl zw3002) dX13_leafOfMore_275 ?_
  exact s_goto dX13_leafOfMore_278 (by decide) (wX13_leafOfMore_287 hZ hg hd)
noncomputable def vX13_leafOfMore_259 (g : Nat → List Nat → rx_H → Option (Nat × rx_H)) : rx_K := o_st rx_isI 3 (o_ld rx_isI 3 (o_const 34359738352 (o_c2 rx_eq (vX13_leafOfMore_266 g) (vX13_leafOfMore_281 g))))
set_option maxRecDepth 20000 in
theorem wX13_leafOfMore_259 {dn : Nat} {g : Nat → List Nat → rx_H → Option (Nat × rx_H)} (hZ : zO b e D A X) (hg : ∀ i y M, vl13[i]? = some (y, M) → rx_Met (zV b e D A X) dn y M (g i)) (hd : 172 ≤ dn) : rx_OK (zV b e D A X) mX13_leafOfMore (dn + 1) 259 (vX13_leafOfMore_259 g) := by
  unfold vX13_leafOfMore_259
  refine s_istore_n hZ.1 dX13_leafOfMore_259 rfl (Nat.le_of_ble_eq_true rfl) ?_
  refine s_iload_n hZ.1 dX13_leafOfMore_260 rfl ?_
  refine s_bipush dX13_leafOfMore_261 (by decide +kernel) ?_
  exact s_icmp_ne dX13_leafOfMore_263 (by decide) (wX13_leafOfMore_281 hZ hg hd) (wX13_leafOfMore_266 hZ hg hd)
noncomputable def vX13_leafOfMore_248 (g : Nat → List Nat → rx_H → Option (Nat × rx_H)) : rx_K := o_ld rx_isR 0 (o_ld rx_isI 2 (o_ld rx_isR 0 (o_getf 13 78 (o_ld rx_isI 1 (o_ald 0 (o_callV 2 13 FX13_meantMaker ((vX13_leafOfMore_259 g))))))))
set_option maxRecDepth 20000 in
theorem wX13_leafOfMore_248 {dn : Nat} {g : Nat → List Nat → rx_H → Option (Nat × rx_H)} (hZ : zO b e D A X) (hg : ∀ i y M, vl13[i]? = some (y, M) → rx_Met (zV b e D A X) dn y M (g i)) (hd : 172 ≤ dn) : rx_OK (zV b e D A X) mX13_leafOfMore (dn + 1) 248 (vX13_leafOfMore_248 g) := by
  unfold vX13_leafOfMore_248
  refine s_aload_n hZ.1 dX13_leafOfMore_248 rfl ?_
  refine s_iload_n hZ.1 dX13_leafOfMore_249 rfl ?_
  refine s_aload_n hZ.1 dX13_leafOfMore_250 rfl ?_
  refine yg13_78 dX13_leafOfMore_251 zw4199 ?_
  refine s_iload_n hZ.1 dX13_leafOfMore_254 rfl ?_
  refine s_iald (tt := 0) rfl dX13_leafOfMore_255 ?_
  refine s_callV hZ.1 (Met_X13_meantMaker hZ) (Nat.succ_le_succ (Nat.le_trans (Nat.le_of_ble_eq_true rfl) hd)) vy_X13_meantMaker zcl13 zw3454 zw288 (Or.inl zw3452) dX13_leafOfMore_256 ?_
  exact (wX13_leafOfMore_259 hZ hg hd)
noncomputable def vX13_leafOfMore_243 (g : Nat → List Nat → rx_H → Option (Nat × rx_H)) : rx_K := o_const 34359738352 ((vX13_leafOfMore_259 g))
set_option maxRecDepth 20000 in
theorem wX13_leafOfMore_243 {dn : Nat} {g : Nat → List Nat → rx_H → Option (Nat × rx_H)} (hZ : zO b e D A X) (hg : ∀ i y M, vl13[i]? = some (y, M) → rx_Met (zV b e D A X) dn y M (g i)) (hd : 172 ≤ dn) : rx_OK (zV b e D A X) mX13_leafOfMore (dn + 1) 243 (vX13_leafOfMore_243 g) := by
  unfold vX13_leafOfMore_243
  refine s_bipush dX13_leafOfMore_243 (by decide +kernel) ?_
  exact s_goto dX13_leafOfMore_245 (by decide) (wX13_leafOfMore_259 hZ hg hd)
noncomputable def vX13_leafOfMore_233 (g : Nat → List Nat → rx_H → Option (Nat × rx_H)) : rx_K := o_ld rx_isR 0 (o_getf 13 27 (o_ld rx_isI 2 (o_ald 0 (o_const 16 (o_c2 rx_eq (vX13_leafOfMore_243 g) (vX13_leafOfMore_248 g))))))
set_option maxRecDepth 20000 in
theorem wX13_leafOfMore_233 {dn : Nat} {g : Nat → List Nat → rx_H → Option (Nat × rx_H)} (hZ : zO b e D A X) (hg : ∀ i y M, vl13[i]? = some (y, M) → rx_Met (zV b e D A X) dn y M (g i)) (hd : 172 ≤ dn) : rx_OK (zV b e D A X) mX13_leafOfMore (dn + 1) 233 (vX13_leafOfMore_233 g) := by
  unfold vX13_leafOfMore_233
  refine s_aload_n hZ.1 dX13_leafOfMore_233 rfl ?_
  refine yg13_27 dX13_leafOfMore_234 zw4148 ?_
  refine s_iload_n hZ.1 dX13_leafOfMore_237 rfl ?_
  refine s_iald (tt := 0) rfl dX13_leafOfMore_238 ?_
  refine s_iconst dX13_leafOfMore_239 (by decide +kernel) ?_
  exact s_icmp_ne dX13_leafOfMore_240 (by decide) (wX13_leafOfMore_248 hZ hg hd) (wX13_leafOfMore_243 hZ hg hd)
noncomputable def vX13_leafOfMore_214 (g : Nat → List Nat → rx_H → Option (Nat × rx_H)) : rx_K := o_ld rx_isR 0 (o_ld rx_isR 0 (o_getf 13 75 (o_ld rx_isI 1 (o_ald 1 (o_callV 1 13 FX13_find (o_st rx_isI 2 (o_ld rx_isR 0 (o_ld rx_isI 2 (o_callV 1 13 FX13_isFace (o_c1 rx_eq (vX13_leafOfMore_233 g) (vX13_leafOfMore_243 g)))))))))))
set_option maxRecDepth 20000 in
theorem wX13_leafOfMore_214 {dn : Nat} {g : Nat → List Nat → rx_H → Option (Nat × rx_H)} (hZ : zO b e D A X) (hg : ∀ i y M, vl13[i]? = some (y, M) → rx_Met (zV b e D A X) dn y M (g i)) (hd : 172 ≤ dn) : rx_OK (zV b e D A X) mX13_leafOfMore (dn + 1) 214 (vX13_leafOfMore_214 g) := by
  unfold vX13_leafOfMore_214
  refine s_aload_n hZ.1 dX13_leafOfMore_214 rfl ?_
  refine s_aload_n hZ.1 dX13_leafOfMore_215 rfl ?_
  refine yg13_75 dX13_leafOfMore_216 zw4196 ?_
  refine s_iload_n hZ.1 dX13_leafOfMore_219 rfl ?_
  refine s_lald (tt := 1) rfl dX13_leafOfMore_220 ?_
  refine s_callV hZ.1 (Met_X13_find hZ) (Nat.succ_le_succ (Nat.le_trans (Nat.le_of_ble_eq_true rfl) hd)) vy_X13_find zcl13 zw3186 zw226 (Or.inl zw3184) dX13_leafOfMore_221 ?_
  refine s_istore_n hZ.1 dX13_leafOfMore_224 rfl (Nat.le_of_ble_eq_true rfl) ?_
  refine s_aload_n hZ.1 dX13_leafOfMore_225 rfl ?_
  refine s_iload_n hZ.1 dX13_leafOfMore_226 rfl ?_
  refine s_callV hZ.1 (Met_X13_isFace hZ) (Nat.succ_le_succ (Nat.le_trans (Nat.le_of_ble_eq_true rfl) hd)) vy_X13_isFace zcl13 zw3192 zw227 (Or.inl zw3190) dX13_leafOfMore_227 ?_
  exact s_if_ne dX13_leafOfMore_230 (by decide) (wX13_leafOfMore_243 hZ hg hd) (wX13_leafOfMore_233 hZ hg hd)
noncomputable def vX13_leafOfMore_197 (g : Nat → List Nat → rx_H → Option (Nat × rx_H)) : rx_K := o_ld rx_isR 0 (o_ld rx_isR 0 (o_getf 13 78 (o_ld rx_isI 1 (o_ald 0 (o_callV 1 13 (g 0) (o_ld rx_isR 0 (o_getf 13 20 (o_c1 rx_eq (vX13_leafOfMore_214 g) (vX13_leafOfMore_287 g)))))))))
set_option maxRecDepth 20000 in
theorem wX13_leafOfMore_197 {dn : Nat} {g : Nat → List Nat → rx_H → Option (Nat × rx_H)} (hZ : zO b e D A X) (hg : ∀ i y M, vl13[i]? = some (y, M) → rx_Met (zV b e D A X) dn y M (g i)) (hd : 172 ≤ dn) : rx_OK (zV b e D A X) mX13_leafOfMore (dn + 1) 197 (vX13_leafOfMore_197 g) := by
  unfold vX13_leafOfMore_197
  refine s_aload_n hZ.1 dX13_leafOfMore_197 rfl ?_
  refine s_aload_n hZ.1 dX13_leafOfMore_198 rfl ?_
  refine yg13_78 dX13_leafOfMore_199 zw4199 ?_
  refine s_iload_n hZ.1 dX13_leafOfMore_202 rfl ?_
  refine s_iald (tt := 0) rfl dX13_leafOfMore_203 ?_
  refine s_callV hZ.1 (hg 0 _ _ rfl) (Nat.le_refl _) vy_X13_args zcl13 zw3414 zw278 (Or.inl zw3412) dX13_leafOfMore_204 ?_
  refine s_aload_n hZ.1 dX13_leafOfMore_207 rfl ?_
  refine yg13_20 dX13_leafOfMore_208 zw4141 ?_
  exact s_if_ne dX13_leafOfMore_211 (by decide) (wX13_leafOfMore_287 hZ hg hd) (wX13_leafOfMore_214 hZ hg hd)
noncomputable def vX13_leafOfMore_186 (g : Nat → List Nat → rx_H → Option (Nat × rx_H)) : rx_K := o_ld rx_isR 0 (o_getf 13 70 (o_ld rx_isI 1 (o_ald 0 (o_const 72 (o_c2 rx_eq (vX13_leafOfMore_197 g) (vX13_leafOfMore_294 g))))))
set_option maxRecDepth 20000 in
theorem wX13_leafOfMore_186 {dn : Nat} {g : Nat → List Nat → rx_H → Option (Nat × rx_H)} (hZ : zO b e D A X) (hg : ∀ i y M, vl13[i]? = some (y, M) → rx_Met (zV b e D A X) dn y M (g i)) (hd : 172 ≤ dn) : rx_OK (zV b e D A X) mX13_leafOfMore (dn + 1) 186 (vX13_leafOfMore_186 g) := by
  unfold vX13_leafOfMore_186
  refine s_aload_n hZ.1 dX13_leafOfMore_186 rfl ?_
  refine yg13_70 dX13_leafOfMore_187 zw4191 ?_
  refine s_iload_n hZ.1 dX13_leafOfMore_190 rfl ?_
  refine s_iald (tt := 0) rfl dX13_leafOfMore_191 ?_
  refine s_bipush dX13_leafOfMore_192 (by decide +kernel) ?_
  exact s_icmp_ne dX13_leafOfMore_194 (by decide) (wX13_leafOfMore_294 hZ hg hd) (wX13_leafOfMore_197 hZ hg hd)
noncomputable def vX13_leafOfMore_185 (g : Nat → List Nat → rx_H → Option (Nat × rx_H)) : rx_K := o_ret1 rx_isL
set_option maxRecDepth 20000 in
theorem wX13_leafOfMore_185 {dn : Nat} {g : Nat → List Nat → rx_H → Option (Nat × rx_H)} (hZ : zO b e D A X) (hg : ∀ i y M, vl13[i]? = some (y, M) → rx_Met (zV b e D A X) dn y M (g i)) (hd : 172 ≤ dn) : rx_OK (zV b e D A X) mX13_leafOfMore (dn + 1) 185 (vX13_leafOfMore_185 g) := by
  unfold vX13_leafOfMore_185
  exact s_lret rfl dX13_leafOfMore_185
noncomputable def vX13_leafOfMore_182 (g : Nat → List Nat → rx_H → Option (Nat × rx_H)) : rx_K := o_const 17 ((vX13_leafOfMore_185 g))
set_option maxRecDepth 20000 in
theorem wX13_leafOfMore_182 {dn : Nat} {g : Nat → List Nat → rx_H → Option (Nat × rx_H)} (hZ : zO b e D A X) (hg : ∀ i y M, vl13[i]? = some (y, M) → rx_Met (zV b e D A X) dn y M (g i)) (hd : 172 ≤ dn) : rx_OK (zV b e D A X) mX13_leafOfMore (dn + 1) 182 (vX13_leafOfMore_182 g) := by
  unfold vX13_leafOfMore_182
  refine s_ldc2 dX13_leafOfMore_182 zw3066 (by decide +kernel) ?_
  exact (wX13_leafOfMore_185 hZ hg hd)
noncomputable def vX13_leafOfMore_175 (g : Nat → List Nat → rx_H → Option (Nat × rx_H)) : rx_K := o_ld rx_isI 2 (o_callV 3 13 FX13_superCall ((vX13_leafOfMore_185 g)))
set_option maxRecDepth 20000 in
theorem wX13_leafOfMore_175 {dn : Nat} {g : Nat → List Nat → rx_H → Option (Nat × rx_H)} (hZ : zO b e D A X) (hg : ∀ i y M, vl13[i]? = some (y, M) → rx_Met (zV b e D A X) dn y M (g i)) (hd : 172 ≤ dn) : rx_OK (zV b e D A X) mX13_leafOfMore (dn + 1) 175 (vX13_leafOfMore_175 g) := by
  unfold vX13_leafOfMore_175
  refine s_iload_n hZ.1 dX13_leafOfMore_175 rfl ?_
  refine s_callV hZ.1 (Met_X13_superCall hZ) (Nat.succ_le_succ (Nat.le_trans (Nat.le_of_ble_eq_true rfl) hd)) vy_X13_superCall zcl13 zw3450 zw287 (Or.inl zw3448) dX13_leafOfMore_176 ?_
  exact s_goto dX13_leafOfMore_179 (by decide) (wX13_leafOfMore_185 hZ hg hd)
noncomputable def vX13_leafOfMore_173 (g : Nat → List Nat → rx_H → Option (Nat × rx_H)) : rx_K := o_const 34359738352 ((vX13_leafOfMore_175 g))
set_option maxRecDepth 20000 in
theorem wX13_leafOfMore_173 {dn : Nat} {g : Nat → List Nat → rx_H → Option (Nat × rx_H)} (hZ : zO b e D A X) (hg : ∀ i y M, vl13[i]? = some (y, M) → rx_Met (zV b e D A X) dn y M (g i)) (hd : 172 ≤ dn) : rx_OK (zV b e D A X) mX13_leafOfMore (dn + 1) 173 (vX13_leafOfMore_173 g) := by
  unfold vX13_leafOfMore_173
  refine s_bipush dX13_leafOfMore_173 (by decide +kernel) ?_
  exact (wX13_leafOfMore_175 hZ hg hd)
noncomputable def vX13_leafOfMore_160 (g : Nat → List Nat → rx_H → Option (Nat × rx_H)) : rx_K := o_ld rx_isR 0 (o_ld rx_isR 0 (o_getf 13 75 (o_ld rx_isI 1 (o_ald 1 (o_callV 1 13 FX13_find ((vX13_leafOfMore_175 g)))))))
set_option maxRecDepth 20000 in
theorem wX13_leafOfMore_160 {dn : Nat} {g : Nat → List Nat → rx_H → Option (Nat × rx_H)} (hZ : zO b e D A X) (hg : ∀ i y M, vl13[i]? = some (y, M) → rx_Met (zV b e D A X) dn y M (g i)) (hd : 172 ≤ dn) : rx_OK (zV b e D A X) mX13_leafOfMore (dn + 1) 160 (vX13_leafOfMore_160 g) := by
  unfold vX13_leafOfMore_160
  refine s_aload_n hZ.1 dX13_leafOfMore_160 rfl ?_
  refine s_aload_n hZ.1 dX13_leafOfMore_161 rfl ?_
  refine yg13_75 dX13_leafOfMore_162 zw4196 ?_
  refine s_iload_n hZ.1 dX13_leafOfMore_165 rfl ?_
  refine s_lald (tt := 1) rfl dX13_leafOfMore_166 ?_
  refine s_callV hZ.1 (Met_X13_find hZ) (Nat.succ_le_succ (Nat.le_trans (Nat.le_of_ble_eq_true rfl) hd)) vy_X13_find zcl13 zw3186 zw226 (Or.inl zw3184) dX13_leafOfMore_167 ?_
  exact s_goto dX13_leafOfMore_170 (by decide) (wX13_leafOfMore_175 hZ hg hd)
noncomputable def vX13_leafOfMore_154 (g : Nat → List Nat → rx_H → Option (Nat × rx_H)) : rx_K := o_ld rx_isR 0 (o_ld rx_isI 1 (o_ld rx_isI 3 (o_c1 rx_eq (vX13_leafOfMore_173 g) (vX13_leafOfMore_160 g))))
set_option maxRecDepth 20000 in
theorem wX13_leafOfMore_154 {dn : Nat} {g : Nat → List Nat → rx_H → Option (Nat × rx_H)} (hZ : zO b e D A X) (hg : ∀ i y M, vl13[i]? = some (y, M) → rx_Met (zV b e D A X) dn y M (g i)) (hd : 172 ≤ dn) : rx_OK (zV b e D A X) mX13_leafOfMore (dn + 1) 154 (vX13_leafOfMore_154 g) := by
  unfold vX13_leafOfMore_154
  refine s_aload_n hZ.1 dX13_leafOfMore_154 rfl ?_
  refine s_iload_n hZ.1 dX13_leafOfMore_155 rfl ?_
  refine s_iload_n hZ.1 dX13_leafOfMore_156 rfl ?_
  exact s_if_eq dX13_leafOfMore_157 (by decide) (wX13_leafOfMore_173 hZ hg hd) (wX13_leafOfMore_160 hZ hg hd)
noncomputable def vX13_leafOfMore_141 (g : Nat → List Nat → rx_H → Option (Nat × rx_H)) : rx_K := o_ld rx_isI 1 (o_ald 1 (o_callS 4 FX13_stands (o_st rx_isI 3 (o_ld rx_isR 0 (o_getf 13 20 (o_c1 rx_eq (vX13_leafOfMore_154 g) (vX13_leafOfMore_182 g)))))))
set_option maxRecDepth 20000 in
theorem wX13_leafOfMore_141 {dn : Nat} {g : Nat → List Nat → rx_H → Option (Nat × rx_H)} (hZ : zO b e D A X) (hg : ∀ i y M, vl13[i]? = some (y, M) → rx_Met (zV b e D A X) dn y M (g i)) (hd : 172 ≤ dn) : rx_OK (zV b e D A X) mX13_leafOfMore (dn + 1) 141 (vX13_leafOfMore_141 g) := by
  unfold vX13_leafOfMore_141
  refine s_iload_n hZ.1 dX13_leafOfMore_141 rfl ?_
  refine s_lald (tt := 1) rfl dX13_leafOfMore_142 ?_
  refine s_callS hZ.1 (Met_X13_stands hZ) (Nat.succ_le_succ (Nat.le_trans (Nat.le_of_ble_eq_true rfl) hd)) vy_X13_stands zw3207 (Or.inl zw3206) dX13_leafOfMore_143 ?_
  refine s_istore_n hZ.1 dX13_leafOfMore_146 rfl (Nat.le_of_ble_eq_true rfl) ?_
  refine s_aload_n hZ.1 dX13_leafOfMore_147 rfl ?_
  refine yg13_20 dX13_leafOfMore_148 zw4141 ?_
  exact s_if_ne dX13_leafOfMore_151 (by decide) (wX13_leafOfMore_182 hZ hg hd) (wX13_leafOfMore_154 hZ hg hd)
noncomputable def vX13_leafOfMore_101 (g : Nat → List Nat → rx_H → Option (Nat × rx_H)) : rx_K := o_ld rx_isR 0 (o_getf 13 79 (o_ld rx_isI 1 (o_ald 0 (o_st rx_isI 2 (o_ld rx_isR 0 (o_ld rx_isR 0 (o_getf 13 78 (o_ld rx_isI 1 (o_ald 0 (o_callV 1 13 (g 0) (o_ld rx_isR 0 (o_getf 13 30 (o_const 32 (o_ld rx_isR 0 (o_getf 13 109 (o_bi (fun x y => x * y) (o_ld rx_isR 0 (o_getf 13 32 (o_ld rx_isR 0 (o_getf 13 109 (o_ald 0 (o_ld rx_isR 0 (o_getf 13 75 ((vX13_leafOfMore_141 g)))))))))))))))))))))))))
set_option maxRecDepth 20000 in
theorem wX13_leafOfMore_101 {dn : Nat} {g : Nat → List Nat → rx_H → Option (Nat × rx_H)} (hZ : zO b e D A X) (hg : ∀ i y M, vl13[i]? = some (y, M) → rx_Met (zV b e D A X) dn y M (g i)) (hd : 172 ≤ dn) : rx_OK (zV b e D A X) mX13_leafOfMore (dn + 1) 101 (vX13_leafOfMore_101 g) := by
  unfold vX13_leafOfMore_101
  refine s_aload_n hZ.1 dX13_leafOfMore_101 rfl ?_
  refine yg13_79 dX13_leafOfMore_102 zw4200 ?_
  refine s_iload_n hZ.1 dX13_leafOfMore_105 rfl ?_
  refine s_iald (tt := 0) rfl dX13_leafOfMore_106 ?_
  refine s_istore_n hZ.1 dX13_leafOfMore_107 rfl (Nat.le_of_ble_eq_true rfl) ?_
  refine s_aload_n hZ.1 dX13_leafOfMore_108 rfl ?_
  refine s_aload_n hZ.1 dX13_leafOfMore_109 rfl ?_
  refine yg13_78 dX13_leafOfMore_110 zw4199 ?_
  refine s_iload_n hZ.1 dX13_leafOfMore_113 rfl ?_
  refine s_iald (tt := 0) rfl dX13_leafOfMore_114 ?_
  refine s_callV hZ.1 (hg 0 _ _ rfl) (Nat.le_refl _) vy_X13_args zcl13 zw3414 zw278 (Or.inl zw3412) dX13_leafOfMore_115 ?_
  refine s_aload_n hZ.1 dX13_leafOfMore_118 rfl ?_
  refine yg13_30 dX13_leafOfMore_119 zw4151 ?_
  refine s_iconst dX13_leafOfMore_122 (by decide +kernel) ?_
  refine s_aload_n hZ.1 dX13_leafOfMore_123 rfl ?_
  refine yg13_109 dX13_leafOfMore_124 zw4229 ?_
  refine s_imul dX13_leafOfMore_127 ?_
  refine s_aload_n hZ.1 dX13_leafOfMore_128 rfl ?_
  refine yg13_32 dX13_leafOfMore_129 zw4153 ?_
  refine s_aload_n hZ.1 dX13_leafOfMore_132 rfl ?_
  refine yg13_109 dX13_leafOfMore_133 zw4229 ?_
  refine s_iald (tt := 0) rfl dX13_leafOfMore_136 ?_
  refine s_aload_n hZ.1 dX13_leafOfMore_137 rfl ?_
  refine yg13_75 dX13_leafOfMore_138 zw4196 ?_
  exact (wX13_leafOfMore_141 hZ hg hd)
noncomputable def vX13_leafOfMore_70 (g : Nat → List Nat → rx_H → Option (Nat × rx_H)) : rx_K := o_ld rx_isR 0 (o_ld rx_isR 0 (o_getf 13 75 (o_ld rx_isI 1 (o_ald 1 (o_ld rx_isR 0 (o_getf 13 73 (o_ld rx_isI 1 (o_ald 0 (o_ld rx_isR 0 (o_getf 13 109 (o_callV 3 13 FX13_type (o_ld rx_isR 0 (o_getf 13 70 (o_ld rx_isI 1 (o_ald 0 (o_const 56 (o_c2 rx_eq (vX13_leafOfMore_101 g) (vX13_leafOfMore_186 g))))))))))))))))))
set_option maxRecDepth 20000 in
theorem wX13_leafOfMore_70 {dn : Nat} {g : Nat → List Nat → rx_H → Option (Nat × rx_H)} (hZ : zO b e D A X) (hg : ∀ i y M, vl13[i]? = some (y, M) → rx_Met (zV b e D A X) dn y M (g i)) (hd : 172 ≤ dn) : rx_OK (zV b e D A X) mX13_leafOfMore (dn + 1) 70 (vX13_leafOfMore_70 g) := by
  unfold vX13_leafOfMore_70
  refine s_aload_n hZ.1 dX13_leafOfMore_70 rfl ?_
  refine s_aload_n hZ.1 dX13_leafOfMore_71 rfl ?_
  refine yg13_75 dX13_leafOfMore_72 zw4196 ?_
  refine s_iload_n hZ.1 dX13_leafOfMore_75 rfl ?_
  refine s_lald (tt := 1) rfl dX13_leafOfMore_76 ?_
  refine s_aload_n hZ.1 dX13_leafOfMore_77 rfl ?_
  refine yg13_73 dX13_leafOfMore_78 zw4194 ?_
  refine s_iload_n hZ.1 dX13_leafOfMore_81 rfl ?_
  refine s_iald (tt := 0) rfl dX13_leafOfMore_82 ?_
  refine s_aload_n hZ.1 dX13_leafOfMore_83 rfl ?_
  refine yg13_109 dX13_leafOfMore_84 zw4229 ?_
  refine s_callV hZ.1 (Met_X13_type hZ) (Nat.succ_le_succ (Nat.le_trans (Nat.le_of_ble_eq_true rfl) hd)) vy_X13_type zcl13 zw3236 zw237 (Or.inl zw3234) dX13_leafOfMore_87 ?_
  refine s_aload_n hZ.1 dX13_leafOfMore_90 rfl ?_
  refine yg13_70 dX13_leafOfMore_91 zw4191 ?_
  refine s_iload_n hZ.1 dX13_leafOfMore_94 rfl ?_
  refine s_iald (tt := 0) rfl dX13_leafOfMore_95 ?_
  refine s_bipush dX13_leafOfMore_96 (by decide +kernel) ?_
  exact s_icmp_ne dX13_leafOfMore_98 (by decide) (wX13_leafOfMore_186 hZ hg hd) (wX13_leafOfMore_101 hZ hg hd)
noncomputable def vX13_leafOfMore_69 (g : Nat → List Nat → rx_H → Option (Nat × rx_H)) : rx_K := o_ret1 rx_isL
set_option maxRecDepth 20000 in
theorem wX13_leafOfMore_69 {dn : Nat} {g : Nat → List Nat → rx_H → Option (Nat × rx_H)} (hZ : zO b e D A X) (hg : ∀ i y M, vl13[i]? = some (y, M) → rx_Met (zV b e D A X) dn y M (g i)) (hd : 172 ≤ dn) : rx_OK (zV b e D A X) mX13_leafOfMore (dn + 1) 69 (vX13_leafOfMore_69 g) := by
  unfold vX13_leafOfMore_69
  exact s_lret rfl dX13_leafOfMore_69
noncomputable def vX13_leafOfMore_66 (g : Nat → List Nat → rx_H → Option (Nat × rx_H)) : rx_K := o_const 17 ((vX13_leafOfMore_69 g))
set_option maxRecDepth 20000 in
theorem wX13_leafOfMore_66 {dn : Nat} {g : Nat → List Nat → rx_H → Option (Nat × rx_H)} (hZ : zO b e D A X) (hg : ∀ i y M, vl13[i]? = some (y, M) → rx_Met (zV b e D A X) dn y M (g i)) (hd : 172 ≤ dn) : rx_OK (zV b e D A X) mX13_leafOfMore (dn + 1) 66 (vX13_leafOfMore_66 g) := by
  unfold vX13_leafOfMore_66
  refine s_ldc2 dX13_leafOfMore_66 zw3066 (by decide +kernel) ?_
  exact (wX13_leafOfMore_69 hZ hg hd)
noncomputable def vX13_leafOfMore_54 (g : Nat → List Nat → rx_H → Option (Nat × rx_H)) : rx_K := o_ld rx_isR 0 (o_getf 13 71 (o_ld rx_isI 1 (o_ald 0 (o_callV 3 13 FX13_superCall ((vX13_leafOfMore_69 g))))))
set_option maxRecDepth 20000 in
theorem wX13_leafOfMore_54 {dn : Nat} {g : Nat → List Nat → rx_H → Option (Nat × rx_H)} (hZ : zO b e D A X) (hg : ∀ i y M, vl13[i]? = some (y, M) → rx_Met (zV b e D A X) dn y M (g i)) (hd : 172 ≤ dn) : rx_OK (zV b e D A X) mX13_leafOfMore (dn + 1) 54 (vX13_leafOfMore_54 g) := by
  unfold vX13_leafOfMore_54
  refine s_aload_n hZ.1 dX13_leafOfMore_54 rfl ?_
  refine yg13_71 dX13_leafOfMore_55 zw4192 ?_
  refine s_iload_n hZ.1 dX13_leafOfMore_58 rfl ?_
  refine s_iald (tt := 0) rfl dX13_leafOfMore_59 ?_
  refine s_callV hZ.1 (Met_X13_superCall hZ) (Nat.succ_le_succ (Nat.le_trans (Nat.le_of_ble_eq_true rfl) hd)) vy_X13_superCall zcl13 zw3450 zw287 (Or.inl zw3448) dX13_leafOfMore_60 ?_
  exact s_goto dX13_leafOfMore_63 (by decide) (wX13_leafOfMore_69 hZ hg hd)
noncomputable def vX13_leafOfMore_46 (g : Nat → List Nat → rx_H → Option (Nat × rx_H)) : rx_K := o_ld rx_isR 0 (o_ld rx_isR 0 (o_getf 13 109 (o_callV 1 13 FX13_parent ((vX13_leafOfMore_54 g)))))
set_option maxRecDepth 20000 in
theorem wX13_leafOfMore_46 {dn : Nat} {g : Nat → List Nat → rx_H → Option (Nat × rx_H)} (hZ : zO b e D A X) (hg : ∀ i y M, vl13[i]? = some (y, M) → rx_Met (zV b e D A X) dn y M (g i)) (hd : 172 ≤ dn) : rx_OK (zV b e D A X) mX13_leafOfMore (dn + 1) 46 (vX13_leafOfMore_46 g) := by
  unfold vX13_leafOfMore_46
  refine s_aload_n hZ.1 dX13_leafOfMore_46 rfl ?_
  refine s_aload_n hZ.1 dX13_leafOfMore_47 rfl ?_
  refine yg13_109 dX13_leafOfMore_48 zw4229 ?_
  refine s_callV hZ.1 (Met_X13_parent hZ) (Nat.succ_le_succ (Nat.le_trans (Nat.le_of_ble_eq_true rfl) hd)) vy_X13_parent zcl13 zw3220 zw233 (Or.inl zw3218) dX13_leafOfMore_51 ?_
  exact (wX13_leafOfMore_54 hZ hg hd)
noncomputable def vX13_leafOfMore_41 (g : Nat → List Nat → rx_H → Option (Nat × rx_H)) : rx_K := o_const 34359738352 ((vX13_leafOfMore_54 g))
set_option maxRecDepth 20000 in
theorem wX13_leafOfMore_41 {dn : Nat} {g : Nat → List Nat → rx_H → Option (Nat × rx_H)} (hZ : zO b e D A X) (hg : ∀ i y M, vl13[i]? = some (y, M) → rx_Met (zV b e D A X) dn y M (g i)) (hd : 172 ≤ dn) : rx_OK (zV b e D A X) mX13_leafOfMore (dn + 1) 41 (vX13_leafOfMore_41 g) := by
  unfold vX13_leafOfMore_41
  refine s_bipush dX13_leafOfMore_41 (by decide +kernel) ?_
  exact s_goto dX13_leafOfMore_43 (by decide) (wX13_leafOfMore_54 hZ hg hd)
noncomputable def vX13_leafOfMore_28 (g : Nat → List Nat → rx_H → Option (Nat × rx_H)) : rx_K := o_ld rx_isR 0 (o_ld rx_isI 1 (o_ld rx_isR 0 (o_ld rx_isR 0 (o_getf 13 109 (o_callV 1 13 FX13_isFace (o_c1 rx_eq (vX13_leafOfMore_46 g) (vX13_leafOfMore_41 g)))))))
set_option maxRecDepth 20000 in
theorem wX13_leafOfMore_28 {dn : Nat} {g : Nat → List Nat → rx_H → Option (Nat × rx_H)} (hZ : zO b e D A X) (hg : ∀ i y M, vl13[i]? = some (y, M) → rx_Met (zV b e D A X) dn y M (g i)) (hd : 172 ≤ dn) : rx_OK (zV b e D A X) mX13_leafOfMore (dn + 1) 28 (vX13_leafOfMore_28 g) := by
  unfold vX13_leafOfMore_28
  refine s_aload_n hZ.1 dX13_leafOfMore_28 rfl ?_
  refine s_iload_n hZ.1 dX13_leafOfMore_29 rfl ?_
  refine s_aload_n hZ.1 dX13_leafOfMore_30 rfl ?_
  refine s_aload_n hZ.1 dX13_leafOfMore_31 rfl ?_
  refine yg13_109 dX13_leafOfMore_32 zw4229 ?_
  refine s_callV hZ.1 (Met_X13_isFace hZ) (Nat.succ_le_succ (Nat.le_trans (Nat.le_of_ble_eq_true rfl) hd)) vy_X13_isFace zcl13 zw3192 zw227 (Or.inl zw3190) dX13_leafOfMore_35 ?_
  exact s_if_eq dX13_leafOfMore_38 (by decide) (wX13_leafOfMore_46 hZ hg hd) (wX13_leafOfMore_41 hZ hg hd)
noncomputable def vX13_leafOfMore_11 (g : Nat → List Nat → rx_H → Option (Nat × rx_H)) : rx_K := o_ld rx_isR 0 (o_ld rx_isR 0 (o_getf 13 78 (o_ld rx_isI 1 (o_ald 0 (o_callV 1 13 (g 0) (o_ld rx_isR 0 (o_getf 13 20 (o_c1 rx_eq (vX13_leafOfMore_28 g) (vX13_leafOfMore_66 g)))))))))
set_option maxRecDepth 20000 in
theorem wX13_leafOfMore_11 {dn : Nat} {g : Nat → List Nat → rx_H → Option (Nat × rx_H)} (hZ : zO b e D A X) (hg : ∀ i y M, vl13[i]? = some (y, M) → rx_Met (zV b e D A X) dn y M (g i)) (hd : 172 ≤ dn) : rx_OK (zV b e D A X) mX13_leafOfMore (dn + 1) 11 (vX13_leafOfMore_11 g) := by
  unfold vX13_leafOfMore_11
  refine s_aload_n hZ.1 dX13_leafOfMore_11 rfl ?_
  refine s_aload_n hZ.1 dX13_leafOfMore_12 rfl ?_
  refine yg13_78 dX13_leafOfMore_13 zw4199 ?_
  refine s_iload_n hZ.1 dX13_leafOfMore_16 rfl ?_
  refine s_iald (tt := 0) rfl dX13_leafOfMore_17 ?_
  refine s_callV hZ.1 (hg 0 _ _ rfl) (Nat.le_refl _) vy_X13_args zcl13 zw3414 zw278 (Or.inl zw3412) dX13_leafOfMore_18 ?_
  refine s_aload_n hZ.1 dX13_leafOfMore_21 rfl ?_
  refine yg13_20 dX13_leafOfMore_22 zw4141 ?_
  exact s_if_ne dX13_leafOfMore_25 (by decide) (wX13_leafOfMore_66 hZ hg hd) (wX13_leafOfMore_28 hZ hg hd)
noncomputable def vX13_leafOfMore_0 (g : Nat → List Nat → rx_H → Option (Nat × rx_H)) : rx_K := o_ld rx_isR 0 (o_getf 13 70 (o_ld rx_isI 1 (o_ald 0 (o_const 64 (o_c2 rx_eq (vX13_leafOfMore_11 g) (vX13_leafOfMore_70 g))))))
set_option maxRecDepth 20000 in
theorem wX13_leafOfMore_0 {dn : Nat} {g : Nat → List Nat → rx_H → Option (Nat × rx_H)} (hZ : zO b e D A X) (hg : ∀ i y M, vl13[i]? = some (y, M) → rx_Met (zV b e D A X) dn y M (g i)) (hd : 172 ≤ dn) : rx_OK (zV b e D A X) mX13_leafOfMore (dn + 1) 0 (vX13_leafOfMore_0 g) := by
  unfold vX13_leafOfMore_0
  refine s_aload_n hZ.1 dX13_leafOfMore_0 rfl ?_
  refine yg13_70 dX13_leafOfMore_1 zw4191 ?_
  refine s_iload_n hZ.1 dX13_leafOfMore_4 rfl ?_
  refine s_iald (tt := 0) rfl dX13_leafOfMore_5 ?_
  refine s_bipush dX13_leafOfMore_6 (by decide +kernel) ?_
  exact s_icmp_ne dX13_leafOfMore_8 (by decide) (wX13_leafOfMore_70 hZ hg hd) (wX13_leafOfMore_11 hZ hg hd)
noncomputable def FX13_leafOfMore (g : Nat → List Nat → rx_H → Option (Nat × rx_H)) : List Nat → rx_H → Option (Nat × rx_H) := rx_ent 5 (vX13_leafOfMore_0 g)
theorem Met_X13_leafOfMore {dn : Nat} {g : Nat → List Nat → rx_H → Option (Nat × rx_H)} (hZ : zO b e D A X) (hg : ∀ i y M, vl13[i]? = some (y, M) → rx_Met (zV b e D A X) dn y M (g i)) (hd : 172 ≤ dn) : rx_Met (zV b e D A X) (dn + 1) yX13_leafOfMore mX13_leafOfMore (FX13_leafOfMore g) := rx_entry hZ.1 (wX13_leafOfMore_0 hZ hg hd) (by decide +kernel) rfl (fun h => by cases h)
noncomputable def vX13_overLeft_158 (g : Nat → List Nat → rx_H → Option (Nat × rx_H)) : rx_K := o_ld rx_isR 0 (o_ld rx_isI 1 (o_ld rx_isI 2 (o_ld rx_isL 3 (o_callV 3 13 (g 5) (o_ret1 rx_isL)))))
set_option maxRecDepth 20000 in
theorem wX13_overLeft_158 {dn : Nat} {g : Nat → List Nat → rx_H → Option (Nat × rx_H)} (hZ : zO b e D A X) (hg : ∀ i y M, vl13[i]? = some (y, M) → rx_Met (zV b e D A X) dn y M (g i)) (hd : 172 ≤ dn) : rx_OK (zV b e D A X) mX13_overLeft (dn + 1) 158 (vX13_overLeft_158 g) := by
  unfold vX13_overLeft_158
  refine s_aload_n hZ.1 dX13_overLeft_158 rfl ?_
  refine s_iload_n hZ.1 dX13_overLeft_159 rfl ?_
  refine s_iload_n hZ.1 dX13_overLeft_160 rfl ?_
  refine s_lload_n hZ.1 dX13_overLeft_161 rfl ?_
  refine s_callV hZ.1 (hg 5 _ _ rfl) (Nat.le_refl _) vy_X13_two zcl13 zw3469 zw291 (Or.inl zw3467) dX13_overLeft_162 ?_
  exact s_lret rfl dX13_overLeft_165
noncomputable def vX13_overLeft_154 (g : Nat → List Nat → rx_H → Option (Nat × rx_H)) : rx_K := o_const 17 (o_ret1 rx_isL)
set_option maxRecDepth 20000 in
theorem wX13_overLeft_154 {dn : Nat} {g : Nat → List Nat → rx_H → Option (Nat × rx_H)} (hZ : zO b e D A X) (hg : ∀ i y M, vl13[i]? = some (y, M) → rx_Met (zV b e D A X) dn y M (g i)) (hd : 172 ≤ dn) : rx_OK (zV b e D A X) mX13_overLeft (dn + 1) 154 (vX13_overLeft_154 g) := by
  unfold vX13_overLeft_154
  refine s_ldc2 dX13_overLeft_154 zw3066 (by decide +kernel) ?_
  exact s_lret rfl dX13_overLeft_157
noncomputable def vX13_overLeft_142 (g : Nat → List Nat → rx_H → Option (Nat × rx_H)) : rx_K := o_ld rx_isR 0 (o_const 104 (o_ld rx_isR 0 (o_getf 13 71 (o_ld rx_isI 2 (o_ald 0 (o_callV 2 13 FX13_fault ((vX13_overLeft_154 g))))))))
set_option maxRecDepth 20000 in
theorem wX13_overLeft_142 {dn : Nat} {g : Nat → List Nat → rx_H → Option (Nat × rx_H)} (hZ : zO b e D A X) (hg : ∀ i y M, vl13[i]? = some (y, M) → rx_Met (zV b e D A X) dn y M (g i)) (hd : 172 ≤ dn) : rx_OK (zV b e D A X) mX13_overLeft (dn + 1) 142 (vX13_overLeft_142 g) := by
  unfold vX13_overLeft_142
  refine s_aload_n hZ.1 dX13_overLeft_142 rfl ?_
  refine s_bipush dX13_overLeft_143 (by decide +kernel) ?_
  refine s_aload_n hZ.1 dX13_overLeft_145 rfl ?_
  refine yg13_71 dX13_overLeft_146 zw4192 ?_
  refine s_iload_n hZ.1 dX13_overLeft_149 rfl ?_
  refine s_iald (tt := 0) rfl dX13_overLeft_150 ?_
  refine s_callV hZ.1 (Met_X13_fault hZ) (Nat.succ_le_succ (Nat.le_trans (Nat.le_of_ble_eq_true rfl) hd)) vy_X13_fault zcl13 zw3004 zw190 (Or.inl zw3002) dX13_overLeft_151 ?_
  exact (wX13_overLeft_154 hZ hg hd)
noncomputable def vX13_overLeft_135 (g : Nat → List Nat → rx_H → Option (Nat × rx_H)) : rx_K := o_ld rx_isL 3 (o_callS 1 FX13_isObject (o_c1 rx_eq (vX13_overLeft_142 g) (vX13_overLeft_154 g)))
set_option maxRecDepth 20000 in
theorem wX13_overLeft_135 {dn : Nat} {g : Nat → List Nat → rx_H → Option (Nat × rx_H)} (hZ : zO b e D A X) (hg : ∀ i y M, vl13[i]? = some (y, M) → rx_Met (zV b e D A X) dn y M (g i)) (hd : 172 ≤ dn) : rx_OK (zV b e D A X) mX13_overLeft (dn + 1) 135 (vX13_overLeft_135 g) := by
  unfold vX13_overLeft_135
  refine s_lload_n hZ.1 dX13_overLeft_135 rfl ?_
  refine s_callS hZ.1 (Met_X13_isObject hZ) (Nat.succ_le_succ (Nat.le_trans (Nat.le_of_ble_eq_true rfl) hd)) vy_X13_isObject zw3457 (Or.inl zw3456) dX13_overLeft_136 ?_
  exact s_if_ne dX13_overLeft_139 (by decide) (wX13_overLeft_154 hZ hg hd) (wX13_overLeft_142 hZ hg hd)
noncomputable def vX13_overLeft_108 (g : Nat → List Nat → rx_H → Option (Nat × rx_H)) : rx_K := o_ld rx_isR 0 (o_ld rx_isR 0 (o_getf 13 75 (o_ld rx_isI 1 (o_ald 1 (o_ld rx_isR 0 (o_getf 13 73 (o_ld rx_isI 1 (o_ald 0 (o_ld rx_isR 0 (o_getf 13 109 (o_callV 3 13 FX13_type (o_ld rx_isR 0 (o_getf 13 20 (o_c1 rx_eq (vX13_overLeft_135 g) (vX13_overLeft_154 g)))))))))))))))
set_option maxRecDepth 20000 in
theorem wX13_overLeft_108 {dn : Nat} {g : Nat → List Nat → rx_H → Option (Nat × rx_H)} (hZ : zO b e D A X) (hg : ∀ i y M, vl13[i]? = some (y, M) → rx_Met (zV b e D A X) dn y M (g i)) (hd : 172 ≤ dn) : rx_OK (zV b e D A X) mX13_overLeft (dn + 1) 108 (vX13_overLeft_108 g) := by
  unfold vX13_overLeft_108
  refine s_aload_n hZ.1 dX13_overLeft_108 rfl ?_
  refine s_aload_n hZ.1 dX13_overLeft_109 rfl ?_
  refine yg13_75 dX13_overLeft_110 zw4196 ?_
  refine s_iload_n hZ.1 dX13_overLeft_113 rfl ?_
  refine s_lald (tt := 1) rfl dX13_overLeft_114 ?_
  refine s_aload_n hZ.1 dX13_overLeft_115 rfl ?_
  refine yg13_73 dX13_overLeft_116 zw4194 ?_
  refine s_iload_n hZ.1 dX13_overLeft_119 rfl ?_
  refine s_iald (tt := 0) rfl dX13_overLeft_120 ?_
  refine s_aload_n hZ.1 dX13_overLeft_121 rfl ?_
  refine yg13_109 dX13_overLeft_122 zw4229 ?_
  refine s_callV hZ.1 (Met_X13_type hZ) (Nat.succ_le_succ (Nat.le_trans (Nat.le_of_ble_eq_true rfl) hd)) vy_X13_type zcl13 zw3236 zw237 (Or.inl zw3234) dX13_overLeft_125 ?_
  refine s_aload_n hZ.1 dX13_overLeft_128 rfl ?_
  refine yg13_20 dX13_overLeft_129 zw4141 ?_
  exact s_if_ne dX13_overLeft_132 (by decide) (wX13_overLeft_154 hZ hg hd) (wX13_overLeft_135 hZ hg hd)
noncomputable def vX13_overLeft_107 (g : Nat → List Nat → rx_H → Option (Nat × rx_H)) : rx_K := o_ret1 rx_isL
set_option maxRecDepth 20000 in
theorem wX13_overLeft_107 {dn : Nat} {g : Nat → List Nat → rx_H → Option (Nat × rx_H)} (hZ : zO b e D A X) (hg : ∀ i y M, vl13[i]? = some (y, M) → rx_Met (zV b e D A X) dn y M (g i)) (hd : 172 ≤ dn) : rx_OK (zV b e D A X) mX13_overLeft (dn + 1) 107 (vX13_overLeft_107 g) := by
  unfold vX13_overLeft_107
  exact s_lret rfl dX13_overLeft_107
noncomputable def vX13_overLeft_104 (g : Nat → List Nat → rx_H → Option (Nat × rx_H)) : rx_K := o_const 17 ((vX13_overLeft_107 g))
set_option maxRecDepth 20000 in
theorem wX13_overLeft_104 {dn : Nat} {g : Nat → List Nat → rx_H → Option (Nat × rx_H)} (hZ : zO b e D A X) (hg : ∀ i y M, vl13[i]? = some (y, M) → rx_Met (zV b e D A X) dn y M (g i)) (hd : 172 ≤ dn) : rx_OK (zV b e D A X) mX13_overLeft (dn + 1) 104 (vX13_overLeft_104 g) := by
  unfold vX13_overLeft_104
  refine s_ldc2 dX13_overLeft_104 zw3066 (by decide +kernel) ?_
  exact (wX13_overLeft_107 hZ hg hd)
noncomputable def vX13_overLeft_89 (g : Nat → List Nat → rx_H → Option (Nat × rx_H)) : rx_K := o_ld rx_isR 0 (o_ld rx_isI 1 (o_ld rx_isR 0 (o_ld rx_isL 3 (o_callV 1 13 FX13_find (o_ld rx_isL 3 (o_const 0 (o_callV 4 13 FX13_call ((vX13_overLeft_107 g)))))))))
set_option maxRecDepth 20000 in
theorem wX13_overLeft_89 {dn : Nat} {g : Nat → List Nat → rx_H → Option (Nat × rx_H)} (hZ : zO b e D A X) (hg : ∀ i y M, vl13[i]? = some (y, M) → rx_Met (zV b e D A X) dn y M (g i)) (hd : 172 ≤ dn) : rx_OK (zV b e D A X) mX13_overLeft (dn + 1) 89 (vX13_overLeft_89 g) := by
  unfold vX13_overLeft_89
  refine s_aload_n hZ.1 dX13_overLeft_89 rfl ?_
  refine s_iload_n hZ.1 dX13_overLeft_90 rfl ?_
  refine s_aload_n hZ.1 dX13_overLeft_91 rfl ?_
  refine s_lload_n hZ.1 dX13_overLeft_92 rfl ?_
  refine s_callV hZ.1 (Met_X13_find hZ) (Nat.succ_le_succ (Nat.le_trans (Nat.le_of_ble_eq_true rfl) hd)) vy_X13_find zcl13 zw3186 zw226 (Or.inl zw3184) dX13_overLeft_93 ?_
  refine s_lload_n hZ.1 dX13_overLeft_96 rfl ?_
  refine s_iconst dX13_overLeft_97 (by decide +kernel) ?_
  refine s_callV hZ.1 (Met_X13_call hZ) (Nat.succ_le_succ (Nat.le_trans (Nat.le_of_ble_eq_true rfl) hd)) vy_X13_call zcl13 zw3418 zw279 (Or.inl zw3416) dX13_overLeft_98 ?_
  exact s_goto dX13_overLeft_101 (by decide) (wX13_overLeft_107 hZ hg hd)
noncomputable def vX13_overLeft_82 (g : Nat → List Nat → rx_H → Option (Nat × rx_H)) : rx_K := o_ld rx_isR 0 (o_getf 13 20 (o_c1 rx_eq (vX13_overLeft_89 g) (vX13_overLeft_104 g)))
set_option maxRecDepth 20000 in
theorem wX13_overLeft_82 {dn : Nat} {g : Nat → List Nat → rx_H → Option (Nat × rx_H)} (hZ : zO b e D A X) (hg : ∀ i y M, vl13[i]? = some (y, M) → rx_Met (zV b e D A X) dn y M (g i)) (hd : 172 ≤ dn) : rx_OK (zV b e D A X) mX13_overLeft (dn + 1) 82 (vX13_overLeft_82 g) := by
  unfold vX13_overLeft_82
  refine s_aload_n hZ.1 dX13_overLeft_82 rfl ?_
  refine yg13_20 dX13_overLeft_83 zw4141 ?_
  exact s_if_ne dX13_overLeft_86 (by decide) (wX13_overLeft_104 hZ hg hd) (wX13_overLeft_89 hZ hg hd)
noncomputable def vX13_overLeft_70 (g : Nat → List Nat → rx_H → Option (Nat × rx_H)) : rx_K := o_ld rx_isR 0 (o_const 104 (o_ld rx_isR 0 (o_getf 13 71 (o_ld rx_isI 2 (o_ald 0 (o_callV 2 13 FX13_fault ((vX13_overLeft_82 g))))))))
set_option maxRecDepth 20000 in
theorem wX13_overLeft_70 {dn : Nat} {g : Nat → List Nat → rx_H → Option (Nat × rx_H)} (hZ : zO b e D A X) (hg : ∀ i y M, vl13[i]? = some (y, M) → rx_Met (zV b e D A X) dn y M (g i)) (hd : 172 ≤ dn) : rx_OK (zV b e D A X) mX13_overLeft (dn + 1) 70 (vX13_overLeft_70 g) := by
  unfold vX13_overLeft_70
  refine s_aload_n hZ.1 dX13_overLeft_70 rfl ?_
  refine s_bipush dX13_overLeft_71 (by decide +kernel) ?_
  refine s_aload_n hZ.1 dX13_overLeft_73 rfl ?_
  refine yg13_71 dX13_overLeft_74 zw4192 ?_
  refine s_iload_n hZ.1 dX13_overLeft_77 rfl ?_
  refine s_iald (tt := 0) rfl dX13_overLeft_78 ?_
  refine s_callV hZ.1 (Met_X13_fault hZ) (Nat.succ_le_succ (Nat.le_trans (Nat.le_of_ble_eq_true rfl) hd)) vy_X13_fault zcl13 zw3004 zw190 (Or.inl zw3002) dX13_overLeft_79 ?_
  exact (wX13_overLeft_82 hZ hg hd)
noncomputable def vX13_overLeft_63 (g : Nat → List Nat → rx_H → Option (Nat × rx_H)) : rx_K := o_ld rx_isL 3 (o_callS 1 FX13_isC (o_c1 rx_eq (vX13_overLeft_70 g) (vX13_overLeft_82 g)))
set_option maxRecDepth 20000 in
theorem wX13_overLeft_63 {dn : Nat} {g : Nat → List Nat → rx_H → Option (Nat × rx_H)} (hZ : zO b e D A X) (hg : ∀ i y M, vl13[i]? = some (y, M) → rx_Met (zV b e D A X) dn y M (g i)) (hd : 172 ≤ dn) : rx_OK (zV b e D A X) mX13_overLeft (dn + 1) 63 (vX13_overLeft_63 g) := by
  unfold vX13_overLeft_63
  refine s_lload_n hZ.1 dX13_overLeft_63 rfl ?_
  refine s_callS hZ.1 (Met_X13_isC hZ) (Nat.succ_le_succ (Nat.le_trans (Nat.le_of_ble_eq_true rfl) hd)) vy_X13_isC zw3239 (Or.inl zw3238) dX13_overLeft_64 ?_
  exact s_if_ne dX13_overLeft_67 (by decide) (wX13_overLeft_82 hZ hg hd) (wX13_overLeft_70 hZ hg hd)
noncomputable def vX13_overLeft_46 (g : Nat → List Nat → rx_H → Option (Nat × rx_H)) : rx_K := o_ld rx_isR 0 (o_ld rx_isR 0 (o_getf 13 78 (o_ld rx_isI 1 (o_ald 0 (o_callV 1 13 (g 0) (o_ld rx_isR 0 (o_getf 13 20 (o_c1 rx_eq (vX13_overLeft_63 g) (vX13_overLeft_82 g)))))))))
set_option maxRecDepth 20000 in
theorem wX13_overLeft_46 {dn : Nat} {g : Nat → List Nat → rx_H → Option (Nat × rx_H)} (hZ : zO b e D A X) (hg : ∀ i y M, vl13[i]? = some (y, M) → rx_Met (zV b e D A X) dn y M (g i)) (hd : 172 ≤ dn) : rx_OK (zV b e D A X) mX13_overLeft (dn + 1) 46 (vX13_overLeft_46 g) := by
  unfold vX13_overLeft_46
  refine s_aload_n hZ.1 dX13_overLeft_46 rfl ?_
  refine s_aload_n hZ.1 dX13_overLeft_47 rfl ?_
  refine yg13_78 dX13_overLeft_48 zw4199 ?_
  refine s_iload_n hZ.1 dX13_overLeft_51 rfl ?_
  refine s_iald (tt := 0) rfl dX13_overLeft_52 ?_
  refine s_callV hZ.1 (hg 0 _ _ rfl) (Nat.le_refl _) vy_X13_args zcl13 zw3414 zw278 (Or.inl zw3412) dX13_overLeft_53 ?_
  refine s_aload_n hZ.1 dX13_overLeft_56 rfl ?_
  refine yg13_20 dX13_overLeft_57 zw4141 ?_
  exact s_if_ne dX13_overLeft_60 (by decide) (wX13_overLeft_82 hZ hg hd) (wX13_overLeft_63 hZ hg hd)
noncomputable def vX13_overLeft_38 (g : Nat → List Nat → rx_H → Option (Nat × rx_H)) : rx_K := o_ld rx_isR 0 (o_ld rx_isI 1 (o_ld rx_isI 2 (o_ld rx_isL 3 (o_callV 3 13 FX13_dot (o_ret1 rx_isL)))))
set_option maxRecDepth 20000 in
theorem wX13_overLeft_38 {dn : Nat} {g : Nat → List Nat → rx_H → Option (Nat × rx_H)} (hZ : zO b e D A X) (hg : ∀ i y M, vl13[i]? = some (y, M) → rx_Met (zV b e D A X) dn y M (g i)) (hd : 172 ≤ dn) : rx_OK (zV b e D A X) mX13_overLeft (dn + 1) 38 (vX13_overLeft_38 g) := by
  unfold vX13_overLeft_38
  refine s_aload_n hZ.1 dX13_overLeft_38 rfl ?_
  refine s_iload_n hZ.1 dX13_overLeft_39 rfl ?_
  refine s_iload_n hZ.1 dX13_overLeft_40 rfl ?_
  refine s_lload_n hZ.1 dX13_overLeft_41 rfl ?_
  refine s_callV hZ.1 (Met_X13_dot hZ) (Nat.succ_le_succ (Nat.le_trans (Nat.le_of_ble_eq_true rfl) hd)) vy_X13_dot zcl13 zw3465 zw290 (Or.inl zw3463) dX13_overLeft_42 ?_
  exact s_lret rfl dX13_overLeft_45
noncomputable def vX13_overLeft_36 (g : Nat → List Nat → rx_H → Option (Nat × rx_H)) : rx_K := o_ld rx_isL 3 (o_ret1 rx_isL)
set_option maxRecDepth 20000 in
theorem wX13_overLeft_36 {dn : Nat} {g : Nat → List Nat → rx_H → Option (Nat × rx_H)} (hZ : zO b e D A X) (hg : ∀ i y M, vl13[i]? = some (y, M) → rx_Met (zV b e D A X) dn y M (g i)) (hd : 172 ≤ dn) : rx_OK (zV b e D A X) mX13_overLeft (dn + 1) 36 (vX13_overLeft_36 g) := by
  unfold vX13_overLeft_36
  refine s_lload_n hZ.1 dX13_overLeft_36 rfl ?_
  exact s_lret rfl dX13_overLeft_37
noncomputable def vX13_overLeft_0 (g : Nat → List Nat → rx_H → Option (Nat × rx_H)) : rx_K := o_ld rx_isR 0 (o_getf 13 70 (o_ld rx_isI 1 (o_ald 0 (o_sw 11 [36, 38, 46, 108] 158 (rx_pk [(36, (vX13_overLeft_36 g)), (38, (vX13_overLeft_38 g)), (46, (vX13_overLeft_46 g)), (108, (vX13_overLeft_108 g)), (158, (vX13_overLeft_158 g))])))))
set_option maxRecDepth 20000 in
theorem wX13_overLeft_0 {dn : Nat} {g : Nat → List Nat → rx_H → Option (Nat × rx_H)} (hZ : zO b e D A X) (hg : ∀ i y M, vl13[i]? = some (y, M) → rx_Met (zV b e D A X) dn y M (g i)) (hd : 172 ≤ dn) : rx_OK (zV b e D A X) mX13_overLeft (dn + 1) 0 (vX13_overLeft_0 g) := by
  unfold vX13_overLeft_0
  refine s_aload_n hZ.1 dX13_overLeft_0 rfl ?_
  refine yg13_70 dX13_overLeft_1 zw4191 ?_
  refine s_iload_n hZ.1 dX13_overLeft_4 rfl ?_
  refine s_iald (tt := 0) rfl dX13_overLeft_5 ?_
  exact s_sw dX13_overLeft_6 (by decide) (by decide) (by decide) (by decide) (by decide) (fun b _ => (rx_pk_ok (List.forall_mem_cons.mpr ⟨(wX13_overLeft_36 hZ hg hd), List.forall_mem_cons.mpr ⟨(wX13_overLeft_38 hZ hg hd), List.forall_mem_cons.mpr ⟨(wX13_overLeft_46 hZ hg hd), List.forall_mem_cons.mpr ⟨(wX13_overLeft_108 hZ hg hd), List.forall_mem_cons.mpr ⟨(wX13_overLeft_158 hZ hg hd), fun _ h => absurd h List.not_mem_nil⟩⟩⟩⟩⟩)) b)
noncomputable def FX13_overLeft (g : Nat → List Nat → rx_H → Option (Nat × rx_H)) : List Nat → rx_H → Option (Nat × rx_H) := rx_ent 5 (vX13_overLeft_0 g)
theorem Met_X13_overLeft {dn : Nat} {g : Nat → List Nat → rx_H → Option (Nat × rx_H)} (hZ : zO b e D A X) (hg : ∀ i y M, vl13[i]? = some (y, M) → rx_Met (zV b e D A X) dn y M (g i)) (hd : 172 ≤ dn) : rx_Met (zV b e D A X) (dn + 1) yX13_overLeft mX13_overLeft (FX13_overLeft g) := rx_entry hZ.1 (wX13_overLeft_0 hZ hg hd) (by decide +kernel) rfl (fun h => by cases h)
end ZM53

section ZM54
variable {b : Nat} {e : Nat → Value} {D : va_G} {A : Nat → ClassId} {X : State → Prop}
noncomputable def vX13_two_157 (g : Nat → List Nat → rx_H → Option (Nat × rx_H)) : rx_K := o_const 17 (o_ret1 rx_isL)
set_option maxRecDepth 20000 in
theorem wX13_two_157 {dn : Nat} {g : Nat → List Nat → rx_H → Option (Nat × rx_H)} (hZ : zO b e D A X) (hg : ∀ i y M, vl13[i]? = some (y, M) → rx_Met (zV b e D A X) dn y M (g i)) (hd : 172 ≤ dn) : rx_OK (zV b e D A X) mX13_two (dn + 1) 157 (vX13_two_157 g) := by
  unfold vX13_two_157
  refine s_ldc2 dX13_two_157 zw3066 (by decide +kernel) ?_
  exact s_lret rfl dX13_two_160
noncomputable def vX13_two_144 (g : Nat → List Nat → rx_H → Option (Nat × rx_H)) : rx_K := o_ld rx_isR 0 (o_const 104 (o_ld rx_isR 0 (o_getf 13 71 (o_ld rx_isI 5 (o_ald 0 (o_callV 2 13 FX13_fault ((vX13_two_157 g))))))))
set_option maxRecDepth 20000 in
theorem wX13_two_144 {dn : Nat} {g : Nat → List Nat → rx_H → Option (Nat × rx_H)} (hZ : zO b e D A X) (hg : ∀ i y M, vl13[i]? = some (y, M) → rx_Met (zV b e D A X) dn y M (g i)) (hd : 172 ≤ dn) : rx_OK (zV b e D A X) mX13_two (dn + 1) 144 (vX13_two_144 g) := by
  unfold vX13_two_144
  refine s_aload_n hZ.1 dX13_two_144 rfl ?_
  refine s_bipush dX13_two_145 (by decide +kernel) ?_
  refine s_aload_n hZ.1 dX13_two_147 rfl ?_
  refine yg13_71 dX13_two_148 zw4192 ?_
  refine s_iload hZ.1 dX13_two_151 ?_
  refine s_iald (tt := 0) rfl dX13_two_153 ?_
  refine s_callV hZ.1 (Met_X13_fault hZ) (Nat.succ_le_succ (Nat.le_trans (Nat.le_of_ble_eq_true rfl) hd)) vy_X13_fault zcl13 zw3004 zw190 (Or.inl zw3002) dX13_two_154 ?_
  exact (wX13_two_157 hZ hg hd)
noncomputable def vX13_two_141 (g : Nat → List Nat → rx_H → Option (Nat × rx_H)) : rx_K := o_c2 rx_eq (vX13_two_157 g) (vX13_two_144 g)
set_option maxRecDepth 20000 in
theorem wX13_two_141 {dn : Nat} {g : Nat → List Nat → rx_H → Option (Nat × rx_H)} (hZ : zO b e D A X) (hg : ∀ i y M, vl13[i]? = some (y, M) → rx_Met (zV b e D A X) dn y M (g i)) (hd : 172 ≤ dn) : rx_OK (zV b e D A X) mX13_two (dn + 1) 141 (vX13_two_141 g) := by
  unfold vX13_two_141
  exact s_icmp_eq dX13_two_141 (by decide) (wX13_two_157 hZ hg hd) (wX13_two_144 hZ hg hd)
noncomputable def vX13_two_140 (g : Nat → List Nat → rx_H → Option (Nat × rx_H)) : rx_K := o_const 0 ((vX13_two_141 g))
set_option maxRecDepth 20000 in
theorem wX13_two_140 {dn : Nat} {g : Nat → List Nat → rx_H → Option (Nat × rx_H)} (hZ : zO b e D A X) (hg : ∀ i y M, vl13[i]? = some (y, M) → rx_Met (zV b e D A X) dn y M (g i)) (hd : 172 ≤ dn) : rx_OK (zV b e D A X) mX13_two (dn + 1) 140 (vX13_two_140 g) := by
  unfold vX13_two_140
  refine s_iconst dX13_two_140 (by decide +kernel) ?_
  exact (wX13_two_141 hZ hg hd)
noncomputable def vX13_two_136 (g : Nat → List Nat → rx_H → Option (Nat × rx_H)) : rx_K := o_const 8 ((vX13_two_141 g))
set_option maxRecDepth 20000 in
theorem wX13_two_136 {dn : Nat} {g : Nat → List Nat → rx_H → Option (Nat × rx_H)} (hZ : zO b e D A X) (hg : ∀ i y M, vl13[i]? = some (y, M) → rx_Met (zV b e D A X) dn y M (g i)) (hd : 172 ≤ dn) : rx_OK (zV b e D A X) mX13_two (dn + 1) 136 (vX13_two_136 g) := by
  unfold vX13_two_136
  refine s_iconst dX13_two_136 (by decide +kernel) ?_
  exact s_goto dX13_two_137 (by decide) (wX13_two_141 hZ hg hd)
noncomputable def vX13_two_127 (g : Nat → List Nat → rx_H → Option (Nat × rx_H)) : rx_K := o_ld rx_isL 6 (o_const 17 (o_bc (fun x y => lg_cmp x y) (o_c1 rx_eq (vX13_two_136 g) (vX13_two_140 g))))
set_option maxRecDepth 20000 in
theorem wX13_two_127 {dn : Nat} {g : Nat → List Nat → rx_H → Option (Nat × rx_H)} (hZ : zO b e D A X) (hg : ∀ i y M, vl13[i]? = some (y, M) → rx_Met (zV b e D A X) dn y M (g i)) (hd : 172 ≤ dn) : rx_OK (zV b e D A X) mX13_two (dn + 1) 127 (vX13_two_127 g) := by
  unfold vX13_two_127
  refine s_lload hZ.1 dX13_two_127 ?_
  refine s_ldc2 dX13_two_129 zw3066 (by decide +kernel) ?_
  refine s_lcmp dX13_two_132 ?_
  exact s_if_ne dX13_two_133 (by decide) (wX13_two_140 hZ hg hd) (wX13_two_136 hZ hg hd)
noncomputable def vX13_two_126 (g : Nat → List Nat → rx_H → Option (Nat × rx_H)) : rx_K := o_const 0 ((vX13_two_127 g))
set_option maxRecDepth 20000 in
theorem wX13_two_126 {dn : Nat} {g : Nat → List Nat → rx_H → Option (Nat × rx_H)} (hZ : zO b e D A X) (hg : ∀ i y M, vl13[i]? = some (y, M) → rx_Met (zV b e D A X) dn y M (g i)) (hd : 172 ≤ dn) : rx_OK (zV b e D A X) mX13_two (dn + 1) 126 (vX13_two_126 g) := by
  unfold vX13_two_126
  refine s_iconst dX13_two_126 (by decide +kernel) ?_
  exact (wX13_two_127 hZ hg hd)
noncomputable def vX13_two_122 (g : Nat → List Nat → rx_H → Option (Nat × rx_H)) : rx_K := o_const 8 ((vX13_two_127 g))
set_option maxRecDepth 20000 in
theorem wX13_two_122 {dn : Nat} {g : Nat → List Nat → rx_H → Option (Nat × rx_H)} (hZ : zO b e D A X) (hg : ∀ i y M, vl13[i]? = some (y, M) → rx_Met (zV b e D A X) dn y M (g i)) (hd : 172 ≤ dn) : rx_OK (zV b e D A X) mX13_two (dn + 1) 122 (vX13_two_122 g) := by
  unfold vX13_two_122
  refine s_iconst dX13_two_122 (by decide +kernel) ?_
  exact s_goto dX13_two_123 (by decide) (wX13_two_127 hZ hg hd)
noncomputable def vX13_two_114 (g : Nat → List Nat → rx_H → Option (Nat × rx_H)) : rx_K := o_ld rx_isL 3 (o_const 17 (o_bc (fun x y => lg_cmp x y) (o_c1 rx_eq (vX13_two_122 g) (vX13_two_126 g))))
set_option maxRecDepth 20000 in
theorem wX13_two_114 {dn : Nat} {g : Nat → List Nat → rx_H → Option (Nat × rx_H)} (hZ : zO b e D A X) (hg : ∀ i y M, vl13[i]? = some (y, M) → rx_Met (zV b e D A X) dn y M (g i)) (hd : 172 ≤ dn) : rx_OK (zV b e D A X) mX13_two (dn + 1) 114 (vX13_two_114 g) := by
  unfold vX13_two_114
  refine s_lload_n hZ.1 dX13_two_114 rfl ?_
  refine s_ldc2 dX13_two_115 zw3066 (by decide +kernel) ?_
  refine s_lcmp dX13_two_118 ?_
  exact s_if_ne dX13_two_119 (by decide) (wX13_two_126 hZ hg hd) (wX13_two_122 hZ hg hd)
noncomputable def vX13_two_107 (g : Nat → List Nat → rx_H → Option (Nat × rx_H)) : rx_K := o_ld rx_isL 6 (o_const 9 (o_bc (fun x y => lg_cmp x y) (o_c1 rx_eq (vX13_two_144 g) (vX13_two_114 g))))
set_option maxRecDepth 20000 in
theorem wX13_two_107 {dn : Nat} {g : Nat → List Nat → rx_H → Option (Nat × rx_H)} (hZ : zO b e D A X) (hg : ∀ i y M, vl13[i]? = some (y, M) → rx_Met (zV b e D A X) dn y M (g i)) (hd : 172 ≤ dn) : rx_OK (zV b e D A X) mX13_two (dn + 1) 107 (vX13_two_107 g) := by
  unfold vX13_two_107
  refine s_lload hZ.1 dX13_two_107 ?_
  refine s_lconst dX13_two_109 (by decide +kernel) ?_
  refine s_lcmp dX13_two_110 ?_
  exact s_if_eq dX13_two_111 (by decide) (wX13_two_144 hZ hg hd) (wX13_two_114 hZ hg hd)
noncomputable def vX13_two_92 (g : Nat → List Nat → rx_H → Option (Nat × rx_H)) : rx_K := o_ld rx_isR 0 (o_const 104 (o_ld rx_isR 0 (o_getf 13 71 (o_ld rx_isI 2 (o_ald 0 (o_callV 2 13 FX13_fault ((vX13_two_157 g))))))))
set_option maxRecDepth 20000 in
theorem wX13_two_92 {dn : Nat} {g : Nat → List Nat → rx_H → Option (Nat × rx_H)} (hZ : zO b e D A X) (hg : ∀ i y M, vl13[i]? = some (y, M) → rx_Met (zV b e D A X) dn y M (g i)) (hd : 172 ≤ dn) : rx_OK (zV b e D A X) mX13_two (dn + 1) 92 (vX13_two_92 g) := by
  unfold vX13_two_92
  refine s_aload_n hZ.1 dX13_two_92 rfl ?_
  refine s_bipush dX13_two_93 (by decide +kernel) ?_
  refine s_aload_n hZ.1 dX13_two_95 rfl ?_
  refine yg13_71 dX13_two_96 zw4192 ?_
  refine s_iload_n hZ.1 dX13_two_99 rfl ?_
  refine s_iald (tt := 0) rfl dX13_two_100 ?_
  refine s_callV hZ.1 (Met_X13_fault hZ) (Nat.succ_le_succ (Nat.le_trans (Nat.le_of_ble_eq_true rfl) hd)) vy_X13_fault zcl13 zw3004 zw190 (Or.inl zw3002) dX13_two_101 ?_
  exact s_goto dX13_two_104 (by decide) (wX13_two_157 hZ hg hd)
noncomputable def vX13_two_86 (g : Nat → List Nat → rx_H → Option (Nat × rx_H)) : rx_K := o_ld rx_isL 3 (o_const 9 (o_bc (fun x y => lg_cmp x y) (o_c1 rx_eq (vX13_two_92 g) (vX13_two_107 g))))
set_option maxRecDepth 20000 in
theorem wX13_two_86 {dn : Nat} {g : Nat → List Nat → rx_H → Option (Nat × rx_H)} (hZ : zO b e D A X) (hg : ∀ i y M, vl13[i]? = some (y, M) → rx_Met (zV b e D A X) dn y M (g i)) (hd : 172 ≤ dn) : rx_OK (zV b e D A X) mX13_two (dn + 1) 86 (vX13_two_86 g) := by
  unfold vX13_two_86
  refine s_lload_n hZ.1 dX13_two_86 rfl ?_
  refine s_lconst dX13_two_87 (by decide +kernel) ?_
  refine s_lcmp dX13_two_88 ?_
  exact s_if_ne dX13_two_89 (by decide) (wX13_two_107 hZ hg hd) (wX13_two_92 hZ hg hd)
noncomputable def vX13_two_70 (g : Nat → List Nat → rx_H → Option (Nat × rx_H)) : rx_K := o_ld rx_isR 0 (o_const 104 (o_ld rx_isR 0 (o_getf 13 71 (o_ld rx_isI 5 (o_ald 0 (o_callV 2 13 FX13_fault ((vX13_two_157 g))))))))
set_option maxRecDepth 20000 in
theorem wX13_two_70 {dn : Nat} {g : Nat → List Nat → rx_H → Option (Nat × rx_H)} (hZ : zO b e D A X) (hg : ∀ i y M, vl13[i]? = some (y, M) → rx_Met (zV b e D A X) dn y M (g i)) (hd : 172 ≤ dn) : rx_OK (zV b e D A X) mX13_two (dn + 1) 70 (vX13_two_70 g) := by
  unfold vX13_two_70
  refine s_aload_n hZ.1 dX13_two_70 rfl ?_
  refine s_bipush dX13_two_71 (by decide +kernel) ?_
  refine s_aload_n hZ.1 dX13_two_73 rfl ?_
  refine yg13_71 dX13_two_74 zw4192 ?_
  refine s_iload hZ.1 dX13_two_77 ?_
  refine s_iald (tt := 0) rfl dX13_two_79 ?_
  refine s_callV hZ.1 (Met_X13_fault hZ) (Nat.succ_le_succ (Nat.le_trans (Nat.le_of_ble_eq_true rfl) hd)) vy_X13_fault zcl13 zw3004 zw190 (Or.inl zw3002) dX13_two_80 ?_
  exact s_goto dX13_two_83 (by decide) (wX13_two_157 hZ hg hd)
noncomputable def vX13_two_61 (g : Nat → List Nat → rx_H → Option (Nat × rx_H)) : rx_K := o_ld rx_isL 6 (o_const 17 (o_bc (fun x y => lg_cmp x y) (o_c1 rx_eq (vX13_two_157 g) (vX13_two_70 g))))
set_option maxRecDepth 20000 in
theorem wX13_two_61 {dn : Nat} {g : Nat → List Nat → rx_H → Option (Nat × rx_H)} (hZ : zO b e D A X) (hg : ∀ i y M, vl13[i]? = some (y, M) → rx_Met (zV b e D A X) dn y M (g i)) (hd : 172 ≤ dn) : rx_OK (zV b e D A X) mX13_two (dn + 1) 61 (vX13_two_61 g) := by
  unfold vX13_two_61
  refine s_lload hZ.1 dX13_two_61 ?_
  refine s_ldc2 dX13_two_63 zw3066 (by decide +kernel) ?_
  refine s_lcmp dX13_two_66 ?_
  exact s_if_eq dX13_two_67 (by decide) (wX13_two_157 hZ hg hd) (wX13_two_70 hZ hg hd)
noncomputable def vX13_two_46 (g : Nat → List Nat → rx_H → Option (Nat × rx_H)) : rx_K := o_ld rx_isR 0 (o_const 104 (o_ld rx_isR 0 (o_getf 13 71 (o_ld rx_isI 2 (o_ald 0 (o_callV 2 13 FX13_fault ((vX13_two_157 g))))))))
set_option maxRecDepth 20000 in
theorem wX13_two_46 {dn : Nat} {g : Nat → List Nat → rx_H → Option (Nat × rx_H)} (hZ : zO b e D A X) (hg : ∀ i y M, vl13[i]? = some (y, M) → rx_Met (zV b e D A X) dn y M (g i)) (hd : 172 ≤ dn) : rx_OK (zV b e D A X) mX13_two (dn + 1) 46 (vX13_two_46 g) := by
  unfold vX13_two_46
  refine s_aload_n hZ.1 dX13_two_46 rfl ?_
  refine s_bipush dX13_two_47 (by decide +kernel) ?_
  refine s_aload_n hZ.1 dX13_two_49 rfl ?_
  refine yg13_71 dX13_two_50 zw4192 ?_
  refine s_iload_n hZ.1 dX13_two_53 rfl ?_
  refine s_iald (tt := 0) rfl dX13_two_54 ?_
  refine s_callV hZ.1 (Met_X13_fault hZ) (Nat.succ_le_succ (Nat.le_trans (Nat.le_of_ble_eq_true rfl) hd)) vy_X13_fault zcl13 zw3004 zw190 (Or.inl zw3002) dX13_two_55 ?_
  exact s_goto dX13_two_58 (by decide) (wX13_two_157 hZ hg hd)
noncomputable def vX13_two_38 (g : Nat → List Nat → rx_H → Option (Nat × rx_H)) : rx_K := o_ld rx_isL 3 (o_const 17 (o_bc (fun x y => lg_cmp x y) (o_c1 rx_eq (vX13_two_61 g) (vX13_two_46 g))))
set_option maxRecDepth 20000 in
theorem wX13_two_38 {dn : Nat} {g : Nat → List Nat → rx_H → Option (Nat × rx_H)} (hZ : zO b e D A X) (hg : ∀ i y M, vl13[i]? = some (y, M) → rx_Met (zV b e D A X) dn y M (g i)) (hd : 172 ≤ dn) : rx_OK (zV b e D A X) mX13_two (dn + 1) 38 (vX13_two_38 g) := by
  unfold vX13_two_38
  refine s_lload_n hZ.1 dX13_two_38 rfl ?_
  refine s_ldc2 dX13_two_39 zw3066 (by decide +kernel) ?_
  refine s_lcmp dX13_two_42 ?_
  exact s_if_eq dX13_two_43 (by decide) (wX13_two_61 hZ hg hd) (wX13_two_46 hZ hg hd)
noncomputable def vX13_two_27 (g : Nat → List Nat → rx_H → Option (Nat × rx_H)) : rx_K := o_ld rx_isR 0 (o_getf 13 70 (o_ld rx_isI 1 (o_ald 0 (o_const 152 (o_c2 rx_eq (vX13_two_86 g) (vX13_two_38 g))))))
set_option maxRecDepth 20000 in
theorem wX13_two_27 {dn : Nat} {g : Nat → List Nat → rx_H → Option (Nat × rx_H)} (hZ : zO b e D A X) (hg : ∀ i y M, vl13[i]? = some (y, M) → rx_Met (zV b e D A X) dn y M (g i)) (hd : 172 ≤ dn) : rx_OK (zV b e D A X) mX13_two (dn + 1) 27 (vX13_two_27 g) := by
  unfold vX13_two_27
  refine s_aload_n hZ.1 dX13_two_27 rfl ?_
  refine yg13_70 dX13_two_28 zw4191 ?_
  refine s_iload_n hZ.1 dX13_two_31 rfl ?_
  refine s_iald (tt := 0) rfl dX13_two_32 ?_
  refine s_bipush dX13_two_33 (by decide +kernel) ?_
  exact s_icmp_eq dX13_two_35 (by decide) (wX13_two_86 hZ hg hd) (wX13_two_38 hZ hg hd)
noncomputable def vX13_two_23 (g : Nat → List Nat → rx_H → Option (Nat × rx_H)) : rx_K := o_const 17 (o_ret1 rx_isL)
set_option maxRecDepth 20000 in
theorem wX13_two_23 {dn : Nat} {g : Nat → List Nat → rx_H → Option (Nat × rx_H)} (hZ : zO b e D A X) (hg : ∀ i y M, vl13[i]? = some (y, M) → rx_Met (zV b e D A X) dn y M (g i)) (hd : 172 ≤ dn) : rx_OK (zV b e D A X) mX13_two (dn + 1) 23 (vX13_two_23 g) := by
  unfold vX13_two_23
  refine s_ldc2 dX13_two_23 zw3066 (by decide +kernel) ?_
  exact s_lret rfl dX13_two_26
noncomputable def vX13_two_0 (g : Nat → List Nat → rx_H → Option (Nat × rx_H)) : rx_K := o_ld rx_isR 0 (o_getf 13 78 (o_ld rx_isI 1 (o_ald 0 (o_st rx_isI 5 (o_ld rx_isR 0 (o_ld rx_isI 5 (o_callV 1 13 (g 1) (o_stL 6 (o_ld rx_isR 0 (o_getf 13 20 (o_c1 rx_eq (vX13_two_27 g) (vX13_two_23 g))))))))))))
set_option maxRecDepth 20000 in
theorem wX13_two_0 {dn : Nat} {g : Nat → List Nat → rx_H → Option (Nat × rx_H)} (hZ : zO b e D A X) (hg : ∀ i y M, vl13[i]? = some (y, M) → rx_Met (zV b e D A X) dn y M (g i)) (hd : 172 ≤ dn) : rx_OK (zV b e D A X) mX13_two (dn + 1) 0 (vX13_two_0 g) := by
  unfold vX13_two_0
  refine s_aload_n hZ.1 dX13_two_0 rfl ?_
  refine yg13_78 dX13_two_1 zw4199 ?_
  refine s_iload_n hZ.1 dX13_two_4 rfl ?_
  refine s_iald (tt := 0) rfl dX13_two_5 ?_
  refine s_istore hZ.1 dX13_two_6 (Nat.le_of_ble_eq_true rfl) ?_
  refine s_aload_n hZ.1 dX13_two_8 rfl ?_
  refine s_iload hZ.1 dX13_two_9 ?_
  refine s_callV hZ.1 (hg 1 _ _ rfl) (Nat.le_refl _) vy_X13_judge zcl13 zw3398 zw274 (Or.inl zw3396) dX13_two_11 ?_
  refine s_lstore hZ.1 dX13_two_14 (Nat.le_of_ble_eq_true rfl) ?_
  refine s_aload_n hZ.1 dX13_two_16 rfl ?_
  refine yg13_20 dX13_two_17 zw4141 ?_
  exact s_if_eq dX13_two_20 (by decide) (wX13_two_27 hZ hg hd) (wX13_two_23 hZ hg hd)
noncomputable def FX13_two (g : Nat → List Nat → rx_H → Option (Nat × rx_H)) : List Nat → rx_H → Option (Nat × rx_H) := rx_ent 8 (vX13_two_0 g)
theorem Met_X13_two {dn : Nat} {g : Nat → List Nat → rx_H → Option (Nat × rx_H)} (hZ : zO b e D A X) (hg : ∀ i y M, vl13[i]? = some (y, M) → rx_Met (zV b e D A X) dn y M (g i)) (hd : 172 ≤ dn) : rx_Met (zV b e D A X) (dn + 1) yX13_two mX13_two (FX13_two g) := rx_entry hZ.1 (wX13_two_0 hZ hg hd) (by decide +kernel) rfl (fun h => by cases h)
noncomputable def q13 (n : Nat) : Nat → List Nat → rx_H → Option (Nat × rx_H) := Nat.rec (fun _ _ _ => none) (fun _ ih i => rx_nth [FX13_args ih, FX13_judge ih, FX13_leaf ih, FX13_leafOfMore ih, FX13_overLeft ih, FX13_two ih] i (fun _ _ => none)) n
theorem q13_ok (hZ : zO b e D A X) : ∀ n i y M, vl13[i]? = some (y, M) → rx_Met (zV b e D A X) (172 + n) y M (q13 n i)
  | 0 => fun i y M _ As h r h2 hf => by cases hf
  | n + 1 => fun i y M h => by
    match i, h with
    | 0, h => cases h; exact Met_X13_args hZ (q13_ok hZ n) (Nat.le_add_right 172 n)
    | 1, h => cases h; exact Met_X13_judge hZ (q13_ok hZ n) (Nat.le_add_right 172 n)
    | 2, h => cases h; exact Met_X13_leaf hZ (q13_ok hZ n) (Nat.le_add_right 172 n)
    | 3, h => cases h; exact Met_X13_leafOfMore hZ (q13_ok hZ n) (Nat.le_add_right 172 n)
    | 4, h => cases h; exact Met_X13_overLeft hZ (q13_ok hZ n) (Nat.le_add_right 172 n)
    | 5, h => cases h; exact Met_X13_two hZ (q13_ok hZ n) (Nat.le_add_right 172 n)
    | _ + 6, h => exact absurd h (by simp)
abbrev mX13_wanted : rx_M := (RX13, cX13_wanted, 6, none, false)
theorem vy_X13_wanted : rx_Y (zV b e D A X) yX13_wanted mX13_wanted 3 := ⟨zw3474, zw431, by decide, by decide +kernel, by decide +kernel, by decide +kernel⟩
noncomputable def vX13_wanted_29 : rx_K := o_ret0
set_option maxRecDepth 20000 in
theorem wX13_wanted_29 (hZ : zO b e D A X) : rx_OK (zV b e D A X) mX13_wanted 5 29 vX13_wanted_29 := by
  unfold vX13_wanted_29
  exact s_vret rfl dX13_wanted_29
noncomputable def vX13_wanted_17 : rx_K := o_ld rx_isR 0 (o_const 104 (o_ld rx_isR 0 (o_getf 13 71 (o_ld rx_isI 1 (o_ald 0 (o_callV 2 13 FX13_fault (vX13_wanted_29)))))))
set_option maxRecDepth 20000 in
theorem wX13_wanted_17 (hZ : zO b e D A X) : rx_OK (zV b e D A X) mX13_wanted 5 17 vX13_wanted_17 := by
  unfold vX13_wanted_17
  refine s_aload_n hZ.1 dX13_wanted_17 rfl ?_
  refine s_bipush dX13_wanted_18 (by decide +kernel) ?_
  refine s_aload_n hZ.1 dX13_wanted_20 rfl ?_
  refine yg13_71 dX13_wanted_21 zw4192 ?_
  refine s_iload_n hZ.1 dX13_wanted_24 rfl ?_
  refine s_iald (tt := 0) rfl dX13_wanted_25 ?_
  refine s_callV hZ.1 (Met_X13_fault hZ) (Nat.le_of_ble_eq_true rfl) vy_X13_fault zcl13 zw3004 zw190 (Or.inl zw3002) dX13_wanted_26 ?_
  exact (wX13_wanted_29 hZ)
noncomputable def vX13_wanted_7 : rx_K := o_ld rx_isR 0 (o_ld rx_isL 2 (o_ld rx_isL 4 (o_callV 2 13 FX13_fits (o_c1 rx_eq vX13_wanted_17 vX13_wanted_29))))
set_option maxRecDepth 20000 in
theorem wX13_wanted_7 (hZ : zO b e D A X) : rx_OK (zV b e D A X) mX13_wanted 5 7 vX13_wanted_7 := by
  unfold vX13_wanted_7
  refine s_aload_n hZ.1 dX13_wanted_7 rfl ?_
  refine s_lload_n hZ.1 dX13_wanted_8 rfl ?_
  refine s_lload hZ.1 dX13_wanted_9 ?_
  refine s_callV hZ.1 (Met_X13_fits hZ) (Nat.le_of_ble_eq_true rfl) vy_X13_fits zcl13 zw3278 zw246 (Or.inl zw3276) dX13_wanted_11 ?_
  exact s_if_ne dX13_wanted_14 (by decide) (wX13_wanted_29 hZ) (wX13_wanted_17 hZ)
noncomputable def vX13_wanted_0 : rx_K := o_ld rx_isR 0 (o_getf 13 20 (o_c1 rx_eq vX13_wanted_7 vX13_wanted_29))
set_option maxRecDepth 20000 in
theorem wX13_wanted_0 (hZ : zO b e D A X) : rx_OK (zV b e D A X) mX13_wanted 5 0 vX13_wanted_0 := by
  unfold vX13_wanted_0
  refine s_aload_n hZ.1 dX13_wanted_0 rfl ?_
  refine yg13_20 dX13_wanted_1 zw4141 ?_
  exact s_if_ne dX13_wanted_4 (by decide) (wX13_wanted_29 hZ) (wX13_wanted_7 hZ)
noncomputable def FX13_wanted : List Nat → rx_H → Option (Nat × rx_H) := rx_ent 6 vX13_wanted_0
theorem Met_X13_wanted (hZ : zO b e D A X) : rx_Met (zV b e D A X) 5 yX13_wanted mX13_wanted (FX13_wanted) := rx_entry hZ.1 (wX13_wanted_0 hZ) (by decide +kernel) rfl (fun h => by cases h)
abbrev mX13_judgePut : rx_M := (RX13, cX13_judgePut, 10, none, false)
theorem vy_X13_judgePut : rx_Y (zV b e D A X) yX13_judgePut mX13_judgePut 1 := ⟨zw3498, zw431, by decide, by decide +kernel, by decide +kernel, by decide +kernel⟩
noncomputable def vX13_judgePut_192 : rx_K := o_ld rx_isR 0 (o_ld rx_isR 0 (o_getf 13 78 (o_ld rx_isI 1 (o_ald 0 (o_ld rx_isL 5 (o_ld rx_isL 3 (o_callV 3 13 FX13_wanted (o_ret0))))))))
set_option maxRecDepth 20000 in
theorem wX13_judgePut_192 (hZ : zO b e D A X) : rx_OK (zV b e D A X) mX13_judgePut 373 192 vX13_judgePut_192 := by
  unfold vX13_judgePut_192
  refine s_aload_n hZ.1 dX13_judgePut_192 rfl ?_
  refine s_aload_n hZ.1 dX13_judgePut_193 rfl ?_
  refine yg13_78 dX13_judgePut_194 zw4199 ?_
  refine s_iload_n hZ.1 dX13_judgePut_197 rfl ?_
  refine s_iald (tt := 0) rfl dX13_judgePut_198 ?_
  refine s_lload hZ.1 dX13_judgePut_199 ?_
  refine s_lload_n hZ.1 dX13_judgePut_201 rfl ?_
  refine s_callV hZ.1 (Met_X13_wanted hZ) (Nat.le_of_ble_eq_true rfl) vy_X13_wanted zcl13 zw3473 zw292 (Or.inl zw3471) dX13_judgePut_202 ?_
  exact s_vret rfl dX13_judgePut_205
noncomputable def vX13_judgePut_180 : rx_K := o_ld rx_isR 0 (o_const 120 (o_ld rx_isR 0 (o_getf 13 71 (o_ld rx_isI 1 (o_ald 0 (o_callV 2 13 FX13_fault (vX13_judgePut_192)))))))
set_option maxRecDepth 20000 in
theorem wX13_judgePut_180 (hZ : zO b e D A X) : rx_OK (zV b e D A X) mX13_judgePut 373 180 vX13_judgePut_180 := by
  unfold vX13_judgePut_180
  refine s_aload_n hZ.1 dX13_judgePut_180 rfl ?_
  refine s_bipush dX13_judgePut_181 (by decide +kernel) ?_
  refine s_aload_n hZ.1 dX13_judgePut_183 rfl ?_
  refine yg13_71 dX13_judgePut_184 zw4192 ?_
  refine s_iload_n hZ.1 dX13_judgePut_187 rfl ?_
  refine s_iald (tt := 0) rfl dX13_judgePut_188 ?_
  refine s_callV hZ.1 (Met_X13_fault hZ) (Nat.le_of_ble_eq_true rfl) vy_X13_fault zcl13 zw3004 zw190 (Or.inl zw3002) dX13_judgePut_189 ?_
  exact (wX13_judgePut_192 hZ)
noncomputable def vX13_judgePut_175 : rx_K := o_ld rx_isI 7 (o_c1 rx_eq vX13_judgePut_180 vX13_judgePut_192)
set_option maxRecDepth 20000 in
theorem wX13_judgePut_175 (hZ : zO b e D A X) : rx_OK (zV b e D A X) mX13_judgePut 373 175 vX13_judgePut_175 := by
  unfold vX13_judgePut_175
  refine s_iload hZ.1 dX13_judgePut_175 ?_
  exact s_if_ne dX13_judgePut_177 (by decide) (wX13_judgePut_192 hZ) (wX13_judgePut_180 hZ)
noncomputable def vX13_judgePut_173 : rx_K := o_st rx_isI 7 (vX13_judgePut_175)
set_option maxRecDepth 20000 in
theorem wX13_judgePut_173 (hZ : zO b e D A X) : rx_OK (zV b e D A X) mX13_judgePut 373 173 vX13_judgePut_173 := by
  unfold vX13_judgePut_173
  refine s_istore hZ.1 dX13_judgePut_173 (Nat.le_of_ble_eq_true rfl) ?_
  exact (wX13_judgePut_175 hZ)
noncomputable def vX13_judgePut_172 : rx_K := o_const 0 (vX13_judgePut_173)
set_option maxRecDepth 20000 in
theorem wX13_judgePut_172 (hZ : zO b e D A X) : rx_OK (zV b e D A X) mX13_judgePut 373 172 vX13_judgePut_172 := by
  unfold vX13_judgePut_172
  refine s_iconst dX13_judgePut_172 (by decide +kernel) ?_
  exact (wX13_judgePut_173 hZ)
noncomputable def vX13_judgePut_168 : rx_K := o_const 8 (vX13_judgePut_173)
set_option maxRecDepth 20000 in
theorem wX13_judgePut_168 (hZ : zO b e D A X) : rx_OK (zV b e D A X) mX13_judgePut 373 168 vX13_judgePut_168 := by
  unfold vX13_judgePut_168
  refine s_iconst dX13_judgePut_168 (by decide +kernel) ?_
  exact s_goto dX13_judgePut_169 (by decide) (wX13_judgePut_173 hZ)
noncomputable def vX13_judgePut_163 : rx_K := o_ld rx_isI 9 (o_c1 rx_eq vX13_judgePut_172 vX13_judgePut_168)
set_option maxRecDepth 20000 in
theorem wX13_judgePut_163 (hZ : zO b e D A X) : rx_OK (zV b e D A X) mX13_judgePut 373 163 vX13_judgePut_163 := by
  unfold vX13_judgePut_163
  refine s_iload hZ.1 dX13_judgePut_163 ?_
  exact s_if_eq dX13_judgePut_165 (by decide) (wX13_judgePut_172 hZ) (wX13_judgePut_168 hZ)
noncomputable def vX13_judgePut_151 : rx_K := o_st rx_isI 9 (o_ld rx_isR 0 (o_getf 13 46 (o_ld rx_isI 8 (o_ald 3 (o_c1 rx_eq vX13_judgePut_168 vX13_judgePut_163)))))
set_option maxRecDepth 20000 in
theorem wX13_judgePut_151 (hZ : zO b e D A X) : rx_OK (zV b e D A X) mX13_judgePut 373 151 vX13_judgePut_151 := by
  unfold vX13_judgePut_151
  refine s_istore hZ.1 dX13_judgePut_151 (Nat.le_of_ble_eq_true rfl) ?_
  refine s_aload_n hZ.1 dX13_judgePut_153 rfl ?_
  refine yg13_46 dX13_judgePut_154 zw4167 ?_
  refine s_iload hZ.1 dX13_judgePut_157 ?_
  refine s_zald (tt := 3) rfl dX13_judgePut_159 ?_
  exact s_if_eq dX13_judgePut_160 (by decide) (wX13_judgePut_168 hZ) (wX13_judgePut_163 hZ)
noncomputable def vX13_judgePut_150 : rx_K := o_const 0 (vX13_judgePut_151)
set_option maxRecDepth 20000 in
theorem wX13_judgePut_150 (hZ : zO b e D A X) : rx_OK (zV b e D A X) mX13_judgePut 373 150 vX13_judgePut_150 := by
  unfold vX13_judgePut_150
  refine s_iconst dX13_judgePut_150 (by decide +kernel) ?_
  exact (wX13_judgePut_151 hZ)
noncomputable def vX13_judgePut_146 : rx_K := o_const 8 (vX13_judgePut_151)
set_option maxRecDepth 20000 in
theorem wX13_judgePut_146 (hZ : zO b e D A X) : rx_OK (zV b e D A X) mX13_judgePut 373 146 vX13_judgePut_146 := by
  unfold vX13_judgePut_146
  refine s_iconst dX13_judgePut_146 (by decide +kernel) ?_
  exact s_goto dX13_judgePut_147 (by decide) (wX13_judgePut_151 hZ)
noncomputable def vX13_judgePut_143 : rx_K := o_c2 rx_eq vX13_judgePut_146 vX13_judgePut_150
set_option maxRecDepth 20000 in
theorem wX13_judgePut_143 (hZ : zO b e D A X) : rx_OK (zV b e D A X) mX13_judgePut 373 143 vX13_judgePut_143 := by
  unfold vX13_judgePut_143
  exact s_icmp_ne dX13_judgePut_143 (by decide) (wX13_judgePut_150 hZ) (wX13_judgePut_146 hZ)
noncomputable def vX13_judgePut_142 : rx_K := o_const 16 (vX13_judgePut_143)
set_option maxRecDepth 20000 in
theorem wX13_judgePut_142 (hZ : zO b e D A X) : rx_OK (zV b e D A X) mX13_judgePut 373 142 vX13_judgePut_142 := by
  unfold vX13_judgePut_142
  refine s_iconst dX13_judgePut_142 (by decide +kernel) ?_
  exact (wX13_judgePut_143 hZ)
noncomputable def vX13_judgePut_138 : rx_K := o_const 24 (vX13_judgePut_143)
set_option maxRecDepth 20000 in
theorem wX13_judgePut_138 (hZ : zO b e D A X) : rx_OK (zV b e D A X) mX13_judgePut 373 138 vX13_judgePut_138 := by
  unfold vX13_judgePut_138
  refine s_iconst dX13_judgePut_138 (by decide +kernel) ?_
  exact s_goto dX13_judgePut_139 (by decide) (wX13_judgePut_143 hZ)
noncomputable def vX13_judgePut_119 : rx_K := o_ld rx_isR 0 (o_getf 13 42 (o_ld rx_isR 0 (o_getf 13 110 (o_ald 0 (o_ld rx_isR 0 (o_getf 13 45 (o_ld rx_isI 8 (o_ald 3 (o_c1 rx_eq vX13_judgePut_142 vX13_judgePut_138)))))))))
set_option maxRecDepth 20000 in
theorem wX13_judgePut_119 (hZ : zO b e D A X) : rx_OK (zV b e D A X) mX13_judgePut 373 119 vX13_judgePut_119 := by
  unfold vX13_judgePut_119
  refine s_aload_n hZ.1 dX13_judgePut_119 rfl ?_
  refine yg13_42 dX13_judgePut_120 zw4163 ?_
  refine s_aload_n hZ.1 dX13_judgePut_123 rfl ?_
  refine yg13_110 dX13_judgePut_124 zw4230 ?_
  refine s_iald (tt := 0) rfl dX13_judgePut_127 ?_
  refine s_aload_n hZ.1 dX13_judgePut_128 rfl ?_
  refine yg13_45 dX13_judgePut_129 zw4166 ?_
  refine s_iload hZ.1 dX13_judgePut_132 ?_
  refine s_zald (tt := 3) rfl dX13_judgePut_134 ?_
  exact s_if_eq dX13_judgePut_135 (by decide) (wX13_judgePut_142 hZ) (wX13_judgePut_138 hZ)
noncomputable def vX13_judgePut_98 : rx_K := o_ld rx_isR 0 (o_getf 13 79 (o_ld rx_isI 2 (o_ald 0 (o_st rx_isI 8 (o_ld rx_isR 0 (o_ld rx_isI 8 (o_callV 1 13 FX13_classOfMember (o_ld rx_isR 0 (o_getf 13 109 (o_c2 rx_eq vX13_judgePut_119 vX13_judgePut_150))))))))))
set_option maxRecDepth 20000 in
theorem wX13_judgePut_98 (hZ : zO b e D A X) : rx_OK (zV b e D A X) mX13_judgePut 373 98 vX13_judgePut_98 := by
  unfold vX13_judgePut_98
  refine s_aload_n hZ.1 dX13_judgePut_98 rfl ?_
  refine yg13_79 dX13_judgePut_99 zw4200 ?_
  refine s_iload_n hZ.1 dX13_judgePut_102 rfl ?_
  refine s_iald (tt := 0) rfl dX13_judgePut_103 ?_
  refine s_istore hZ.1 dX13_judgePut_104 (Nat.le_of_ble_eq_true rfl) ?_
  refine s_aload_n hZ.1 dX13_judgePut_106 rfl ?_
  refine s_iload hZ.1 dX13_judgePut_107 ?_
  refine s_callV hZ.1 (Met_X13_classOfMember hZ) (Nat.le_of_ble_eq_true rfl) vy_X13_classOfMember zcl13 zw3255 zw241 (Or.inl zw3253) dX13_judgePut_109 ?_
  refine s_aload_n hZ.1 dX13_judgePut_112 rfl ?_
  refine yg13_109 dX13_judgePut_113 zw4229 ?_
  exact s_icmp_ne dX13_judgePut_116 (by decide) (wX13_judgePut_150 hZ) (wX13_judgePut_119 hZ)
noncomputable def vX13_judgePut_89 : rx_K := o_ld rx_isR 0 (o_getf 13 82 (o_ld rx_isI 2 (o_ald 0 (o_c1 rx_lt vX13_judgePut_98 vX13_judgePut_175))))
set_option maxRecDepth 20000 in
theorem wX13_judgePut_89 (hZ : zO b e D A X) : rx_OK (zV b e D A X) mX13_judgePut 373 89 vX13_judgePut_89 := by
  unfold vX13_judgePut_89
  refine s_aload_n hZ.1 dX13_judgePut_89 rfl ?_
  refine yg13_82 dX13_judgePut_90 zw4203 ?_
  refine s_iload_n hZ.1 dX13_judgePut_93 rfl ?_
  refine s_iald (tt := 0) rfl dX13_judgePut_94 ?_
  exact s_if_ge dX13_judgePut_95 (by decide) (wX13_judgePut_175 hZ) (wX13_judgePut_98 hZ)
noncomputable def vX13_judgePut_82 : rx_K := o_st rx_isI 7 (o_ld rx_isI 7 (o_c1 rx_eq vX13_judgePut_175 vX13_judgePut_89))
set_option maxRecDepth 20000 in
theorem wX13_judgePut_82 (hZ : zO b e D A X) : rx_OK (zV b e D A X) mX13_judgePut 373 82 vX13_judgePut_82 := by
  unfold vX13_judgePut_82
  refine s_istore hZ.1 dX13_judgePut_82 (Nat.le_of_ble_eq_true rfl) ?_
  refine s_iload hZ.1 dX13_judgePut_84 ?_
  exact s_if_eq dX13_judgePut_86 (by decide) (wX13_judgePut_175 hZ) (wX13_judgePut_89 hZ)
noncomputable def vX13_judgePut_81 : rx_K := o_const 0 (vX13_judgePut_82)
set_option maxRecDepth 20000 in
theorem wX13_judgePut_81 (hZ : zO b e D A X) : rx_OK (zV b e D A X) mX13_judgePut 373 81 vX13_judgePut_81 := by
  unfold vX13_judgePut_81
  refine s_iconst dX13_judgePut_81 (by decide +kernel) ?_
  exact (wX13_judgePut_82 hZ)
noncomputable def vX13_judgePut_77 : rx_K := o_const 8 (vX13_judgePut_82)
set_option maxRecDepth 20000 in
theorem wX13_judgePut_77 (hZ : zO b e D A X) : rx_OK (zV b e D A X) mX13_judgePut 373 77 vX13_judgePut_77 := by
  unfold vX13_judgePut_77
  refine s_iconst dX13_judgePut_77 (by decide +kernel) ?_
  exact s_goto dX13_judgePut_78 (by decide) (wX13_judgePut_82 hZ)
noncomputable def vX13_judgePut_66 : rx_K := o_ld rx_isR 0 (o_getf 13 70 (o_ld rx_isI 2 (o_ald 0 (o_const 96 (o_c2 rx_eq vX13_judgePut_77 vX13_judgePut_81)))))
set_option maxRecDepth 20000 in
theorem wX13_judgePut_66 (hZ : zO b e D A X) : rx_OK (zV b e D A X) mX13_judgePut 373 66 vX13_judgePut_66 := by
  unfold vX13_judgePut_66
  refine s_aload_n hZ.1 dX13_judgePut_66 rfl ?_
  refine yg13_70 dX13_judgePut_67 zw4191 ?_
  refine s_iload_n hZ.1 dX13_judgePut_70 rfl ?_
  refine s_iald (tt := 0) rfl dX13_judgePut_71 ?_
  refine s_bipush dX13_judgePut_72 (by decide +kernel) ?_
  exact s_icmp_ne dX13_judgePut_74 (by decide) (wX13_judgePut_81 hZ) (wX13_judgePut_77 hZ)
noncomputable def vX13_judgePut_56 : rx_K := o_ld rx_isR 0 (o_getf 13 70 (o_ld rx_isI 2 (o_ald 0 (o_const 40 (o_c2 rx_eq vX13_judgePut_77 vX13_judgePut_66)))))
set_option maxRecDepth 20000 in
theorem wX13_judgePut_56 (hZ : zO b e D A X) : rx_OK (zV b e D A X) mX13_judgePut 373 56 vX13_judgePut_56 := by
  unfold vX13_judgePut_56
  refine s_aload_n hZ.1 dX13_judgePut_56 rfl ?_
  refine yg13_70 dX13_judgePut_57 zw4191 ?_
  refine s_iload_n hZ.1 dX13_judgePut_60 rfl ?_
  refine s_iald (tt := 0) rfl dX13_judgePut_61 ?_
  refine s_iconst dX13_judgePut_62 (by decide +kernel) ?_
  exact s_icmp_eq dX13_judgePut_63 (by decide) (wX13_judgePut_77 hZ) (wX13_judgePut_66 hZ)
noncomputable def vX13_judgePut_46 : rx_K := o_ld rx_isR 0 (o_getf 13 70 (o_ld rx_isI 2 (o_ald 0 (o_const 24 (o_c2 rx_eq vX13_judgePut_77 vX13_judgePut_56)))))
set_option maxRecDepth 20000 in
theorem wX13_judgePut_46 (hZ : zO b e D A X) : rx_OK (zV b e D A X) mX13_judgePut 373 46 vX13_judgePut_46 := by
  unfold vX13_judgePut_46
  refine s_aload_n hZ.1 dX13_judgePut_46 rfl ?_
  refine yg13_70 dX13_judgePut_47 zw4191 ?_
  refine s_iload_n hZ.1 dX13_judgePut_50 rfl ?_
  refine s_iald (tt := 0) rfl dX13_judgePut_51 ?_
  refine s_iconst dX13_judgePut_52 (by decide +kernel) ?_
  exact s_icmp_eq dX13_judgePut_53 (by decide) (wX13_judgePut_77 hZ) (wX13_judgePut_56 hZ)
noncomputable def vX13_judgePut_45 : rx_K := o_ret0
set_option maxRecDepth 20000 in
theorem wX13_judgePut_45 (hZ : zO b e D A X) : rx_OK (zV b e D A X) mX13_judgePut 373 45 vX13_judgePut_45 := by
  unfold vX13_judgePut_45
  exact s_vret rfl dX13_judgePut_45
noncomputable def vX13_judgePut_36 : rx_K := o_stL 5 (o_ld rx_isR 0 (o_getf 13 20 (o_c1 rx_eq vX13_judgePut_46 vX13_judgePut_45)))
set_option maxRecDepth 20000 in
theorem wX13_judgePut_36 (hZ : zO b e D A X) : rx_OK (zV b e D A X) mX13_judgePut 373 36 vX13_judgePut_36 := by
  unfold vX13_judgePut_36
  refine s_lstore hZ.1 dX13_judgePut_36 (Nat.le_of_ble_eq_true rfl) ?_
  refine s_aload_n hZ.1 dX13_judgePut_38 rfl ?_
  refine yg13_20 dX13_judgePut_39 zw4141 ?_
  exact s_if_eq dX13_judgePut_42 (by decide) (wX13_judgePut_46 hZ) (wX13_judgePut_45 hZ)
noncomputable def vX13_judgePut_33 : rx_K := o_const 17 (vX13_judgePut_36)
set_option maxRecDepth 20000 in
theorem wX13_judgePut_33 (hZ : zO b e D A X) : rx_OK (zV b e D A X) mX13_judgePut 373 33 vX13_judgePut_33 := by
  unfold vX13_judgePut_33
  refine s_ldc2 dX13_judgePut_33 zw3066 (by decide +kernel) ?_
  exact (wX13_judgePut_36 hZ)
noncomputable def vX13_judgePut_20 : rx_K := o_ld rx_isR 0 (o_ld rx_isR 0 (o_getf 13 78 (o_ld rx_isI 1 (o_ald 0 (o_callV 1 13 (q13 200 1) (vX13_judgePut_36))))))
set_option maxRecDepth 20000 in
theorem wX13_judgePut_20 (hZ : zO b e D A X) : rx_OK (zV b e D A X) mX13_judgePut 373 20 vX13_judgePut_20 := by
  unfold vX13_judgePut_20
  refine s_aload_n hZ.1 dX13_judgePut_20 rfl ?_
  refine s_aload_n hZ.1 dX13_judgePut_21 rfl ?_
  refine yg13_78 dX13_judgePut_22 zw4199 ?_
  refine s_iload_n hZ.1 dX13_judgePut_25 rfl ?_
  refine s_iald (tt := 0) rfl dX13_judgePut_26 ?_
  refine s_callV hZ.1 (q13_ok hZ 200 1 _ _ rfl) (Nat.le_of_ble_eq_true rfl) vy_X13_judge zcl13 zw3398 zw274 (Or.inl zw3396) dX13_judgePut_27 ?_
  exact s_goto dX13_judgePut_30 (by decide) (wX13_judgePut_36 hZ)
noncomputable def vX13_judgePut_0 : rx_K := o_ld rx_isR 0 (o_getf 13 77 (o_ld rx_isI 1 (o_ald 0 (o_st rx_isI 2 (o_ld rx_isR 0 (o_ld rx_isI 2 (o_callV 1 13 (q13 200 1) (o_stL 3 (o_ld rx_isR 0 (o_getf 13 20 (o_c1 rx_eq vX13_judgePut_20 vX13_judgePut_33)))))))))))
set_option maxRecDepth 20000 in
theorem wX13_judgePut_0 (hZ : zO b e D A X) : rx_OK (zV b e D A X) mX13_judgePut 373 0 vX13_judgePut_0 := by
  unfold vX13_judgePut_0
  refine s_aload_n hZ.1 dX13_judgePut_0 rfl ?_
  refine yg13_77 dX13_judgePut_1 zw4198 ?_
  refine s_iload_n hZ.1 dX13_judgePut_4 rfl ?_
  refine s_iald (tt := 0) rfl dX13_judgePut_5 ?_
  refine s_istore_n hZ.1 dX13_judgePut_6 rfl (Nat.le_of_ble_eq_true rfl) ?_
  refine s_aload_n hZ.1 dX13_judgePut_7 rfl ?_
  refine s_iload_n hZ.1 dX13_judgePut_8 rfl ?_
  refine s_callV hZ.1 (q13_ok hZ 200 1 _ _ rfl) (Nat.le_of_ble_eq_true rfl) vy_X13_judge zcl13 zw3398 zw274 (Or.inl zw3396) dX13_judgePut_9 ?_
  refine s_lstore_n hZ.1 dX13_judgePut_12 rfl (Nat.le_of_ble_eq_true rfl) ?_
  refine s_aload_n hZ.1 dX13_judgePut_13 rfl ?_
  refine yg13_20 dX13_judgePut_14 zw4141 ?_
  exact s_if_ne dX13_judgePut_17 (by decide) (wX13_judgePut_33 hZ) (wX13_judgePut_20 hZ)
noncomputable def FX13_judgePut : List Nat → rx_H → Option (Nat × rx_H) := rx_ent 10 vX13_judgePut_0
theorem Met_X13_judgePut (hZ : zO b e D A X) : rx_Met (zV b e D A X) 373 yX13_judgePut mX13_judgePut (FX13_judgePut) := rx_entry hZ.1 (wX13_judgePut_0 hZ) (by decide +kernel) rfl (fun h => by cases h)
abbrev mX13_judgeReturn : rx_M := (RX13, cX13_judgeReturn, 5, none, false)
theorem vy_X13_judgeReturn : rx_Y (zV b e D A X) yX13_judgeReturn mX13_judgeReturn 1 := ⟨zw3494, zw431, by decide, by decide +kernel, by decide +kernel, by decide +kernel⟩
noncomputable def vX13_judgeReturn_142 : rx_K := o_ret0
set_option maxRecDepth 20000 in
theorem wX13_judgeReturn_142 (hZ : zO b e D A X) : rx_OK (zV b e D A X) mX13_judgeReturn 373 142 vX13_judgeReturn_142 := by
  unfold vX13_judgeReturn_142
  exact s_vret rfl dX13_judgeReturn_142
noncomputable def vX13_judgeReturn_122 : rx_K := o_ld rx_isR 0 (o_ld rx_isR 0 (o_getf 13 77 (o_ld rx_isI 1 (o_ald 0 (o_ld rx_isL 2 (o_ld rx_isR 0 (o_getf 13 53 (o_ld rx_isR 0 (o_getf 13 110 (o_ald 1 (o_callV 3 13 FX13_wanted (vX13_judgeReturn_142))))))))))))
set_option maxRecDepth 20000 in
theorem wX13_judgeReturn_122 (hZ : zO b e D A X) : rx_OK (zV b e D A X) mX13_judgeReturn 373 122 vX13_judgeReturn_122 := by
  unfold vX13_judgeReturn_122
  refine s_aload_n hZ.1 dX13_judgeReturn_122 rfl ?_
  refine s_aload_n hZ.1 dX13_judgeReturn_123 rfl ?_
  refine yg13_77 dX13_judgeReturn_124 zw4198 ?_
  refine s_iload_n hZ.1 dX13_judgeReturn_127 rfl ?_
  refine s_iald (tt := 0) rfl dX13_judgeReturn_128 ?_
  refine s_lload_n hZ.1 dX13_judgeReturn_129 rfl ?_
  refine s_aload_n hZ.1 dX13_judgeReturn_130 rfl ?_
  refine yg13_53 dX13_judgeReturn_131 zw4174 ?_
  refine s_aload_n hZ.1 dX13_judgeReturn_134 rfl ?_
  refine yg13_110 dX13_judgeReturn_135 zw4230 ?_
  refine s_lald (tt := 1) rfl dX13_judgeReturn_138 ?_
  refine s_callV hZ.1 (Met_X13_wanted hZ) (Nat.le_of_ble_eq_true rfl) vy_X13_wanted zcl13 zw3473 zw292 (Or.inl zw3471) dX13_judgeReturn_139 ?_
  exact (wX13_judgeReturn_142 hZ)
noncomputable def vX13_judgeReturn_117 : rx_K := o_ld rx_isI 4 (o_c1 rx_eq vX13_judgeReturn_142 vX13_judgeReturn_122)
set_option maxRecDepth 20000 in
theorem wX13_judgeReturn_117 (hZ : zO b e D A X) : rx_OK (zV b e D A X) mX13_judgeReturn 373 117 vX13_judgeReturn_117 := by
  unfold vX13_judgeReturn_117
  refine s_iload hZ.1 dX13_judgeReturn_117 ?_
  exact s_if_eq dX13_judgeReturn_119 (by decide) (wX13_judgeReturn_142 hZ) (wX13_judgeReturn_122 hZ)
noncomputable def vX13_judgeReturn_102 : rx_K := o_ld rx_isR 0 (o_const 136 (o_ld rx_isR 0 (o_getf 13 71 (o_ld rx_isI 1 (o_ald 0 (o_callV 2 13 FX13_fault (vX13_judgeReturn_142)))))))
set_option maxRecDepth 20000 in
theorem wX13_judgeReturn_102 (hZ : zO b e D A X) : rx_OK (zV b e D A X) mX13_judgeReturn 373 102 vX13_judgeReturn_102 := by
  unfold vX13_judgeReturn_102
  refine s_aload_n hZ.1 dX13_judgeReturn_102 rfl ?_
  refine s_bipush dX13_judgeReturn_103 (by decide +kernel) ?_
  refine s_aload_n hZ.1 dX13_judgeReturn_105 rfl ?_
  refine yg13_71 dX13_judgeReturn_106 zw4192 ?_
  refine s_iload_n hZ.1 dX13_judgeReturn_109 rfl ?_
  refine s_iald (tt := 0) rfl dX13_judgeReturn_110 ?_
  refine s_callV hZ.1 (Met_X13_fault hZ) (Nat.le_of_ble_eq_true rfl) vy_X13_fault zcl13 zw3004 zw190 (Or.inl zw3002) dX13_judgeReturn_111 ?_
  exact s_goto dX13_judgeReturn_114 (by decide) (wX13_judgeReturn_142 hZ)
noncomputable def vX13_judgeReturn_99 : rx_K := o_c2 rx_eq vX13_judgeReturn_117 vX13_judgeReturn_102
set_option maxRecDepth 20000 in
theorem wX13_judgeReturn_99 (hZ : zO b e D A X) : rx_OK (zV b e D A X) mX13_judgeReturn 373 99 vX13_judgeReturn_99 := by
  unfold vX13_judgeReturn_99
  exact s_icmp_eq dX13_judgeReturn_99 (by decide) (wX13_judgeReturn_117 hZ) (wX13_judgeReturn_102 hZ)
noncomputable def vX13_judgeReturn_98 : rx_K := o_const 0 (vX13_judgeReturn_99)
set_option maxRecDepth 20000 in
theorem wX13_judgeReturn_98 (hZ : zO b e D A X) : rx_OK (zV b e D A X) mX13_judgeReturn 373 98 vX13_judgeReturn_98 := by
  unfold vX13_judgeReturn_98
  refine s_iconst dX13_judgeReturn_98 (by decide +kernel) ?_
  exact (wX13_judgeReturn_99 hZ)
noncomputable def vX13_judgeReturn_94 : rx_K := o_const 8 (vX13_judgeReturn_99)
set_option maxRecDepth 20000 in
theorem wX13_judgeReturn_94 (hZ : zO b e D A X) : rx_OK (zV b e D A X) mX13_judgeReturn 373 94 vX13_judgeReturn_94 := by
  unfold vX13_judgeReturn_94
  refine s_iconst dX13_judgeReturn_94 (by decide +kernel) ?_
  exact s_goto dX13_judgeReturn_95 (by decide) (wX13_judgeReturn_99 hZ)
noncomputable def vX13_judgeReturn_81 : rx_K := o_ld rx_isI 4 (o_ld rx_isR 0 (o_getf 13 77 (o_ld rx_isI 1 (o_ald 0 (o_const 34359738352 (o_c2 rx_eq vX13_judgeReturn_98 vX13_judgeReturn_94))))))
set_option maxRecDepth 20000 in
theorem wX13_judgeReturn_81 (hZ : zO b e D A X) : rx_OK (zV b e D A X) mX13_judgeReturn 373 81 vX13_judgeReturn_81 := by
  unfold vX13_judgeReturn_81
  refine s_iload hZ.1 dX13_judgeReturn_81 ?_
  refine s_aload_n hZ.1 dX13_judgeReturn_83 rfl ?_
  refine yg13_77 dX13_judgeReturn_84 zw4198 ?_
  refine s_iload_n hZ.1 dX13_judgeReturn_87 rfl ?_
  refine s_iald (tt := 0) rfl dX13_judgeReturn_88 ?_
  refine s_bipush dX13_judgeReturn_89 (by decide +kernel) ?_
  exact s_icmp_eq dX13_judgeReturn_91 (by decide) (wX13_judgeReturn_98 hZ) (wX13_judgeReturn_94 hZ)
noncomputable def vX13_judgeReturn_66 : rx_K := o_st rx_isI 4 (o_ld rx_isR 0 (o_getf 13 42 (o_ld rx_isR 0 (o_getf 13 110 (o_ald 0 (o_const 24 (o_c2 rx_eq vX13_judgeReturn_102 vX13_judgeReturn_81)))))))
set_option maxRecDepth 20000 in
theorem wX13_judgeReturn_66 (hZ : zO b e D A X) : rx_OK (zV b e D A X) mX13_judgeReturn 373 66 vX13_judgeReturn_66 := by
  unfold vX13_judgeReturn_66
  refine s_istore hZ.1 dX13_judgeReturn_66 (Nat.le_of_ble_eq_true rfl) ?_
  refine s_aload_n hZ.1 dX13_judgeReturn_68 rfl ?_
  refine yg13_42 dX13_judgeReturn_69 zw4163 ?_
  refine s_aload_n hZ.1 dX13_judgeReturn_72 rfl ?_
  refine yg13_110 dX13_judgeReturn_73 zw4230 ?_
  refine s_iald (tt := 0) rfl dX13_judgeReturn_76 ?_
  refine s_iconst dX13_judgeReturn_77 (by decide +kernel) ?_
  exact s_icmp_eq dX13_judgeReturn_78 (by decide) (wX13_judgeReturn_102 hZ) (wX13_judgeReturn_81 hZ)
noncomputable def vX13_judgeReturn_65 : rx_K := o_const 0 (vX13_judgeReturn_66)
set_option maxRecDepth 20000 in
theorem wX13_judgeReturn_65 (hZ : zO b e D A X) : rx_OK (zV b e D A X) mX13_judgeReturn 373 65 vX13_judgeReturn_65 := by
  unfold vX13_judgeReturn_65
  refine s_iconst dX13_judgeReturn_65 (by decide +kernel) ?_
  exact (wX13_judgeReturn_66 hZ)
noncomputable def vX13_judgeReturn_61 : rx_K := o_const 8 (vX13_judgeReturn_66)
set_option maxRecDepth 20000 in
theorem wX13_judgeReturn_61 (hZ : zO b e D A X) : rx_OK (zV b e D A X) mX13_judgeReturn 373 61 vX13_judgeReturn_61 := by
  unfold vX13_judgeReturn_61
  refine s_iconst dX13_judgeReturn_61 (by decide +kernel) ?_
  exact s_goto dX13_judgeReturn_62 (by decide) (wX13_judgeReturn_66 hZ)
noncomputable def vX13_judgeReturn_47 : rx_K := o_ld rx_isR 0 (o_getf 13 53 (o_ld rx_isR 0 (o_getf 13 110 (o_ald 1 (o_const 9 (o_bc (fun x y => lg_cmp x y) (o_c1 rx_eq vX13_judgeReturn_65 vX13_judgeReturn_61)))))))
set_option maxRecDepth 20000 in
theorem wX13_judgeReturn_47 (hZ : zO b e D A X) : rx_OK (zV b e D A X) mX13_judgeReturn 373 47 vX13_judgeReturn_47 := by
  unfold vX13_judgeReturn_47
  refine s_aload_n hZ.1 dX13_judgeReturn_47 rfl ?_
  refine yg13_53 dX13_judgeReturn_48 zw4174 ?_
  refine s_aload_n hZ.1 dX13_judgeReturn_51 rfl ?_
  refine yg13_110 dX13_judgeReturn_52 zw4230 ?_
  refine s_lald (tt := 1) rfl dX13_judgeReturn_55 ?_
  refine s_lconst dX13_judgeReturn_56 (by decide +kernel) ?_
  refine s_lcmp dX13_judgeReturn_57 ?_
  exact s_if_eq dX13_judgeReturn_58 (by decide) (wX13_judgeReturn_65 hZ) (wX13_judgeReturn_61 hZ)
noncomputable def vX13_judgeReturn_34 : rx_K := o_ld rx_isR 0 (o_getf 13 42 (o_ld rx_isR 0 (o_getf 13 110 (o_ald 0 (o_const 8 (o_c2 rx_eq vX13_judgeReturn_47 vX13_judgeReturn_65))))))
set_option maxRecDepth 20000 in
theorem wX13_judgeReturn_34 (hZ : zO b e D A X) : rx_OK (zV b e D A X) mX13_judgeReturn 373 34 vX13_judgeReturn_34 := by
  unfold vX13_judgeReturn_34
  refine s_aload_n hZ.1 dX13_judgeReturn_34 rfl ?_
  refine yg13_42 dX13_judgeReturn_35 zw4163 ?_
  refine s_aload_n hZ.1 dX13_judgeReturn_38 rfl ?_
  refine yg13_110 dX13_judgeReturn_39 zw4230 ?_
  refine s_iald (tt := 0) rfl dX13_judgeReturn_42 ?_
  refine s_iconst dX13_judgeReturn_43 (by decide +kernel) ?_
  exact s_icmp_ne dX13_judgeReturn_44 (by decide) (wX13_judgeReturn_65 hZ) (wX13_judgeReturn_47 hZ)
noncomputable def vX13_judgeReturn_33 : rx_K := o_ret0
set_option maxRecDepth 20000 in
theorem wX13_judgeReturn_33 (hZ : zO b e D A X) : rx_OK (zV b e D A X) mX13_judgeReturn 373 33 vX13_judgeReturn_33 := by
  unfold vX13_judgeReturn_33
  exact s_vret rfl dX13_judgeReturn_33
noncomputable def vX13_judgeReturn_25 : rx_K := o_stL 2 (o_ld rx_isR 0 (o_getf 13 20 (o_c1 rx_eq vX13_judgeReturn_34 vX13_judgeReturn_33)))
set_option maxRecDepth 20000 in
theorem wX13_judgeReturn_25 (hZ : zO b e D A X) : rx_OK (zV b e D A X) mX13_judgeReturn 373 25 vX13_judgeReturn_25 := by
  unfold vX13_judgeReturn_25
  refine s_lstore_n hZ.1 dX13_judgeReturn_25 rfl (Nat.le_of_ble_eq_true rfl) ?_
  refine s_aload_n hZ.1 dX13_judgeReturn_26 rfl ?_
  refine yg13_20 dX13_judgeReturn_27 zw4141 ?_
  exact s_if_eq dX13_judgeReturn_30 (by decide) (wX13_judgeReturn_34 hZ) (wX13_judgeReturn_33 hZ)
noncomputable def vX13_judgeReturn_15 : rx_K := o_ld rx_isR 0 (o_ld rx_isR 0 (o_getf 13 77 (o_ld rx_isI 1 (o_ald 0 (o_callV 1 13 (q13 200 1) (vX13_judgeReturn_25))))))
set_option maxRecDepth 20000 in
theorem wX13_judgeReturn_15 (hZ : zO b e D A X) : rx_OK (zV b e D A X) mX13_judgeReturn 373 15 vX13_judgeReturn_15 := by
  unfold vX13_judgeReturn_15
  refine s_aload_n hZ.1 dX13_judgeReturn_15 rfl ?_
  refine s_aload_n hZ.1 dX13_judgeReturn_16 rfl ?_
  refine yg13_77 dX13_judgeReturn_17 zw4198 ?_
  refine s_iload_n hZ.1 dX13_judgeReturn_20 rfl ?_
  refine s_iald (tt := 0) rfl dX13_judgeReturn_21 ?_
  refine s_callV hZ.1 (q13_ok hZ 200 1 _ _ rfl) (Nat.le_of_ble_eq_true rfl) vy_X13_judge zcl13 zw3398 zw274 (Or.inl zw3396) dX13_judgeReturn_22 ?_
  exact (wX13_judgeReturn_25 hZ)
noncomputable def vX13_judgeReturn_11 : rx_K := o_const 9 (vX13_judgeReturn_25)
set_option maxRecDepth 20000 in
theorem wX13_judgeReturn_11 (hZ : zO b e D A X) : rx_OK (zV b e D A X) mX13_judgeReturn 373 11 vX13_judgeReturn_11 := by
  unfold vX13_judgeReturn_11
  refine s_lconst dX13_judgeReturn_11 (by decide +kernel) ?_
  exact s_goto dX13_judgeReturn_12 (by decide) (wX13_judgeReturn_25 hZ)
noncomputable def vX13_judgeReturn_0 : rx_K := o_ld rx_isR 0 (o_getf 13 77 (o_ld rx_isI 1 (o_ald 0 (o_const 34359738352 (o_c2 rx_eq vX13_judgeReturn_11 vX13_judgeReturn_15)))))
set_option maxRecDepth 20000 in
theorem wX13_judgeReturn_0 (hZ : zO b e D A X) : rx_OK (zV b e D A X) mX13_judgeReturn 373 0 vX13_judgeReturn_0 := by
  unfold vX13_judgeReturn_0
  refine s_aload_n hZ.1 dX13_judgeReturn_0 rfl ?_
  refine yg13_77 dX13_judgeReturn_1 zw4198 ?_
  refine s_iload_n hZ.1 dX13_judgeReturn_4 rfl ?_
  refine s_iald (tt := 0) rfl dX13_judgeReturn_5 ?_
  refine s_bipush dX13_judgeReturn_6 (by decide +kernel) ?_
  exact s_icmp_ne dX13_judgeReturn_8 (by decide) (wX13_judgeReturn_15 hZ) (wX13_judgeReturn_11 hZ)
noncomputable def FX13_judgeReturn : List Nat → rx_H → Option (Nat × rx_H) := rx_ent 5 vX13_judgeReturn_0
theorem Met_X13_judgeReturn (hZ : zO b e D A X) : rx_Met (zV b e D A X) 373 yX13_judgeReturn mX13_judgeReturn (FX13_judgeReturn) := rx_entry hZ.1 (wX13_judgeReturn_0 hZ) (by decide +kernel) rfl (fun h => by cases h)
abbrev mX13_judgeOther : rx_M := (RX13, cX13_judgeOther, 4, none, false)
theorem vy_X13_judgeOther : rx_Y (zV b e D A X) yX13_judgeOther mX13_judgeOther 1 := ⟨zw3490, zw431, by decide, by decide +kernel, by decide +kernel, by decide +kernel⟩
noncomputable def vX13_judgeOther_301 : rx_K := o_ret0
set_option maxRecDepth 20000 in
theorem wX13_judgeOther_301 (hZ : zO b e D A X) : rx_OK (zV b e D A X) mX13_judgeOther 374 301 vX13_judgeOther_301 := by
  unfold vX13_judgeOther_301
  exact s_vret rfl dX13_judgeOther_301
noncomputable def vX13_judgeOther_296 : rx_K := o_ld rx_isR 0 (o_ld rx_isI 1 (o_callV 1 13 FX13_judgePut (vX13_judgeOther_301)))
set_option maxRecDepth 20000 in
theorem wX13_judgeOther_296 (hZ : zO b e D A X) : rx_OK (zV b e D A X) mX13_judgeOther 374 296 vX13_judgeOther_296 := by
  unfold vX13_judgeOther_296
  refine s_aload_n hZ.1 dX13_judgeOther_296 rfl ?_
  refine s_iload_n hZ.1 dX13_judgeOther_297 rfl ?_
  refine s_callV hZ.1 (Met_X13_judgePut hZ) (Nat.le_of_ble_eq_true rfl) vy_X13_judgePut zcl13 zw3497 zw298 (Or.inl zw3495) dX13_judgeOther_298 ?_
  exact (wX13_judgeOther_301 hZ)
noncomputable def vX13_judgeOther_281 : rx_K := o_ld rx_isR 0 (o_const 152 (o_ld rx_isR 0 (o_getf 13 71 (o_ld rx_isI 1 (o_ald 0 (o_callV 2 13 FX13_fault (vX13_judgeOther_301)))))))
set_option maxRecDepth 20000 in
theorem wX13_judgeOther_281 (hZ : zO b e D A X) : rx_OK (zV b e D A X) mX13_judgeOther 374 281 vX13_judgeOther_281 := by
  unfold vX13_judgeOther_281
  refine s_aload_n hZ.1 dX13_judgeOther_281 rfl ?_
  refine s_bipush dX13_judgeOther_282 (by decide +kernel) ?_
  refine s_aload_n hZ.1 dX13_judgeOther_284 rfl ?_
  refine yg13_71 dX13_judgeOther_285 zw4192 ?_
  refine s_iload_n hZ.1 dX13_judgeOther_288 rfl ?_
  refine s_iald (tt := 0) rfl dX13_judgeOther_289 ?_
  refine s_callV hZ.1 (Met_X13_fault hZ) (Nat.le_of_ble_eq_true rfl) vy_X13_fault zcl13 zw3004 zw190 (Or.inl zw3002) dX13_judgeOther_290 ?_
  exact s_goto dX13_judgeOther_293 (by decide) (wX13_judgeOther_301 hZ)
noncomputable def vX13_judgeOther_275 : rx_K := o_ld rx_isI 2 (o_const 104 (o_c2 rx_eq vX13_judgeOther_301 vX13_judgeOther_281))
set_option maxRecDepth 20000 in
theorem wX13_judgeOther_275 (hZ : zO b e D A X) : rx_OK (zV b e D A X) mX13_judgeOther 374 275 vX13_judgeOther_275 := by
  unfold vX13_judgeOther_275
  refine s_iload_n hZ.1 dX13_judgeOther_275 rfl ?_
  refine s_bipush dX13_judgeOther_276 (by decide +kernel) ?_
  exact s_icmp_eq dX13_judgeOther_278 (by decide) (wX13_judgeOther_301 hZ) (wX13_judgeOther_281 hZ)
noncomputable def vX13_judgeOther_269 : rx_K := o_ld rx_isI 2 (o_const 72 (o_c2 rx_eq vX13_judgeOther_301 vX13_judgeOther_275))
set_option maxRecDepth 20000 in
theorem wX13_judgeOther_269 (hZ : zO b e D A X) : rx_OK (zV b e D A X) mX13_judgeOther 374 269 vX13_judgeOther_269 := by
  unfold vX13_judgeOther_269
  refine s_iload_n hZ.1 dX13_judgeOther_269 rfl ?_
  refine s_bipush dX13_judgeOther_270 (by decide +kernel) ?_
  exact s_icmp_eq dX13_judgeOther_272 (by decide) (wX13_judgeOther_301 hZ) (wX13_judgeOther_275 hZ)
noncomputable def vX13_judgeOther_263 : rx_K := o_ld rx_isI 2 (o_const 64 (o_c2 rx_eq vX13_judgeOther_301 vX13_judgeOther_269))
set_option maxRecDepth 20000 in
theorem wX13_judgeOther_263 (hZ : zO b e D A X) : rx_OK (zV b e D A X) mX13_judgeOther 374 263 vX13_judgeOther_263 := by
  unfold vX13_judgeOther_263
  refine s_iload_n hZ.1 dX13_judgeOther_263 rfl ?_
  refine s_bipush dX13_judgeOther_264 (by decide +kernel) ?_
  exact s_icmp_eq dX13_judgeOther_266 (by decide) (wX13_judgeOther_301 hZ) (wX13_judgeOther_269 hZ)
noncomputable def vX13_judgeOther_257 : rx_K := o_ld rx_isI 2 (o_const 56 (o_c2 rx_eq vX13_judgeOther_301 vX13_judgeOther_263))
set_option maxRecDepth 20000 in
theorem wX13_judgeOther_257 (hZ : zO b e D A X) : rx_OK (zV b e D A X) mX13_judgeOther 374 257 vX13_judgeOther_257 := by
  unfold vX13_judgeOther_257
  refine s_iload_n hZ.1 dX13_judgeOther_257 rfl ?_
  refine s_bipush dX13_judgeOther_258 (by decide +kernel) ?_
  exact s_icmp_eq dX13_judgeOther_260 (by decide) (wX13_judgeOther_301 hZ) (wX13_judgeOther_263 hZ)
noncomputable def vX13_judgeOther_251 : rx_K := o_ld rx_isI 2 (o_const 48 (o_c2 rx_eq vX13_judgeOther_301 vX13_judgeOther_257))
set_option maxRecDepth 20000 in
theorem wX13_judgeOther_251 (hZ : zO b e D A X) : rx_OK (zV b e D A X) mX13_judgeOther 374 251 vX13_judgeOther_251 := by
  unfold vX13_judgeOther_251
  refine s_iload_n hZ.1 dX13_judgeOther_251 rfl ?_
  refine s_bipush dX13_judgeOther_252 (by decide +kernel) ?_
  exact s_icmp_eq dX13_judgeOther_254 (by decide) (wX13_judgeOther_301 hZ) (wX13_judgeOther_257 hZ)
noncomputable def vX13_judgeOther_246 : rx_K := o_ld rx_isI 2 (o_const 32 (o_c2 rx_eq vX13_judgeOther_301 vX13_judgeOther_251))
set_option maxRecDepth 20000 in
theorem wX13_judgeOther_246 (hZ : zO b e D A X) : rx_OK (zV b e D A X) mX13_judgeOther 374 246 vX13_judgeOther_246 := by
  unfold vX13_judgeOther_246
  refine s_iload_n hZ.1 dX13_judgeOther_246 rfl ?_
  refine s_iconst dX13_judgeOther_247 (by decide +kernel) ?_
  exact s_icmp_eq dX13_judgeOther_248 (by decide) (wX13_judgeOther_301 hZ) (wX13_judgeOther_251 hZ)
noncomputable def vX13_judgeOther_216 : rx_K := o_ld rx_isR 0 (o_ld rx_isR 0 (o_getf 13 77 (o_ld rx_isI 1 (o_ald 0 (o_callV 1 13 (q13 200 1) (o_pop2 (o_ld rx_isR 0 (o_getf 13 70 (o_ld rx_isR 0 (o_getf 13 77 (o_ld rx_isI 1 (o_ald 0 (o_ald 0 (o_st rx_isI 2 (o_ld rx_isR 0 (o_getf 13 20 (o_c1 rx_eq vX13_judgeOther_246 vX13_judgeOther_301)))))))))))))))))
set_option maxRecDepth 20000 in
theorem wX13_judgeOther_216 (hZ : zO b e D A X) : rx_OK (zV b e D A X) mX13_judgeOther 374 216 vX13_judgeOther_216 := by
  unfold vX13_judgeOther_216
  refine s_aload_n hZ.1 dX13_judgeOther_216 rfl ?_
  refine s_aload_n hZ.1 dX13_judgeOther_217 rfl ?_
  refine yg13_77 dX13_judgeOther_218 zw4198 ?_
  refine s_iload_n hZ.1 dX13_judgeOther_221 rfl ?_
  refine s_iald (tt := 0) rfl dX13_judgeOther_222 ?_
  refine s_callV hZ.1 (q13_ok hZ 200 1 _ _ rfl) (Nat.le_of_ble_eq_true rfl) vy_X13_judge zcl13 zw3398 zw274 (Or.inl zw3396) dX13_judgeOther_223 ?_
  refine s_pop2L hZ.1 dX13_judgeOther_226 ?_
  refine s_aload_n hZ.1 dX13_judgeOther_227 rfl ?_
  refine yg13_70 dX13_judgeOther_228 zw4191 ?_
  refine s_aload_n hZ.1 dX13_judgeOther_231 rfl ?_
  refine yg13_77 dX13_judgeOther_232 zw4198 ?_
  refine s_iload_n hZ.1 dX13_judgeOther_235 rfl ?_
  refine s_iald (tt := 0) rfl dX13_judgeOther_236 ?_
  refine s_iald (tt := 0) rfl dX13_judgeOther_237 ?_
  refine s_istore_n hZ.1 dX13_judgeOther_238 rfl (Nat.le_of_ble_eq_true rfl) ?_
  refine s_aload_n hZ.1 dX13_judgeOther_239 rfl ?_
  refine yg13_20 dX13_judgeOther_240 zw4141 ?_
  exact s_if_ne dX13_judgeOther_243 (by decide) (wX13_judgeOther_301 hZ) (wX13_judgeOther_246 hZ)
noncomputable def vX13_judgeOther_213 : rx_K := vX13_judgeOther_301
set_option maxRecDepth 20000 in
theorem wX13_judgeOther_213 (hZ : zO b e D A X) : rx_OK (zV b e D A X) mX13_judgeOther 374 213 vX13_judgeOther_213 := by
  unfold vX13_judgeOther_213
  exact s_goto dX13_judgeOther_213 (by decide) (wX13_judgeOther_301 hZ)
noncomputable def vX13_judgeOther_207 : rx_K := o_ld rx_isR 0 (o_ld rx_isI 1 (o_ld rx_isI 3 (o_callV 2 13 FX13_keepParams (vX13_judgeOther_213))))
set_option maxRecDepth 20000 in
theorem wX13_judgeOther_207 (hZ : zO b e D A X) : rx_OK (zV b e D A X) mX13_judgeOther 374 207 vX13_judgeOther_207 := by
  unfold vX13_judgeOther_207
  refine s_aload_n hZ.1 dX13_judgeOther_207 rfl ?_
  refine s_iload_n hZ.1 dX13_judgeOther_208 rfl ?_
  refine s_iload_n hZ.1 dX13_judgeOther_209 rfl ?_
  refine s_callV hZ.1 (Met_X13_keepParams hZ) (Nat.le_of_ble_eq_true rfl) vy_X13_keepParams zcl13 zw3442 zw285 (Or.inl zw3440) dX13_judgeOther_210 ?_
  exact (wX13_judgeOther_213 hZ)
noncomputable def vX13_judgeOther_192 : rx_K := o_ld rx_isR 0 (o_const 144 (o_ld rx_isR 0 (o_getf 13 71 (o_ld rx_isI 1 (o_ald 0 (o_callV 2 13 FX13_fault (vX13_judgeOther_213)))))))
set_option maxRecDepth 20000 in
theorem wX13_judgeOther_192 (hZ : zO b e D A X) : rx_OK (zV b e D A X) mX13_judgeOther 374 192 vX13_judgeOther_192 := by
  unfold vX13_judgeOther_192
  refine s_aload_n hZ.1 dX13_judgeOther_192 rfl ?_
  refine s_bipush dX13_judgeOther_193 (by decide +kernel) ?_
  refine s_aload_n hZ.1 dX13_judgeOther_195 rfl ?_
  refine yg13_71 dX13_judgeOther_196 zw4192 ?_
  refine s_iload_n hZ.1 dX13_judgeOther_199 rfl ?_
  refine s_iald (tt := 0) rfl dX13_judgeOther_200 ?_
  refine s_callV hZ.1 (Met_X13_fault hZ) (Nat.le_of_ble_eq_true rfl) vy_X13_fault zcl13 zw3004 zw190 (Or.inl zw3002) dX13_judgeOther_201 ?_
  exact s_goto dX13_judgeOther_204 (by decide) (wX13_judgeOther_213 hZ)
noncomputable def vX13_judgeOther_185 : rx_K := o_st rx_isI 3 (o_ld rx_isI 3 (o_const 34359738352 (o_c2 rx_eq vX13_judgeOther_192 vX13_judgeOther_207)))
set_option maxRecDepth 20000 in
theorem wX13_judgeOther_185 (hZ : zO b e D A X) : rx_OK (zV b e D A X) mX13_judgeOther 374 185 vX13_judgeOther_185 := by
  unfold vX13_judgeOther_185
  refine s_istore_n hZ.1 dX13_judgeOther_185 rfl (Nat.le_of_ble_eq_true rfl) ?_
  refine s_iload_n hZ.1 dX13_judgeOther_186 rfl ?_
  refine s_bipush dX13_judgeOther_187 (by decide +kernel) ?_
  exact s_icmp_ne dX13_judgeOther_189 (by decide) (wX13_judgeOther_207 hZ) (wX13_judgeOther_192 hZ)
noncomputable def vX13_judgeOther_183 : rx_K := o_const 34359738352 (vX13_judgeOther_185)
set_option maxRecDepth 20000 in
theorem wX13_judgeOther_183 (hZ : zO b e D A X) : rx_OK (zV b e D A X) mX13_judgeOther 374 183 vX13_judgeOther_183 := by
  unfold vX13_judgeOther_183
  refine s_bipush dX13_judgeOther_183 (by decide +kernel) ?_
  exact (wX13_judgeOther_185 hZ)
noncomputable def vX13_judgeOther_162 : rx_K := o_ld rx_isR 0 (o_ld rx_isR 0 (o_ld rx_isR 0 (o_getf 13 109 (o_callV 1 13 FX13_parent (o_ld rx_isR 0 (o_getf 13 77 (o_ld rx_isI 1 (o_ald 0 (o_callV 2 13 FX13_meantMaker (vX13_judgeOther_185))))))))))
set_option maxRecDepth 20000 in
theorem wX13_judgeOther_162 (hZ : zO b e D A X) : rx_OK (zV b e D A X) mX13_judgeOther 374 162 vX13_judgeOther_162 := by
  unfold vX13_judgeOther_162
  refine s_aload_n hZ.1 dX13_judgeOther_162 rfl ?_
  refine s_aload_n hZ.1 dX13_judgeOther_163 rfl ?_
  refine s_aload_n hZ.1 dX13_judgeOther_164 rfl ?_
  refine yg13_109 dX13_judgeOther_165 zw4229 ?_
  refine s_callV hZ.1 (Met_X13_parent hZ) (Nat.le_of_ble_eq_true rfl) vy_X13_parent zcl13 zw3220 zw233 (Or.inl zw3218) dX13_judgeOther_168 ?_
  refine s_aload_n hZ.1 dX13_judgeOther_171 rfl ?_
  refine yg13_77 dX13_judgeOther_172 zw4198 ?_
  refine s_iload_n hZ.1 dX13_judgeOther_175 rfl ?_
  refine s_iald (tt := 0) rfl dX13_judgeOther_176 ?_
  refine s_callV hZ.1 (Met_X13_meantMaker hZ) (Nat.le_of_ble_eq_true rfl) vy_X13_meantMaker zcl13 zw3454 zw288 (Or.inl zw3452) dX13_judgeOther_177 ?_
  exact s_goto dX13_judgeOther_180 (by decide) (wX13_judgeOther_185 hZ)
noncomputable def vX13_judgeOther_157 : rx_K := o_st rx_isI 2 (o_ld rx_isI 2 (o_c1 rx_eq vX13_judgeOther_183 vX13_judgeOther_162))
set_option maxRecDepth 20000 in
theorem wX13_judgeOther_157 (hZ : zO b e D A X) : rx_OK (zV b e D A X) mX13_judgeOther 374 157 vX13_judgeOther_157 := by
  unfold vX13_judgeOther_157
  refine s_istore_n hZ.1 dX13_judgeOther_157 rfl (Nat.le_of_ble_eq_true rfl) ?_
  refine s_iload_n hZ.1 dX13_judgeOther_158 rfl ?_
  exact s_if_eq dX13_judgeOther_159 (by decide) (wX13_judgeOther_183 hZ) (wX13_judgeOther_162 hZ)
noncomputable def vX13_judgeOther_156 : rx_K := o_const 0 (vX13_judgeOther_157)
set_option maxRecDepth 20000 in
theorem wX13_judgeOther_156 (hZ : zO b e D A X) : rx_OK (zV b e D A X) mX13_judgeOther 374 156 vX13_judgeOther_156 := by
  unfold vX13_judgeOther_156
  refine s_iconst dX13_judgeOther_156 (by decide +kernel) ?_
  exact (wX13_judgeOther_157 hZ)
noncomputable def vX13_judgeOther_152 : rx_K := o_const 8 (vX13_judgeOther_157)
set_option maxRecDepth 20000 in
theorem wX13_judgeOther_152 (hZ : zO b e D A X) : rx_OK (zV b e D A X) mX13_judgeOther 374 152 vX13_judgeOther_152 := by
  unfold vX13_judgeOther_152
  refine s_iconst dX13_judgeOther_152 (by decide +kernel) ?_
  exact s_goto dX13_judgeOther_153 (by decide) (wX13_judgeOther_157 hZ)
noncomputable def vX13_judgeOther_134 : rx_K := o_ld rx_isR 0 (o_getf 13 77 (o_ld rx_isR 0 (o_getf 13 61 (o_ld rx_isR 0 (o_getf 13 110 (o_ald 0 (o_ald 0 (o_ld rx_isI 1 (o_c2 rx_eq vX13_judgeOther_152 vX13_judgeOther_156)))))))))
set_option maxRecDepth 20000 in
theorem wX13_judgeOther_134 (hZ : zO b e D A X) : rx_OK (zV b e D A X) mX13_judgeOther 374 134 vX13_judgeOther_134 := by
  unfold vX13_judgeOther_134
  refine s_aload_n hZ.1 dX13_judgeOther_134 rfl ?_
  refine yg13_77 dX13_judgeOther_135 zw4198 ?_
  refine s_aload_n hZ.1 dX13_judgeOther_138 rfl ?_
  refine yg13_61 dX13_judgeOther_139 zw4182 ?_
  refine s_aload_n hZ.1 dX13_judgeOther_142 rfl ?_
  refine yg13_110 dX13_judgeOther_143 zw4230 ?_
  refine s_iald (tt := 0) rfl dX13_judgeOther_146 ?_
  refine s_iald (tt := 0) rfl dX13_judgeOther_147 ?_
  refine s_iload_n hZ.1 dX13_judgeOther_148 rfl ?_
  exact s_icmp_ne dX13_judgeOther_149 (by decide) (wX13_judgeOther_156 hZ) (wX13_judgeOther_152 hZ)
noncomputable def vX13_judgeOther_121 : rx_K := o_ld rx_isR 0 (o_getf 13 42 (o_ld rx_isR 0 (o_getf 13 110 (o_ald 0 (o_const 16 (o_c2 rx_eq vX13_judgeOther_134 vX13_judgeOther_156))))))
set_option maxRecDepth 20000 in
theorem wX13_judgeOther_121 (hZ : zO b e D A X) : rx_OK (zV b e D A X) mX13_judgeOther 374 121 vX13_judgeOther_121 := by
  unfold vX13_judgeOther_121
  refine s_aload_n hZ.1 dX13_judgeOther_121 rfl ?_
  refine yg13_42 dX13_judgeOther_122 zw4163 ?_
  refine s_aload_n hZ.1 dX13_judgeOther_125 rfl ?_
  refine yg13_110 dX13_judgeOther_126 zw4230 ?_
  refine s_iald (tt := 0) rfl dX13_judgeOther_129 ?_
  refine s_iconst dX13_judgeOther_130 (by decide +kernel) ?_
  exact s_icmp_ne dX13_judgeOther_131 (by decide) (wX13_judgeOther_156 hZ) (wX13_judgeOther_134 hZ)
noncomputable def vX13_judgeOther_104 : rx_K := o_ld rx_isR 0 (o_ld rx_isR 0 (o_getf 13 77 (o_ld rx_isI 1 (o_ald 0 (o_callV 1 13 (q13 200 0) (o_ld rx_isR 0 (o_getf 13 20 (o_c1 rx_eq vX13_judgeOther_121 vX13_judgeOther_301))))))))
set_option maxRecDepth 20000 in
theorem wX13_judgeOther_104 (hZ : zO b e D A X) : rx_OK (zV b e D A X) mX13_judgeOther 374 104 vX13_judgeOther_104 := by
  unfold vX13_judgeOther_104
  refine s_aload_n hZ.1 dX13_judgeOther_104 rfl ?_
  refine s_aload_n hZ.1 dX13_judgeOther_105 rfl ?_
  refine yg13_77 dX13_judgeOther_106 zw4198 ?_
  refine s_iload_n hZ.1 dX13_judgeOther_109 rfl ?_
  refine s_iald (tt := 0) rfl dX13_judgeOther_110 ?_
  refine s_callV hZ.1 (q13_ok hZ 200 0 _ _ rfl) (Nat.le_of_ble_eq_true rfl) vy_X13_args zcl13 zw3414 zw278 (Or.inl zw3412) dX13_judgeOther_111 ?_
  refine s_aload_n hZ.1 dX13_judgeOther_114 rfl ?_
  refine yg13_20 dX13_judgeOther_115 zw4141 ?_
  exact s_if_ne dX13_judgeOther_118 (by decide) (wX13_judgeOther_301 hZ) (wX13_judgeOther_121 hZ)
noncomputable def vX13_judgeOther_78 : rx_K := o_ld rx_isR 0 (o_ld rx_isR 0 (o_getf 13 77 (o_ld rx_isI 1 (o_ald 0 (o_ld rx_isR 0 (o_ld rx_isR 0 (o_getf 13 77 (o_ld rx_isI 1 (o_ald 0 (o_callV 1 13 (q13 200 1) (o_const 17 (o_callV 3 13 FX13_wanted (vX13_judgeOther_301)))))))))))))
set_option maxRecDepth 20000 in
theorem wX13_judgeOther_78 (hZ : zO b e D A X) : rx_OK (zV b e D A X) mX13_judgeOther 374 78 vX13_judgeOther_78 := by
  unfold vX13_judgeOther_78
  refine s_aload_n hZ.1 dX13_judgeOther_78 rfl ?_
  refine s_aload_n hZ.1 dX13_judgeOther_79 rfl ?_
  refine yg13_77 dX13_judgeOther_80 zw4198 ?_
  refine s_iload_n hZ.1 dX13_judgeOther_83 rfl ?_
  refine s_iald (tt := 0) rfl dX13_judgeOther_84 ?_
  refine s_aload_n hZ.1 dX13_judgeOther_85 rfl ?_
  refine s_aload_n hZ.1 dX13_judgeOther_86 rfl ?_
  refine yg13_77 dX13_judgeOther_87 zw4198 ?_
  refine s_iload_n hZ.1 dX13_judgeOther_90 rfl ?_
  refine s_iald (tt := 0) rfl dX13_judgeOther_91 ?_
  refine s_callV hZ.1 (q13_ok hZ 200 1 _ _ rfl) (Nat.le_of_ble_eq_true rfl) vy_X13_judge zcl13 zw3398 zw274 (Or.inl zw3396) dX13_judgeOther_92 ?_
  refine s_ldc2 dX13_judgeOther_95 zw3066 (by decide +kernel) ?_
  refine s_callV hZ.1 (Met_X13_wanted hZ) (Nat.le_of_ble_eq_true rfl) vy_X13_wanted zcl13 zw3473 zw292 (Or.inl zw3471) dX13_judgeOther_98 ?_
  exact s_goto dX13_judgeOther_101 (by decide) (wX13_judgeOther_301 hZ)
noncomputable def vX13_judgeOther_52 : rx_K := o_ld rx_isR 0 (o_ld rx_isR 0 (o_getf 13 77 (o_ld rx_isI 1 (o_ald 0 (o_ld rx_isR 0 (o_ld rx_isR 0 (o_getf 13 77 (o_ld rx_isI 1 (o_ald 0 (o_callV 1 13 (q13 200 1) (o_const 18446744073765230689 (o_callV 3 13 FX13_wanted (vX13_judgeOther_301)))))))))))))
set_option maxRecDepth 20000 in
theorem wX13_judgeOther_52 (hZ : zO b e D A X) : rx_OK (zV b e D A X) mX13_judgeOther 374 52 vX13_judgeOther_52 := by
  unfold vX13_judgeOther_52
  refine s_aload_n hZ.1 dX13_judgeOther_52 rfl ?_
  refine s_aload_n hZ.1 dX13_judgeOther_53 rfl ?_
  refine yg13_77 dX13_judgeOther_54 zw4198 ?_
  refine s_iload_n hZ.1 dX13_judgeOther_57 rfl ?_
  refine s_iald (tt := 0) rfl dX13_judgeOther_58 ?_
  refine s_aload_n hZ.1 dX13_judgeOther_59 rfl ?_
  refine s_aload_n hZ.1 dX13_judgeOther_60 rfl ?_
  refine yg13_77 dX13_judgeOther_61 zw4198 ?_
  refine s_iload_n hZ.1 dX13_judgeOther_64 rfl ?_
  refine s_iald (tt := 0) rfl dX13_judgeOther_65 ?_
  refine s_callV hZ.1 (q13_ok hZ 200 1 _ _ rfl) (Nat.le_of_ble_eq_true rfl) vy_X13_judge zcl13 zw3398 zw274 (Or.inl zw3396) dX13_judgeOther_66 ?_
  refine s_ldc2 dX13_judgeOther_69 zw3189 (by decide +kernel) ?_
  refine s_callV hZ.1 (Met_X13_wanted hZ) (Nat.le_of_ble_eq_true rfl) vy_X13_wanted zcl13 zw3473 zw292 (Or.inl zw3471) dX13_judgeOther_72 ?_
  exact s_goto dX13_judgeOther_75 (by decide) (wX13_judgeOther_301 hZ)
noncomputable def vX13_judgeOther_44 : rx_K := o_ld rx_isR 0 (o_ld rx_isI 1 (o_callV 1 13 FX13_judgeReturn (vX13_judgeOther_301)))
set_option maxRecDepth 20000 in
theorem wX13_judgeOther_44 (hZ : zO b e D A X) : rx_OK (zV b e D A X) mX13_judgeOther 374 44 vX13_judgeOther_44 := by
  unfold vX13_judgeOther_44
  refine s_aload_n hZ.1 dX13_judgeOther_44 rfl ?_
  refine s_iload_n hZ.1 dX13_judgeOther_45 rfl ?_
  refine s_callV hZ.1 (Met_X13_judgeReturn hZ) (Nat.le_of_ble_eq_true rfl) vy_X13_judgeReturn zcl13 zw3493 zw297 (Or.inl zw3491) dX13_judgeOther_46 ?_
  exact s_goto dX13_judgeOther_49 (by decide) (wX13_judgeOther_301 hZ)
noncomputable def vX13_judgeOther_0 : rx_K := o_ld rx_isR 0 (o_getf 13 70 (o_ld rx_isI 1 (o_ald 0 (o_sw 24 [44, 52, 296, 78, 104, 216] 296 (rx_pk [(44, vX13_judgeOther_44), (52, vX13_judgeOther_52), (78, vX13_judgeOther_78), (104, vX13_judgeOther_104), (216, vX13_judgeOther_216), (296, vX13_judgeOther_296)])))))
set_option maxRecDepth 20000 in
theorem wX13_judgeOther_0 (hZ : zO b e D A X) : rx_OK (zV b e D A X) mX13_judgeOther 374 0 vX13_judgeOther_0 := by
  unfold vX13_judgeOther_0
  refine s_aload_n hZ.1 dX13_judgeOther_0 rfl ?_
  refine yg13_70 dX13_judgeOther_1 zw4191 ?_
  refine s_iload_n hZ.1 dX13_judgeOther_4 rfl ?_
  refine s_iald (tt := 0) rfl dX13_judgeOther_5 ?_
  exact s_sw dX13_judgeOther_6 (by decide) (by decide) (by decide) (by decide) (by decide) (fun b _ => (rx_pk_ok (List.forall_mem_cons.mpr ⟨(wX13_judgeOther_44 hZ), List.forall_mem_cons.mpr ⟨(wX13_judgeOther_52 hZ), List.forall_mem_cons.mpr ⟨(wX13_judgeOther_78 hZ), List.forall_mem_cons.mpr ⟨(wX13_judgeOther_104 hZ), List.forall_mem_cons.mpr ⟨(wX13_judgeOther_216 hZ), List.forall_mem_cons.mpr ⟨(wX13_judgeOther_296 hZ), fun _ h => absurd h List.not_mem_nil⟩⟩⟩⟩⟩⟩)) b)
noncomputable def FX13_judgeOther : List Nat → rx_H → Option (Nat × rx_H) := rx_ent 4 vX13_judgeOther_0
theorem Met_X13_judgeOther (hZ : zO b e D A X) : rx_Met (zV b e D A X) 374 yX13_judgeOther mX13_judgeOther (FX13_judgeOther) := rx_entry hZ.1 (wX13_judgeOther_0 hZ) (by decide +kernel) rfl (fun h => by cases h)
abbrev mX13_local : rx_M := (RX13, cX13_local, 7, none, false)
theorem vy_X13_local : rx_Y (zV b e D A X) yX13_local mX13_local 3 := ⟨zw3478, zw431, by decide, by decide +kernel, by decide +kernel, by decide +kernel⟩
noncomputable def vX13_local_108 (j : Nat → rx_K) : rx_K := o_ast 0 (fun v => v) rx_isI (o_ret0)
set_option maxRecDepth 20000 in
theorem wX13_local_108 (hZ : zO b e D A X) (j : Nat → rx_K) (hj : ∀ k pc, [3][k]? = some pc → rx_OK (zV b e D A X) mX13_local 1 pc (j k)) : rx_OK (zV b e D A X) mX13_local 1 108 (vX13_local_108 j) := by
  unfold vX13_local_108
  refine s_iast hZ.1 (tt := 0) rfl dX13_local_108 ?_
  exact s_vret rfl dX13_local_109
noncomputable def vX13_local_99 (j : Nat → rx_K) : rx_K := o_ld rx_isR 0 (o_getf 13 68 (o_ld rx_isR 0 (o_getf 13 110 (o_ald 0 ((vX13_local_108 j))))))
set_option maxRecDepth 20000 in
theorem wX13_local_99 (hZ : zO b e D A X) (j : Nat → rx_K) (hj : ∀ k pc, [3][k]? = some pc → rx_OK (zV b e D A X) mX13_local 1 pc (j k)) : rx_OK (zV b e D A X) mX13_local 1 99 (vX13_local_99 j) := by
  unfold vX13_local_99
  refine s_aload_n hZ.1 dX13_local_99 rfl ?_
  refine yg13_68 dX13_local_100 zw4189 ?_
  refine s_aload_n hZ.1 dX13_local_103 rfl ?_
  refine yg13_110 dX13_local_104 zw4230 ?_
  refine s_iald (tt := 0) rfl dX13_local_107 ?_
  exact (wX13_local_108 hZ j hj)
noncomputable def vX13_local_92 (j : Nat → rx_K) : rx_K := o_ld rx_isR 0 (o_getf 13 114 ((vX13_local_108 j)))
set_option maxRecDepth 20000 in
theorem wX13_local_92 (hZ : zO b e D A X) (j : Nat → rx_K) (hj : ∀ k pc, [3][k]? = some pc → rx_OK (zV b e D A X) mX13_local 1 pc (j k)) : rx_OK (zV b e D A X) mX13_local 1 92 (vX13_local_92 j) := by
  unfold vX13_local_92
  refine s_aload_n hZ.1 dX13_local_92 rfl ?_
  refine yg13_114 dX13_local_93 zw4234 ?_
  exact s_goto dX13_local_96 (by decide) (wX13_local_108 hZ j hj)
noncomputable def vX13_local_80 (j : Nat → rx_K) : rx_K := o_ld rx_isR 0 (o_getf 13 110 (o_ald 0 (o_ld rx_isR 0 (o_getf 13 114 (o_c2 rx_lt (vX13_local_92 j) (vX13_local_99 j))))))
set_option maxRecDepth 20000 in
theorem wX13_local_80 (hZ : zO b e D A X) (j : Nat → rx_K) (hj : ∀ k pc, [3][k]? = some pc → rx_OK (zV b e D A X) mX13_local 1 pc (j k)) : rx_OK (zV b e D A X) mX13_local 1 80 (vX13_local_80 j) := by
  unfold vX13_local_80
  refine s_aload_n hZ.1 dX13_local_80 rfl ?_
  refine yg13_110 dX13_local_81 zw4230 ?_
  refine s_iald (tt := 0) rfl dX13_local_84 ?_
  refine s_aload_n hZ.1 dX13_local_85 rfl ?_
  refine yg13_114 dX13_local_86 zw4234 ?_
  exact s_icmp_ge dX13_local_89 (by decide) (wX13_local_99 hZ j hj) (wX13_local_92 hZ j hj)
noncomputable def vX13_local_38 (j : Nat → rx_K) : rx_K := o_ld rx_isR 0 (o_getf 13 112 (o_ld rx_isR 0 (o_getf 13 114 (o_ld rx_isL 1 (o_ast 1 (fun v => v) rx_isL (o_ld rx_isR 0 (o_getf 13 113 (o_ld rx_isR 0 (o_getf 13 114 (o_ld rx_isL 3 (o_ast 1 (fun v => v) rx_isL (o_ld rx_isR 0 (o_dup (o_getf 13 114 (o_const 8 (o_bi (fun x y => x + y) (o_putf rx_isI 13 114 (o_ld rx_isR 0 (o_getf 13 68 (o_ld rx_isR 0 (o_getf 13 110 (o_ld rx_isR 0 (o_getf 13 68 ((vX13_local_80 j)))))))))))))))))))))))))
set_option maxRecDepth 20000 in
theorem wX13_local_38 (hZ : zO b e D A X) (j : Nat → rx_K) (hj : ∀ k pc, [3][k]? = some pc → rx_OK (zV b e D A X) mX13_local 1 pc (j k)) : rx_OK (zV b e D A X) mX13_local 1 38 (vX13_local_38 j) := by
  unfold vX13_local_38
  refine s_aload_n hZ.1 dX13_local_38 rfl ?_
  refine yg13_112 dX13_local_39 zw4232 ?_
  refine s_aload_n hZ.1 dX13_local_42 rfl ?_
  refine yg13_114 dX13_local_43 zw4234 ?_
  refine s_lload_n hZ.1 dX13_local_46 rfl ?_
  refine s_last (tt := 1) rfl dX13_local_47 ?_
  refine s_aload_n hZ.1 dX13_local_48 rfl ?_
  refine yg13_113 dX13_local_49 zw4233 ?_
  refine s_aload_n hZ.1 dX13_local_52 rfl ?_
  refine yg13_114 dX13_local_53 zw4234 ?_
  refine s_lload_n hZ.1 dX13_local_56 rfl ?_
  refine s_last (tt := 1) rfl dX13_local_57 ?_
  refine s_aload_n hZ.1 dX13_local_58 rfl ?_
  refine s_dup hZ.1 dX13_local_59 ?_
  refine yg13_114 dX13_local_60 zw4234 ?_
  refine s_iconst dX13_local_63 (by decide +kernel) ?_
  refine s_iadd dX13_local_64 ?_
  refine yp13_114 hZ.1 dX13_local_65 zw4234 ?_
  refine s_aload_n hZ.1 dX13_local_68 rfl ?_
  refine yg13_68 dX13_local_69 zw4189 ?_
  refine s_aload_n hZ.1 dX13_local_72 rfl ?_
  refine yg13_110 dX13_local_73 zw4230 ?_
  refine s_aload_n hZ.1 dX13_local_76 rfl ?_
  refine yg13_68 dX13_local_77 zw4189 ?_
  exact (wX13_local_80 hZ j hj)
noncomputable def vX13_local_32 (j : Nat → rx_K) : rx_K := o_inc 6 (1) ((j 0))
set_option maxRecDepth 20000 in
theorem wX13_local_32 (hZ : zO b e D A X) (j : Nat → rx_K) (hj : ∀ k pc, [3][k]? = some pc → rx_OK (zV b e D A X) mX13_local 1 pc (j k)) : rx_OK (zV b e D A X) mX13_local 1 32 (vX13_local_32 j) := by
  unfold vX13_local_32
  refine s_iinc hZ.1 dX13_local_32 (Nat.le_of_ble_eq_true rfl) ?_
  exact s_goto dX13_local_35 (by decide) (hj 0 3 rfl)
noncomputable def vX13_local_24 (j : Nat → rx_K) : rx_K := o_ld rx_isR 0 (o_const 128 (o_ld rx_isI 5 (o_callV 2 13 FX13_fault ((vX13_local_32 j)))))
set_option maxRecDepth 20000 in
theorem wX13_local_24 (hZ : zO b e D A X) (j : Nat → rx_K) (hj : ∀ k pc, [3][k]? = some pc → rx_OK (zV b e D A X) mX13_local 1 pc (j k)) : rx_OK (zV b e D A X) mX13_local 1 24 (vX13_local_24 j) := by
  unfold vX13_local_24
  refine s_aload_n hZ.1 dX13_local_24 rfl ?_
  refine s_bipush dX13_local_25 (by decide +kernel) ?_
  refine s_iload hZ.1 dX13_local_27 ?_
  refine s_callV hZ.1 (Met_X13_fault hZ) (Nat.le_of_ble_eq_true rfl) vy_X13_fault zcl13 zw3004 zw190 (Or.inl zw3002) dX13_local_29 ?_
  exact (wX13_local_32 hZ j hj)
noncomputable def vX13_local_12 (j : Nat → rx_K) : rx_K := o_ld rx_isR 0 (o_getf 13 112 (o_ld rx_isI 6 (o_ald 1 (o_ld rx_isL 1 (o_bc (fun x y => lg_cmp x y) (o_c1 rx_eq (vX13_local_24 j) (vX13_local_32 j)))))))
set_option maxRecDepth 20000 in
theorem wX13_local_12 (hZ : zO b e D A X) (j : Nat → rx_K) (hj : ∀ k pc, [3][k]? = some pc → rx_OK (zV b e D A X) mX13_local 1 pc (j k)) : rx_OK (zV b e D A X) mX13_local 1 12 (vX13_local_12 j) := by
  unfold vX13_local_12
  refine s_aload_n hZ.1 dX13_local_12 rfl ?_
  refine yg13_112 dX13_local_13 zw4232 ?_
  refine s_iload hZ.1 dX13_local_16 ?_
  refine s_lald (tt := 1) rfl dX13_local_18 ?_
  refine s_lload_n hZ.1 dX13_local_19 rfl ?_
  refine s_lcmp dX13_local_20 ?_
  exact s_if_ne dX13_local_21 (by decide) (wX13_local_32 hZ j hj) (wX13_local_24 hZ j hj)
noncomputable def vX13_local_3 (j : Nat → rx_K) : rx_K := o_ld rx_isI 6 (o_ld rx_isR 0 (o_getf 13 114 (o_c2 rx_lt (vX13_local_12 j) (vX13_local_38 j))))
set_option maxRecDepth 20000 in
theorem wX13_local_3 (hZ : zO b e D A X) (j : Nat → rx_K) (hj : ∀ k pc, [3][k]? = some pc → rx_OK (zV b e D A X) mX13_local 1 pc (j k)) : rx_OK (zV b e D A X) mX13_local 1 3 (vX13_local_3 j) := by
  unfold vX13_local_3
  refine s_iload hZ.1 dX13_local_3 ?_
  refine s_aload_n hZ.1 dX13_local_5 rfl ?_
  refine yg13_114 dX13_local_6 zw4234 ?_
  exact s_icmp_ge dX13_local_9 (by decide) (wX13_local_38 hZ j hj) (wX13_local_12 hZ j hj)
noncomputable def vX13_local_0 (j : Nat → rx_K) : rx_K := o_const 0 (o_st rx_isI 6 ((vX13_local_3 j)))
set_option maxRecDepth 20000 in
theorem wX13_local_0 (hZ : zO b e D A X) (j : Nat → rx_K) (hj : ∀ k pc, [3][k]? = some pc → rx_OK (zV b e D A X) mX13_local 1 pc (j k)) : rx_OK (zV b e D A X) mX13_local 1 0 (vX13_local_0 j) := by
  unfold vX13_local_0
  refine s_iconst dX13_local_0 (by decide +kernel) ?_
  refine s_istore hZ.1 dX13_local_1 (Nat.le_of_ble_eq_true rfl) ?_
  exact (wX13_local_3 hZ j hj)
noncomputable def vhX13_local (j : Nat → rx_K) : List rx_K := [vX13_local_3 j]
theorem vlX13_local (hZ : zO b e D A X) : ∀ n k pc, [3][k]? = some pc → rx_OK (zV b e D A X) mX13_local 1 pc (rx_J (vhX13_local) n k) := rx_loop fun j hj k pc h => by
  match k, h with
  | 0, h =>
    have e9 := Option.some.inj (show some 3 = some pc from h)
    subst e9
    exact wX13_local_3 hZ j hj
  | _ + 1, h => exact absurd h (by simp)
noncomputable def FX13_local : List Nat → rx_H → Option (Nat × rx_H) := rx_ent 7 (vX13_local_0 (rx_J (vhX13_local) 4000000000))
theorem Met_X13_local (hZ : zO b e D A X) : rx_Met (zV b e D A X) 1 yX13_local mX13_local (FX13_local) := rx_entry hZ.1 (wX13_local_0 hZ _ (vlX13_local hZ 4000000000)) (by decide +kernel) rfl (fun h => by cases h)
abbrev mX13_judgeS : rx_M := (RX13, cX13_judgeS, 4, none, false)
theorem vy_X13_judgeS : rx_Y (zV b e D A X) yX13_judgeS mX13_judgeS 1 := ⟨zw3486, zw431, by decide, by decide +kernel, by decide +kernel, by decide +kernel⟩
abbrev vl14 : List (MethodName × rx_M) := [(yX13_judgeS, mX13_judgeS)]
end ZM54

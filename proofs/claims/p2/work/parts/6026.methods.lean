section ZM26
variable {b : Nat} {e : Nat → Value} {D : va_G} {A : Nat → ClassId} {X : State → Prop}
noncomputable def vX9_statement_173 (g : Nat → List Nat → rx_H → Option (Nat × rx_H)) : rx_K := o_ld rx_isR 0 (o_ld rx_isI 2 (o_ld rx_isI 1 (o_const 8 (o_bi (fun x y => x + y) (o_callV 2 9 (g 4) (o_ret1 rx_isR))))))
set_option maxRecDepth 20000 in
theorem wX9_statement_173 {dn : Nat} {g : Nat → List Nat → rx_H → Option (Nat × rx_H)} (hZ : zO b e D A X) (hg : ∀ i y M, vl7[i]? = some (y, M) → rx_Met (zV b e D A X) dn y M (g i)) (hd : 204 ≤ dn) : rx_OK (zV b e D A X) mX9_statement (dn + 1) 173 (vX9_statement_173 g) := by
  unfold vX9_statement_173
  refine s_aload_n hZ.1 dX9_statement_173 rfl ?_
  refine s_iload_n hZ.1 dX9_statement_174 rfl ?_
  refine s_iload_n hZ.1 dX9_statement_175 rfl ?_
  refine s_iconst dX9_statement_176 (by decide +kernel) ?_
  refine s_iadd dX9_statement_177 ?_
  refine s_callV hZ.1 (hg 4 _ _ rfl) (Nat.le_refl _) vy_X9_worded zcl9 zw1874 zw38 (Or.inl zw1872) dX9_statement_178 ?_
  exact s_aret hZ.1 rfl (Or.inl ⟨_, rfl⟩) dX9_statement_181
noncomputable def vX9_statement_165 (g : Nat → List Nat → rx_H → Option (Nat × rx_H)) : rx_K := o_ld rx_isR 0 (o_ld rx_isI 1 (o_const 8 (o_bi (fun x y => x + y) (o_callV 1 9 FX9_simple (o_ret1 rx_isR)))))
set_option maxRecDepth 20000 in
theorem wX9_statement_165 {dn : Nat} {g : Nat → List Nat → rx_H → Option (Nat × rx_H)} (hZ : zO b e D A X) (hg : ∀ i y M, vl7[i]? = some (y, M) → rx_Met (zV b e D A X) dn y M (g i)) (hd : 204 ≤ dn) : rx_OK (zV b e D A X) mX9_statement (dn + 1) 165 (vX9_statement_165 g) := by
  unfold vX9_statement_165
  refine s_aload_n hZ.1 dX9_statement_165 rfl ?_
  refine s_iload_n hZ.1 dX9_statement_166 rfl ?_
  refine s_iconst dX9_statement_167 (by decide +kernel) ?_
  refine s_iadd dX9_statement_168 ?_
  refine s_callV hZ.1 (Met_X9_simple hZ) (Nat.succ_le_succ (Nat.le_trans (Nat.le_of_ble_eq_true rfl) hd)) vy_X9_simple zcl9 zw1870 zw37 (Or.inl zw1868) dX9_statement_169 ?_
  exact s_aret hZ.1 rfl (Or.inl ⟨_, rfl⟩) dX9_statement_172
noncomputable def vX9_statement_161 (g : Nat → List Nat → rx_H → Option (Nat × rx_H)) : rx_K := o_ld rx_isI 3 (o_c1 rx_eq (vX9_statement_173 g) (vX9_statement_165 g))
set_option maxRecDepth 20000 in
theorem wX9_statement_161 {dn : Nat} {g : Nat → List Nat → rx_H → Option (Nat × rx_H)} (hZ : zO b e D A X) (hg : ∀ i y M, vl7[i]? = some (y, M) → rx_Met (zV b e D A X) dn y M (g i)) (hd : 204 ≤ dn) : rx_OK (zV b e D A X) mX9_statement (dn + 1) 161 (vX9_statement_161 g) := by
  unfold vX9_statement_161
  refine s_iload_n hZ.1 dX9_statement_161 rfl ?_
  exact s_if_eq dX9_statement_162 (by decide) (wX9_statement_173 hZ hg hd) (wX9_statement_165 hZ hg hd)
noncomputable def vX9_statement_160 (g : Nat → List Nat → rx_H → Option (Nat × rx_H)) : rx_K := o_ret1 rx_isR
set_option maxRecDepth 20000 in
theorem wX9_statement_160 {dn : Nat} {g : Nat → List Nat → rx_H → Option (Nat × rx_H)} (hZ : zO b e D A X) (hg : ∀ i y M, vl7[i]? = some (y, M) → rx_Met (zV b e D A X) dn y M (g i)) (hd : 204 ≤ dn) : rx_OK (zV b e D A X) mX9_statement (dn + 1) 160 (vX9_statement_160 g) := by
  unfold vX9_statement_160
  exact s_aret hZ.1 rfl (Or.inl ⟨_, rfl⟩) dX9_statement_160
noncomputable def vX9_statement_159 (g : Nat → List Nat → rx_H → Option (Nat × rx_H)) : rx_K := o_const 3 ((vX9_statement_160 g))
set_option maxRecDepth 20000 in
theorem wX9_statement_159 {dn : Nat} {g : Nat → List Nat → rx_H → Option (Nat × rx_H)} (hZ : zO b e D A X) (hg : ∀ i y M, vl7[i]? = some (y, M) → rx_Met (zV b e D A X) dn y M (g i)) (hd : 204 ≤ dn) : rx_OK (zV b e D A X) mX9_statement (dn + 1) 159 (vX9_statement_159 g) := by
  unfold vX9_statement_159
  refine s_null dX9_statement_159 ?_
  exact (wX9_statement_160 hZ hg hd)
noncomputable def vX9_statement_154 (g : Nat → List Nat → rx_H → Option (Nat × rx_H)) : rx_K := o_ld rx_isR 4 ((vX9_statement_160 g))
set_option maxRecDepth 20000 in
theorem wX9_statement_154 {dn : Nat} {g : Nat → List Nat → rx_H → Option (Nat × rx_H)} (hZ : zO b e D A X) (hg : ∀ i y M, vl7[i]? = some (y, M) → rx_Met (zV b e D A X) dn y M (g i)) (hd : 204 ≤ dn) : rx_OK (zV b e D A X) mX9_statement (dn + 1) 154 (vX9_statement_154 g) := by
  unfold vX9_statement_154
  refine s_aload hZ.1 dX9_statement_154 ?_
  exact s_goto dX9_statement_156 (by decide) (wX9_statement_160 hZ hg hd)
noncomputable def vX9_statement_144 (g : Nat → List Nat → rx_H → Option (Nat × rx_H)) : rx_K := o_ld rx_isR 0 (o_const 1272 (o_callV 1 9 FX9_need (o_c1 rx_eq (vX9_statement_159 g) (vX9_statement_154 g))))
set_option maxRecDepth 20000 in
theorem wX9_statement_144 {dn : Nat} {g : Nat → List Nat → rx_H → Option (Nat × rx_H)} (hZ : zO b e D A X) (hg : ∀ i y M, vl7[i]? = some (y, M) → rx_Met (zV b e D A X) dn y M (g i)) (hd : 204 ≤ dn) : rx_OK (zV b e D A X) mX9_statement (dn + 1) 144 (vX9_statement_144 g) := by
  unfold vX9_statement_144
  refine s_aload_n hZ.1 dX9_statement_144 rfl ?_
  refine s_sipush dX9_statement_145 (by decide +kernel) ?_
  refine s_callV hZ.1 (Met_X9_need hZ) (Nat.succ_le_succ (Nat.le_trans (Nat.le_of_ble_eq_true rfl) hd)) vy_X9_need zcl9 zw1779 zw19 (Or.inl zw1777) dX9_statement_148 ?_
  exact s_if_eq dX9_statement_151 (by decide) (wX9_statement_159 hZ hg hd) (wX9_statement_154 hZ hg hd)
noncomputable def vX9_statement_132 (g : Nat → List Nat → rx_H → Option (Nat × rx_H)) : rx_K := o_ld rx_isR 0 (o_ld rx_isR 4 (o_ld rx_isI 1 (o_const 8 (o_bi (fun x y => x + y) (o_callV 2 9 (q6 200 0) (o_c1 rx_eq (vX9_statement_159 g) (vX9_statement_144 g)))))))
set_option maxRecDepth 20000 in
theorem wX9_statement_132 {dn : Nat} {g : Nat → List Nat → rx_H → Option (Nat × rx_H)} (hZ : zO b e D A X) (hg : ∀ i y M, vl7[i]? = some (y, M) → rx_Met (zV b e D A X) dn y M (g i)) (hd : 204 ≤ dn) : rx_OK (zV b e D A X) mX9_statement (dn + 1) 132 (vX9_statement_132 g) := by
  unfold vX9_statement_132
  refine s_aload_n hZ.1 dX9_statement_132 rfl ?_
  refine s_aload hZ.1 dX9_statement_133 ?_
  refine s_iload_n hZ.1 dX9_statement_135 rfl ?_
  refine s_iconst dX9_statement_136 (by decide +kernel) ?_
  refine s_iadd dX9_statement_137 ?_
  refine s_callV hZ.1 (q6_ok hZ 200 0 _ _ rfl) (Nat.succ_le_succ (Nat.le_trans (Nat.le_of_ble_eq_true rfl) hd)) vy_X9_args zcl9 zw1831 zw28 (Or.inl zw1829) dX9_statement_138 ?_
  exact s_if_eq dX9_statement_141 (by decide) (wX9_statement_159 hZ hg hd) (wX9_statement_144 hZ hg hd)
noncomputable def vX9_statement_113 (g : Nat → List Nat → rx_H → Option (Nat × rx_H)) : rx_K := o_ld rx_isR 0 (o_const 304 (o_ld rx_isR 0 (o_getf 9 8 (o_callV 2 9 FX9_node (o_st rx_isR 4 (o_ld rx_isR 0 (o_callV 0 9 FX9_take (o_c1 rx_eq (vX9_statement_159 g) (vX9_statement_132 g)))))))))
set_option maxRecDepth 20000 in
theorem wX9_statement_113 {dn : Nat} {g : Nat → List Nat → rx_H → Option (Nat × rx_H)} (hZ : zO b e D A X) (hg : ∀ i y M, vl7[i]? = some (y, M) → rx_Met (zV b e D A X) dn y M (g i)) (hd : 204 ≤ dn) : rx_OK (zV b e D A X) mX9_statement (dn + 1) 113 (vX9_statement_113 g) := by
  unfold vX9_statement_113
  refine s_aload_n hZ.1 dX9_statement_113 rfl ?_
  refine s_bipush dX9_statement_114 (by decide +kernel) ?_
  refine s_aload_n hZ.1 dX9_statement_116 rfl ?_
  refine yg9_8 dX9_statement_117 zw592 ?_
  refine s_callV hZ.1 (Met_X9_node hZ) (Nat.succ_le_succ (Nat.le_trans (Nat.le_of_ble_eq_true rfl) hd)) vy_X9_node zcl9 zw1811 zw25 (Or.inl zw1809) dX9_statement_120 ?_
  refine s_astore hZ.1 dX9_statement_123 (Nat.le_of_ble_eq_true rfl) ?_
  refine s_aload_n hZ.1 dX9_statement_125 rfl ?_
  refine s_callV hZ.1 (Met_X9_take hZ) (Nat.succ_le_succ (Nat.le_trans (Nat.le_of_ble_eq_true rfl) hd)) vy_X9_take zcl9 zw1754 zw14 (Or.inl zw1752) dX9_statement_126 ?_
  exact s_if_eq dX9_statement_129 (by decide) (wX9_statement_159 hZ hg hd) (wX9_statement_132 hZ hg hd)
noncomputable def vX9_statement_103 (g : Nat → List Nat → rx_H → Option (Nat × rx_H)) : rx_K := o_ld rx_isR 0 (o_callV 0 9 FX9_behind (o_const 1120 (o_c2 rx_eq (vX9_statement_113 g) (vX9_statement_161 g))))
set_option maxRecDepth 20000 in
theorem wX9_statement_103 {dn : Nat} {g : Nat → List Nat → rx_H → Option (Nat × rx_H)} (hZ : zO b e D A X) (hg : ∀ i y M, vl7[i]? = some (y, M) → rx_Met (zV b e D A X) dn y M (g i)) (hd : 204 ≤ dn) : rx_OK (zV b e D A X) mX9_statement (dn + 1) 103 (vX9_statement_103 g) := by
  unfold vX9_statement_103
  refine s_aload_n hZ.1 dX9_statement_103 rfl ?_
  refine s_callV hZ.1 (Met_X9_behind hZ) (Nat.succ_le_succ (Nat.le_trans (Nat.le_of_ble_eq_true rfl) hd)) vy_X9_behind zcl9 zw1827 zw27 (Or.inl zw1825) dX9_statement_104 ?_
  refine s_sipush dX9_statement_107 (by decide +kernel) ?_
  exact s_icmp_ne dX9_statement_110 (by decide) (wX9_statement_161 hZ hg hd) (wX9_statement_113 hZ hg hd)
noncomputable def vX9_statement_97 (g : Nat → List Nat → rx_H → Option (Nat × rx_H)) : rx_K := o_ld rx_isI 2 (o_const 304 (o_c2 rx_eq (vX9_statement_103 g) (vX9_statement_161 g)))
set_option maxRecDepth 20000 in
theorem wX9_statement_97 {dn : Nat} {g : Nat → List Nat → rx_H → Option (Nat × rx_H)} (hZ : zO b e D A X) (hg : ∀ i y M, vl7[i]? = some (y, M) → rx_Met (zV b e D A X) dn y M (g i)) (hd : 204 ≤ dn) : rx_OK (zV b e D A X) mX9_statement (dn + 1) 97 (vX9_statement_97 g) := by
  unfold vX9_statement_97
  refine s_iload_n hZ.1 dX9_statement_97 rfl ?_
  refine s_bipush dX9_statement_98 (by decide +kernel) ?_
  exact s_icmp_ne dX9_statement_100 (by decide) (wX9_statement_161 hZ hg hd) (wX9_statement_103 hZ hg hd)
noncomputable def vX9_statement_91 (g : Nat → List Nat → rx_H → Option (Nat × rx_H)) : rx_K := o_ld rx_isR 0 (o_ld rx_isI 1 (o_callV 1 9 (g 0) (o_ret1 rx_isR)))
set_option maxRecDepth 20000 in
theorem wX9_statement_91 {dn : Nat} {g : Nat → List Nat → rx_H → Option (Nat × rx_H)} (hZ : zO b e D A X) (hg : ∀ i y M, vl7[i]? = some (y, M) → rx_Met (zV b e D A X) dn y M (g i)) (hd : 204 ≤ dn) : rx_OK (zV b e D A X) mX9_statement (dn + 1) 91 (vX9_statement_91 g) := by
  unfold vX9_statement_91
  refine s_aload_n hZ.1 dX9_statement_91 rfl ?_
  refine s_iload_n hZ.1 dX9_statement_92 rfl ?_
  refine s_callV hZ.1 (hg 0 _ _ rfl) (Nat.le_refl _) vy_X9_block zcl9 zw1807 zw24 (Or.inl zw1805) dX9_statement_93 ?_
  exact s_aret hZ.1 rfl (Or.inl ⟨_, rfl⟩) dX9_statement_96
noncomputable def vX9_statement_84 (g : Nat → List Nat → rx_H → Option (Nat × rx_H)) : rx_K := o_ld rx_isI 2 (o_const 1784 (o_c2 rx_eq (vX9_statement_91 g) (vX9_statement_97 g)))
set_option maxRecDepth 20000 in
theorem wX9_statement_84 {dn : Nat} {g : Nat → List Nat → rx_H → Option (Nat × rx_H)} (hZ : zO b e D A X) (hg : ∀ i y M, vl7[i]? = some (y, M) → rx_Met (zV b e D A X) dn y M (g i)) (hd : 204 ≤ dn) : rx_OK (zV b e D A X) mX9_statement (dn + 1) 84 (vX9_statement_84 g) := by
  unfold vX9_statement_84
  refine s_iload_n hZ.1 dX9_statement_84 rfl ?_
  refine s_sipush dX9_statement_85 (by decide +kernel) ?_
  exact s_icmp_ne dX9_statement_88 (by decide) (wX9_statement_97 hZ hg hd) (wX9_statement_91 hZ hg hd)
noncomputable def vX9_statement_76 (g : Nat → List Nat → rx_H → Option (Nat × rx_H)) : rx_K := o_ld rx_isR 0 (o_const 24 (o_callV 1 9 FX9_stop (o_pop (o_const 3 (o_ret1 rx_isR)))))
set_option maxRecDepth 20000 in
theorem wX9_statement_76 {dn : Nat} {g : Nat → List Nat → rx_H → Option (Nat × rx_H)} (hZ : zO b e D A X) (hg : ∀ i y M, vl7[i]? = some (y, M) → rx_Met (zV b e D A X) dn y M (g i)) (hd : 204 ≤ dn) : rx_OK (zV b e D A X) mX9_statement (dn + 1) 76 (vX9_statement_76 g) := by
  unfold vX9_statement_76
  refine s_aload_n hZ.1 dX9_statement_76 rfl ?_
  refine s_iconst dX9_statement_77 (by decide +kernel) ?_
  refine s_callV hZ.1 (Met_X9_stop hZ) (Nat.succ_le_succ (Nat.le_trans (Nat.le_of_ble_eq_true rfl) hd)) vy_X9_stop zcl9 zw1758 zw15 (Or.inl zw1756) dX9_statement_78 ?_
  refine s_pop hZ.1 dX9_statement_81 ?_
  refine s_null dX9_statement_82 ?_
  exact s_aret hZ.1 rfl (Or.inl ⟨_, rfl⟩) dX9_statement_83
noncomputable def vX9_statement_70 (g : Nat → List Nat → rx_H → Option (Nat × rx_H)) : rx_K := o_ld rx_isI 1 (o_const 96 (o_c2 rx_lt (vX9_statement_84 g) (vX9_statement_76 g)))
set_option maxRecDepth 20000 in
theorem wX9_statement_70 {dn : Nat} {g : Nat → List Nat → rx_H → Option (Nat × rx_H)} (hZ : zO b e D A X) (hg : ∀ i y M, vl7[i]? = some (y, M) → rx_Met (zV b e D A X) dn y M (g i)) (hd : 204 ≤ dn) : rx_OK (zV b e D A X) mX9_statement (dn + 1) 70 (vX9_statement_70 g) := by
  unfold vX9_statement_70
  refine s_iload_n hZ.1 dX9_statement_70 rfl ?_
  refine s_bipush dX9_statement_71 (by decide +kernel) ?_
  exact s_icmp_lt dX9_statement_73 (by decide) (wX9_statement_84 hZ hg hd) (wX9_statement_76 hZ hg hd)
noncomputable def vX9_statement_63 (g : Nat → List Nat → rx_H → Option (Nat × rx_H)) : rx_K := o_ld rx_isR 0 (o_callV 0 9 FX9_miss (o_pop (o_const 3 (o_ret1 rx_isR))))
set_option maxRecDepth 20000 in
theorem wX9_statement_63 {dn : Nat} {g : Nat → List Nat → rx_H → Option (Nat × rx_H)} (hZ : zO b e D A X) (hg : ∀ i y M, vl7[i]? = some (y, M) → rx_Met (zV b e D A X) dn y M (g i)) (hd : 204 ≤ dn) : rx_OK (zV b e D A X) mX9_statement (dn + 1) 63 (vX9_statement_63 g) := by
  unfold vX9_statement_63
  refine s_aload_n hZ.1 dX9_statement_63 rfl ?_
  refine s_callV hZ.1 (Met_X9_miss hZ) (Nat.succ_le_succ (Nat.le_trans (Nat.le_of_ble_eq_true rfl) hd)) vy_X9_miss zcl9 zw1762 zw16 (Or.inl zw1760) dX9_statement_64 ?_
  refine s_pop hZ.1 dX9_statement_67 ?_
  refine s_null dX9_statement_68 ?_
  exact s_aret hZ.1 rfl (Or.inl ⟨_, rfl⟩) dX9_statement_69
noncomputable def vX9_statement_57 (g : Nat → List Nat → rx_H → Option (Nat × rx_H)) : rx_K := o_ld rx_isI 2 (o_const 280 (o_c2 rx_eq (vX9_statement_70 g) (vX9_statement_63 g)))
set_option maxRecDepth 20000 in
theorem wX9_statement_57 {dn : Nat} {g : Nat → List Nat → rx_H → Option (Nat × rx_H)} (hZ : zO b e D A X) (hg : ∀ i y M, vl7[i]? = some (y, M) → rx_Met (zV b e D A X) dn y M (g i)) (hd : 204 ≤ dn) : rx_OK (zV b e D A X) mX9_statement (dn + 1) 57 (vX9_statement_57 g) := by
  unfold vX9_statement_57
  refine s_iload_n hZ.1 dX9_statement_57 rfl ?_
  refine s_bipush dX9_statement_58 (by decide +kernel) ?_
  exact s_icmp_eq dX9_statement_60 (by decide) (wX9_statement_70 hZ hg hd) (wX9_statement_63 hZ hg hd)
noncomputable def vX9_statement_51 (g : Nat → List Nat → rx_H → Option (Nat × rx_H)) : rx_K := o_ld rx_isI 2 (o_const 264 (o_c2 rx_eq (vX9_statement_70 g) (vX9_statement_57 g)))
set_option maxRecDepth 20000 in
theorem wX9_statement_51 {dn : Nat} {g : Nat → List Nat → rx_H → Option (Nat × rx_H)} (hZ : zO b e D A X) (hg : ∀ i y M, vl7[i]? = some (y, M) → rx_Met (zV b e D A X) dn y M (g i)) (hd : 204 ≤ dn) : rx_OK (zV b e D A X) mX9_statement (dn + 1) 51 (vX9_statement_51 g) := by
  unfold vX9_statement_51
  refine s_iload_n hZ.1 dX9_statement_51 rfl ?_
  refine s_bipush dX9_statement_52 (by decide +kernel) ?_
  exact s_icmp_eq dX9_statement_54 (by decide) (wX9_statement_70 hZ hg hd) (wX9_statement_57 hZ hg hd)
noncomputable def vX9_statement_45 (g : Nat → List Nat → rx_H → Option (Nat × rx_H)) : rx_K := o_ld rx_isI 2 (o_const 256 (o_c2 rx_eq (vX9_statement_70 g) (vX9_statement_51 g)))
set_option maxRecDepth 20000 in
theorem wX9_statement_45 {dn : Nat} {g : Nat → List Nat → rx_H → Option (Nat × rx_H)} (hZ : zO b e D A X) (hg : ∀ i y M, vl7[i]? = some (y, M) → rx_Met (zV b e D A X) dn y M (g i)) (hd : 204 ≤ dn) : rx_OK (zV b e D A X) mX9_statement (dn + 1) 45 (vX9_statement_45 g) := by
  unfold vX9_statement_45
  refine s_iload_n hZ.1 dX9_statement_45 rfl ?_
  refine s_bipush dX9_statement_46 (by decide +kernel) ?_
  exact s_icmp_eq dX9_statement_48 (by decide) (wX9_statement_70 hZ hg hd) (wX9_statement_51 hZ hg hd)
noncomputable def vX9_statement_39 (g : Nat → List Nat → rx_H → Option (Nat × rx_H)) : rx_K := o_ld rx_isI 2 (o_const 248 (o_c2 rx_eq (vX9_statement_70 g) (vX9_statement_45 g)))
set_option maxRecDepth 20000 in
theorem wX9_statement_39 {dn : Nat} {g : Nat → List Nat → rx_H → Option (Nat × rx_H)} (hZ : zO b e D A X) (hg : ∀ i y M, vl7[i]? = some (y, M) → rx_Met (zV b e D A X) dn y M (g i)) (hd : 204 ≤ dn) : rx_OK (zV b e D A X) mX9_statement (dn + 1) 39 (vX9_statement_39 g) := by
  unfold vX9_statement_39
  refine s_iload_n hZ.1 dX9_statement_39 rfl ?_
  refine s_bipush dX9_statement_40 (by decide +kernel) ?_
  exact s_icmp_eq dX9_statement_42 (by decide) (wX9_statement_70 hZ hg hd) (wX9_statement_45 hZ hg hd)
noncomputable def vX9_statement_33 (g : Nat → List Nat → rx_H → Option (Nat × rx_H)) : rx_K := o_ld rx_isI 2 (o_const 240 (o_c2 rx_eq (vX9_statement_70 g) (vX9_statement_39 g)))
set_option maxRecDepth 20000 in
theorem wX9_statement_33 {dn : Nat} {g : Nat → List Nat → rx_H → Option (Nat × rx_H)} (hZ : zO b e D A X) (hg : ∀ i y M, vl7[i]? = some (y, M) → rx_Met (zV b e D A X) dn y M (g i)) (hd : 204 ≤ dn) : rx_OK (zV b e D A X) mX9_statement (dn + 1) 33 (vX9_statement_33 g) := by
  unfold vX9_statement_33
  refine s_iload_n hZ.1 dX9_statement_33 rfl ?_
  refine s_bipush dX9_statement_34 (by decide +kernel) ?_
  exact s_icmp_eq dX9_statement_36 (by decide) (wX9_statement_70 hZ hg hd) (wX9_statement_39 hZ hg hd)
noncomputable def vX9_statement_27 (g : Nat → List Nat → rx_H → Option (Nat × rx_H)) : rx_K := o_ld rx_isI 2 (o_const 224 (o_c2 rx_eq (vX9_statement_70 g) (vX9_statement_33 g)))
set_option maxRecDepth 20000 in
theorem wX9_statement_27 {dn : Nat} {g : Nat → List Nat → rx_H → Option (Nat × rx_H)} (hZ : zO b e D A X) (hg : ∀ i y M, vl7[i]? = some (y, M) → rx_Met (zV b e D A X) dn y M (g i)) (hd : 204 ≤ dn) : rx_OK (zV b e D A X) mX9_statement (dn + 1) 27 (vX9_statement_27 g) := by
  unfold vX9_statement_27
  refine s_iload_n hZ.1 dX9_statement_27 rfl ?_
  refine s_bipush dX9_statement_28 (by decide +kernel) ?_
  exact s_icmp_eq dX9_statement_30 (by decide) (wX9_statement_70 hZ hg hd) (wX9_statement_33 hZ hg hd)
noncomputable def vX9_statement_21 (g : Nat → List Nat → rx_H → Option (Nat × rx_H)) : rx_K := o_ld rx_isI 2 (o_const 216 (o_c2 rx_eq (vX9_statement_70 g) (vX9_statement_27 g)))
set_option maxRecDepth 20000 in
theorem wX9_statement_21 {dn : Nat} {g : Nat → List Nat → rx_H → Option (Nat × rx_H)} (hZ : zO b e D A X) (hg : ∀ i y M, vl7[i]? = some (y, M) → rx_Met (zV b e D A X) dn y M (g i)) (hd : 204 ≤ dn) : rx_OK (zV b e D A X) mX9_statement (dn + 1) 21 (vX9_statement_21 g) := by
  unfold vX9_statement_21
  refine s_iload_n hZ.1 dX9_statement_21 rfl ?_
  refine s_bipush dX9_statement_22 (by decide +kernel) ?_
  exact s_icmp_eq dX9_statement_24 (by decide) (wX9_statement_70 hZ hg hd) (wX9_statement_27 hZ hg hd)
noncomputable def vX9_statement_14 (g : Nat → List Nat → rx_H → Option (Nat × rx_H)) : rx_K := o_ld rx_isI 2 (o_const 1784 (o_c2 rx_eq (vX9_statement_70 g) (vX9_statement_21 g)))
set_option maxRecDepth 20000 in
theorem wX9_statement_14 {dn : Nat} {g : Nat → List Nat → rx_H → Option (Nat × rx_H)} (hZ : zO b e D A X) (hg : ∀ i y M, vl7[i]? = some (y, M) → rx_Met (zV b e D A X) dn y M (g i)) (hd : 204 ≤ dn) : rx_OK (zV b e D A X) mX9_statement (dn + 1) 14 (vX9_statement_14 g) := by
  unfold vX9_statement_14
  refine s_iload_n hZ.1 dX9_statement_14 rfl ?_
  refine s_sipush dX9_statement_15 (by decide +kernel) ?_
  exact s_icmp_eq dX9_statement_18 (by decide) (wX9_statement_70 hZ hg hd) (wX9_statement_21 hZ hg hd)
noncomputable def vX9_statement_0 (g : Nat → List Nat → rx_H → Option (Nat × rx_H)) : rx_K := o_ld rx_isR 0 (o_callV 0 9 FX9_now (o_st rx_isI 2 (o_ld rx_isI 2 (o_callS 1 FX9_beginsE (o_st rx_isI 3 (o_ld rx_isI 3 (o_c1 rx_eq (vX9_statement_14 g) (vX9_statement_70 g))))))))
set_option maxRecDepth 20000 in
theorem wX9_statement_0 {dn : Nat} {g : Nat → List Nat → rx_H → Option (Nat × rx_H)} (hZ : zO b e D A X) (hg : ∀ i y M, vl7[i]? = some (y, M) → rx_Met (zV b e D A X) dn y M (g i)) (hd : 204 ≤ dn) : rx_OK (zV b e D A X) mX9_statement (dn + 1) 0 (vX9_statement_0 g) := by
  unfold vX9_statement_0
  refine s_aload_n hZ.1 dX9_statement_0 rfl ?_
  refine s_callV hZ.1 (Met_X9_now hZ) (Nat.succ_le_succ (Nat.le_trans (Nat.le_of_ble_eq_true rfl) hd)) vy_X9_now zcl9 zw1746 zw12 (Or.inl zw1744) dX9_statement_1 ?_
  refine s_istore_n hZ.1 dX9_statement_4 rfl (Nat.le_of_ble_eq_true rfl) ?_
  refine s_iload_n hZ.1 dX9_statement_5 rfl ?_
  refine s_callS hZ.1 (Met_X9_beginsE hZ) (Nat.succ_le_succ (Nat.le_trans (Nat.le_of_ble_eq_true rfl) hd)) vy_X9_beginsE zw1823 (Or.inl zw1822) dX9_statement_6 ?_
  refine s_istore_n hZ.1 dX9_statement_9 rfl (Nat.le_of_ble_eq_true rfl) ?_
  refine s_iload_n hZ.1 dX9_statement_10 rfl ?_
  exact s_if_ne dX9_statement_11 (by decide) (wX9_statement_70 hZ hg hd) (wX9_statement_14 hZ hg hd)
noncomputable def FX9_statement (g : Nat → List Nat → rx_H → Option (Nat × rx_H)) : List Nat → rx_H → Option (Nat × rx_H) := rx_ent 5 (vX9_statement_0 g)
theorem Met_X9_statement {dn : Nat} {g : Nat → List Nat → rx_H → Option (Nat × rx_H)} (hZ : zO b e D A X) (hg : ∀ i y M, vl7[i]? = some (y, M) → rx_Met (zV b e D A X) dn y M (g i)) (hd : 204 ≤ dn) : rx_Met (zV b e D A X) (dn + 1) yX9_statement mX9_statement (FX9_statement g) := rx_entry hZ.1 (wX9_statement_0 hZ hg hd) (by decide +kernel) rfl (fun h => by cases h)
noncomputable def vX9_tested_116 (g : Nat → List Nat → rx_H → Option (Nat × rx_H)) : rx_K := o_ret1 rx_isR
set_option maxRecDepth 20000 in
theorem wX9_tested_116 {dn : Nat} {g : Nat → List Nat → rx_H → Option (Nat × rx_H)} (hZ : zO b e D A X) (hg : ∀ i y M, vl7[i]? = some (y, M) → rx_Met (zV b e D A X) dn y M (g i)) (hd : 204 ≤ dn) : rx_OK (zV b e D A X) mX9_tested (dn + 1) 116 (vX9_tested_116 g) := by
  unfold vX9_tested_116
  exact s_aret hZ.1 rfl (Or.inl ⟨_, rfl⟩) dX9_tested_116
noncomputable def vX9_tested_115 (g : Nat → List Nat → rx_H → Option (Nat × rx_H)) : rx_K := o_const 3 ((vX9_tested_116 g))
set_option maxRecDepth 20000 in
theorem wX9_tested_115 {dn : Nat} {g : Nat → List Nat → rx_H → Option (Nat × rx_H)} (hZ : zO b e D A X) (hg : ∀ i y M, vl7[i]? = some (y, M) → rx_Met (zV b e D A X) dn y M (g i)) (hd : 204 ≤ dn) : rx_OK (zV b e D A X) mX9_tested (dn + 1) 115 (vX9_tested_115 g) := by
  unfold vX9_tested_115
  refine s_null dX9_tested_115 ?_
  exact (wX9_tested_116 hZ hg hd)
noncomputable def vX9_tested_111 (g : Nat → List Nat → rx_H → Option (Nat × rx_H)) : rx_K := o_ld rx_isR 1 ((vX9_tested_116 g))
set_option maxRecDepth 20000 in
theorem wX9_tested_111 {dn : Nat} {g : Nat → List Nat → rx_H → Option (Nat × rx_H)} (hZ : zO b e D A X) (hg : ∀ i y M, vl7[i]? = some (y, M) → rx_Met (zV b e D A X) dn y M (g i)) (hd : 204 ≤ dn) : rx_OK (zV b e D A X) mX9_tested (dn + 1) 111 (vX9_tested_111 g) := by
  unfold vX9_tested_111
  refine s_aload_n hZ.1 dX9_tested_111 rfl ?_
  exact s_goto dX9_tested_112 (by decide) (wX9_tested_116 hZ hg hd)
noncomputable def vX9_tested_104 (g : Nat → List Nat → rx_H → Option (Nat × rx_H)) : rx_K := o_ld rx_isR 0 (o_getf 9 9 (o_c1 rx_eq (vX9_tested_111 g) (vX9_tested_115 g)))
set_option maxRecDepth 20000 in
theorem wX9_tested_104 {dn : Nat} {g : Nat → List Nat → rx_H → Option (Nat × rx_H)} (hZ : zO b e D A X) (hg : ∀ i y M, vl7[i]? = some (y, M) → rx_Met (zV b e D A X) dn y M (g i)) (hd : 204 ≤ dn) : rx_OK (zV b e D A X) mX9_tested (dn + 1) 104 (vX9_tested_104 g) := by
  unfold vX9_tested_104
  refine s_aload_n hZ.1 dX9_tested_104 rfl ?_
  refine yg9_9 dX9_tested_105 zw593 ?_
  exact s_if_ne dX9_tested_108 (by decide) (wX9_tested_115 hZ hg hd) (wX9_tested_111 hZ hg hd)
noncomputable def vX9_tested_95 (g : Nat → List Nat → rx_H → Option (Nat × rx_H)) : rx_K := o_ld rx_isR 1 (o_ld rx_isR 0 (o_ld rx_isI 3 (o_callV 1 9 (g 1) (o_putf rx_isR 8 7 ((vX9_tested_104 g))))))
set_option maxRecDepth 20000 in
theorem wX9_tested_95 {dn : Nat} {g : Nat → List Nat → rx_H → Option (Nat × rx_H)} (hZ : zO b e D A X) (hg : ∀ i y M, vl7[i]? = some (y, M) → rx_Met (zV b e D A X) dn y M (g i)) (hd : 204 ≤ dn) : rx_OK (zV b e D A X) mX9_tested (dn + 1) 95 (vX9_tested_95 g) := by
  unfold vX9_tested_95
  refine s_aload_n hZ.1 dX9_tested_95 rfl ?_
  refine s_aload_n hZ.1 dX9_tested_96 rfl ?_
  refine s_iload_n hZ.1 dX9_tested_97 rfl ?_
  refine s_callV hZ.1 (hg 1 _ _ rfl) (Nat.le_refl _) vy_X9_statement zcl9 zw1820 zw26 (Or.inl zw1818) dX9_tested_98 ?_
  refine yp8_7 hZ.1 dX9_tested_101 zw485 ?_
  exact (wX9_tested_104 hZ hg hd)
noncomputable def vX9_tested_88 (g : Nat → List Nat → rx_H → Option (Nat × rx_H)) : rx_K := o_ld rx_isR 0 (o_callV 0 9 FX9_take (o_c1 rx_eq (vX9_tested_104 g) (vX9_tested_95 g)))
set_option maxRecDepth 20000 in
theorem wX9_tested_88 {dn : Nat} {g : Nat → List Nat → rx_H → Option (Nat × rx_H)} (hZ : zO b e D A X) (hg : ∀ i y M, vl7[i]? = some (y, M) → rx_Met (zV b e D A X) dn y M (g i)) (hd : 204 ≤ dn) : rx_OK (zV b e D A X) mX9_tested (dn + 1) 88 (vX9_tested_88 g) := by
  unfold vX9_tested_88
  refine s_aload_n hZ.1 dX9_tested_88 rfl ?_
  refine s_callV hZ.1 (Met_X9_take hZ) (Nat.succ_le_succ (Nat.le_trans (Nat.le_of_ble_eq_true rfl) hd)) vy_X9_take zcl9 zw1754 zw14 (Or.inl zw1752) dX9_tested_89 ?_
  exact s_if_eq dX9_tested_92 (by decide) (wX9_tested_104 hZ hg hd) (wX9_tested_95 hZ hg hd)
noncomputable def vX9_tested_79 (g : Nat → List Nat → rx_H → Option (Nat × rx_H)) : rx_K := o_ld rx_isR 0 (o_callV 0 9 FX9_now (o_const 232 (o_c2 rx_eq (vX9_tested_88 g) (vX9_tested_104 g))))
set_option maxRecDepth 20000 in
theorem wX9_tested_79 {dn : Nat} {g : Nat → List Nat → rx_H → Option (Nat × rx_H)} (hZ : zO b e D A X) (hg : ∀ i y M, vl7[i]? = some (y, M) → rx_Met (zV b e D A X) dn y M (g i)) (hd : 204 ≤ dn) : rx_OK (zV b e D A X) mX9_tested (dn + 1) 79 (vX9_tested_79 g) := by
  unfold vX9_tested_79
  refine s_aload_n hZ.1 dX9_tested_79 rfl ?_
  refine s_callV hZ.1 (Met_X9_now hZ) (Nat.succ_le_succ (Nat.le_trans (Nat.le_of_ble_eq_true rfl) hd)) vy_X9_now zcl9 zw1746 zw12 (Or.inl zw1744) dX9_tested_80 ?_
  refine s_bipush dX9_tested_83 (by decide +kernel) ?_
  exact s_icmp_ne dX9_tested_85 (by decide) (wX9_tested_104 hZ hg hd) (wX9_tested_88 hZ hg hd)
noncomputable def vX9_tested_73 (g : Nat → List Nat → rx_H → Option (Nat × rx_H)) : rx_K := o_ld rx_isI 2 (o_const 224 (o_c2 rx_eq (vX9_tested_79 g) (vX9_tested_104 g)))
set_option maxRecDepth 20000 in
theorem wX9_tested_73 {dn : Nat} {g : Nat → List Nat → rx_H → Option (Nat × rx_H)} (hZ : zO b e D A X) (hg : ∀ i y M, vl7[i]? = some (y, M) → rx_Met (zV b e D A X) dn y M (g i)) (hd : 204 ≤ dn) : rx_OK (zV b e D A X) mX9_tested (dn + 1) 73 (vX9_tested_73 g) := by
  unfold vX9_tested_73
  refine s_iload_n hZ.1 dX9_tested_73 rfl ?_
  refine s_bipush dX9_tested_74 (by decide +kernel) ?_
  exact s_icmp_ne dX9_tested_76 (by decide) (wX9_tested_104 hZ hg hd) (wX9_tested_79 hZ hg hd)
noncomputable def vX9_tested_57 (g : Nat → List Nat → rx_H → Option (Nat × rx_H)) : rx_K := o_ld rx_isR 1 (o_ld rx_isR 0 (o_ld rx_isI 3 (o_callV 1 9 (g 1) (o_putf rx_isR 8 6 (o_ld rx_isR 0 (o_getf 9 9 (o_c1 rx_eq (vX9_tested_73 g) (vX9_tested_104 g))))))))
set_option maxRecDepth 20000 in
theorem wX9_tested_57 {dn : Nat} {g : Nat → List Nat → rx_H → Option (Nat × rx_H)} (hZ : zO b e D A X) (hg : ∀ i y M, vl7[i]? = some (y, M) → rx_Met (zV b e D A X) dn y M (g i)) (hd : 204 ≤ dn) : rx_OK (zV b e D A X) mX9_tested (dn + 1) 57 (vX9_tested_57 g) := by
  unfold vX9_tested_57
  refine s_aload_n hZ.1 dX9_tested_57 rfl ?_
  refine s_aload_n hZ.1 dX9_tested_58 rfl ?_
  refine s_iload_n hZ.1 dX9_tested_59 rfl ?_
  refine s_callV hZ.1 (hg 1 _ _ rfl) (Nat.le_refl _) vy_X9_statement zcl9 zw1820 zw26 (Or.inl zw1818) dX9_tested_60 ?_
  refine yp8_6 hZ.1 dX9_tested_63 zw481 ?_
  refine s_aload_n hZ.1 dX9_tested_66 rfl ?_
  refine yg9_9 dX9_tested_67 zw593 ?_
  exact s_if_ne dX9_tested_70 (by decide) (wX9_tested_104 hZ hg hd) (wX9_tested_73 hZ hg hd)
noncomputable def vX9_tested_55 (g : Nat → List Nat → rx_H → Option (Nat × rx_H)) : rx_K := o_const 3 (o_ret1 rx_isR)
set_option maxRecDepth 20000 in
theorem wX9_tested_55 {dn : Nat} {g : Nat → List Nat → rx_H → Option (Nat × rx_H)} (hZ : zO b e D A X) (hg : ∀ i y M, vl7[i]? = some (y, M) → rx_Met (zV b e D A X) dn y M (g i)) (hd : 204 ≤ dn) : rx_OK (zV b e D A X) mX9_tested (dn + 1) 55 (vX9_tested_55 g) := by
  unfold vX9_tested_55
  refine s_null dX9_tested_55 ?_
  exact s_aret hZ.1 rfl (Or.inl ⟨_, rfl⟩) dX9_tested_56
noncomputable def vX9_tested_45 (g : Nat → List Nat → rx_H → Option (Nat × rx_H)) : rx_K := o_ld rx_isR 0 (o_const 1128 (o_callV 1 9 FX9_need (o_c1 rx_eq (vX9_tested_55 g) (vX9_tested_57 g))))
set_option maxRecDepth 20000 in
theorem wX9_tested_45 {dn : Nat} {g : Nat → List Nat → rx_H → Option (Nat × rx_H)} (hZ : zO b e D A X) (hg : ∀ i y M, vl7[i]? = some (y, M) → rx_Met (zV b e D A X) dn y M (g i)) (hd : 204 ≤ dn) : rx_OK (zV b e D A X) mX9_tested (dn + 1) 45 (vX9_tested_45 g) := by
  unfold vX9_tested_45
  refine s_aload_n hZ.1 dX9_tested_45 rfl ?_
  refine s_sipush dX9_tested_46 (by decide +kernel) ?_
  refine s_callV hZ.1 (Met_X9_need hZ) (Nat.succ_le_succ (Nat.le_trans (Nat.le_of_ble_eq_true rfl) hd)) vy_X9_need zcl9 zw1779 zw19 (Or.inl zw1777) dX9_tested_49 ?_
  exact s_if_ne dX9_tested_52 (by decide) (wX9_tested_57 hZ hg hd) (wX9_tested_55 hZ hg hd)
noncomputable def vX9_tested_29 (g : Nat → List Nat → rx_H → Option (Nat × rx_H)) : rx_K := o_ld rx_isR 1 (o_ld rx_isR 0 (o_ld rx_isI 3 (o_callV 1 9 (q6 200 3) (o_putf rx_isR 8 5 (o_ld rx_isR 0 (o_getf 9 9 (o_c1 rx_eq (vX9_tested_45 g) (vX9_tested_55 g))))))))
set_option maxRecDepth 20000 in
theorem wX9_tested_29 {dn : Nat} {g : Nat → List Nat → rx_H → Option (Nat × rx_H)} (hZ : zO b e D A X) (hg : ∀ i y M, vl7[i]? = some (y, M) → rx_Met (zV b e D A X) dn y M (g i)) (hd : 204 ≤ dn) : rx_OK (zV b e D A X) mX9_tested (dn + 1) 29 (vX9_tested_29 g) := by
  unfold vX9_tested_29
  refine s_aload_n hZ.1 dX9_tested_29 rfl ?_
  refine s_aload_n hZ.1 dX9_tested_30 rfl ?_
  refine s_iload_n hZ.1 dX9_tested_31 rfl ?_
  refine s_callV hZ.1 (q6_ok hZ 200 3 _ _ rfl) (Nat.succ_le_succ (Nat.le_trans (Nat.le_of_ble_eq_true rfl) hd)) vy_X9_expr zcl9 zw1835 zw29 (Or.inl zw1833) dX9_tested_32 ?_
  refine yp8_5 hZ.1 dX9_tested_35 zw477 ?_
  refine s_aload_n hZ.1 dX9_tested_38 rfl ?_
  refine yg9_9 dX9_tested_39 zw593 ?_
  exact s_if_ne dX9_tested_42 (by decide) (wX9_tested_55 hZ hg hd) (wX9_tested_45 hZ hg hd)
noncomputable def vX9_tested_27 (g : Nat → List Nat → rx_H → Option (Nat × rx_H)) : rx_K := o_const 3 (o_ret1 rx_isR)
set_option maxRecDepth 20000 in
theorem wX9_tested_27 {dn : Nat} {g : Nat → List Nat → rx_H → Option (Nat × rx_H)} (hZ : zO b e D A X) (hg : ∀ i y M, vl7[i]? = some (y, M) → rx_Met (zV b e D A X) dn y M (g i)) (hd : 204 ≤ dn) : rx_OK (zV b e D A X) mX9_tested (dn + 1) 27 (vX9_tested_27 g) := by
  unfold vX9_tested_27
  refine s_null dX9_tested_27 ?_
  exact s_aret hZ.1 rfl (Or.inl ⟨_, rfl⟩) dX9_tested_28
noncomputable def vX9_tested_14 (g : Nat → List Nat → rx_H → Option (Nat × rx_H)) : rx_K := o_putf rx_isI 8 0 (o_ld rx_isR 0 (o_const 1120 (o_callV 1 9 FX9_need (o_c1 rx_eq (vX9_tested_27 g) (vX9_tested_29 g)))))
set_option maxRecDepth 20000 in
theorem wX9_tested_14 {dn : Nat} {g : Nat → List Nat → rx_H → Option (Nat × rx_H)} (hZ : zO b e D A X) (hg : ∀ i y M, vl7[i]? = some (y, M) → rx_Met (zV b e D A X) dn y M (g i)) (hd : 204 ≤ dn) : rx_OK (zV b e D A X) mX9_tested (dn + 1) 14 (vX9_tested_14 g) := by
  unfold vX9_tested_14
  refine yp8_0 hZ.1 dX9_tested_14 zw460 ?_
  refine s_aload_n hZ.1 dX9_tested_17 rfl ?_
  refine s_sipush dX9_tested_18 (by decide +kernel) ?_
  refine s_callV hZ.1 (Met_X9_need hZ) (Nat.succ_le_succ (Nat.le_trans (Nat.le_of_ble_eq_true rfl) hd)) vy_X9_need zcl9 zw1779 zw19 (Or.inl zw1777) dX9_tested_21 ?_
  exact s_if_ne dX9_tested_24 (by decide) (wX9_tested_29 hZ hg hd) (wX9_tested_27 hZ hg hd)
noncomputable def vX9_tested_12 (g : Nat → List Nat → rx_H → Option (Nat × rx_H)) : rx_K := o_const 264 ((vX9_tested_14 g))
set_option maxRecDepth 20000 in
theorem wX9_tested_12 {dn : Nat} {g : Nat → List Nat → rx_H → Option (Nat × rx_H)} (hZ : zO b e D A X) (hg : ∀ i y M, vl7[i]? = some (y, M) → rx_Met (zV b e D A X) dn y M (g i)) (hd : 204 ≤ dn) : rx_OK (zV b e D A X) mX9_tested (dn + 1) 12 (vX9_tested_12 g) := by
  unfold vX9_tested_12
  refine s_bipush dX9_tested_12 (by decide +kernel) ?_
  exact (wX9_tested_14 hZ hg hd)
noncomputable def vX9_tested_7 (g : Nat → List Nat → rx_H → Option (Nat × rx_H)) : rx_K := o_const 256 ((vX9_tested_14 g))
set_option maxRecDepth 20000 in
theorem wX9_tested_7 {dn : Nat} {g : Nat → List Nat → rx_H → Option (Nat × rx_H)} (hZ : zO b e D A X) (hg : ∀ i y M, vl7[i]? = some (y, M) → rx_Met (zV b e D A X) dn y M (g i)) (hd : 204 ≤ dn) : rx_OK (zV b e D A X) mX9_tested (dn + 1) 7 (vX9_tested_7 g) := by
  unfold vX9_tested_7
  refine s_bipush dX9_tested_7 (by decide +kernel) ?_
  exact s_goto dX9_tested_9 (by decide) (wX9_tested_14 hZ hg hd)
noncomputable def vX9_tested_0 (g : Nat → List Nat → rx_H → Option (Nat × rx_H)) : rx_K := o_ld rx_isR 1 (o_ld rx_isI 2 (o_const 224 (o_c2 rx_eq (vX9_tested_7 g) (vX9_tested_12 g))))
set_option maxRecDepth 20000 in
theorem wX9_tested_0 {dn : Nat} {g : Nat → List Nat → rx_H → Option (Nat × rx_H)} (hZ : zO b e D A X) (hg : ∀ i y M, vl7[i]? = some (y, M) → rx_Met (zV b e D A X) dn y M (g i)) (hd : 204 ≤ dn) : rx_OK (zV b e D A X) mX9_tested (dn + 1) 0 (vX9_tested_0 g) := by
  unfold vX9_tested_0
  refine s_aload_n hZ.1 dX9_tested_0 rfl ?_
  refine s_iload_n hZ.1 dX9_tested_1 rfl ?_
  refine s_bipush dX9_tested_2 (by decide +kernel) ?_
  exact s_icmp_ne dX9_tested_4 (by decide) (wX9_tested_12 hZ hg hd) (wX9_tested_7 hZ hg hd)
noncomputable def FX9_tested (g : Nat → List Nat → rx_H → Option (Nat × rx_H)) : List Nat → rx_H → Option (Nat × rx_H) := rx_ent 4 (vX9_tested_0 g)
theorem Met_X9_tested {dn : Nat} {g : Nat → List Nat → rx_H → Option (Nat × rx_H)} (hZ : zO b e D A X) (hg : ∀ i y M, vl7[i]? = some (y, M) → rx_Met (zV b e D A X) dn y M (g i)) (hd : 204 ≤ dn) : rx_Met (zV b e D A X) (dn + 1) yX9_tested mX9_tested (FX9_tested g) := rx_entry hZ.1 (wX9_tested_0 hZ hg hd) (by decide +kernel) rfl (fun h => by cases h)
noncomputable def vX9_tried_113 (g : Nat → List Nat → rx_H → Option (Nat × rx_H)) : rx_K := o_ret1 rx_isR
set_option maxRecDepth 20000 in
theorem wX9_tried_113 {dn : Nat} {g : Nat → List Nat → rx_H → Option (Nat × rx_H)} (hZ : zO b e D A X) (hg : ∀ i y M, vl7[i]? = some (y, M) → rx_Met (zV b e D A X) dn y M (g i)) (hd : 204 ≤ dn) : rx_OK (zV b e D A X) mX9_tried (dn + 1) 113 (vX9_tried_113 g) := by
  unfold vX9_tried_113
  exact s_aret hZ.1 rfl (Or.inl ⟨_, rfl⟩) dX9_tried_113
noncomputable def vX9_tried_112 (g : Nat → List Nat → rx_H → Option (Nat × rx_H)) : rx_K := o_const 3 ((vX9_tried_113 g))
set_option maxRecDepth 20000 in
theorem wX9_tried_112 {dn : Nat} {g : Nat → List Nat → rx_H → Option (Nat × rx_H)} (hZ : zO b e D A X) (hg : ∀ i y M, vl7[i]? = some (y, M) → rx_Met (zV b e D A X) dn y M (g i)) (hd : 204 ≤ dn) : rx_OK (zV b e D A X) mX9_tried (dn + 1) 112 (vX9_tried_112 g) := by
  unfold vX9_tried_112
  refine s_null dX9_tried_112 ?_
  exact (wX9_tried_113 hZ hg hd)
noncomputable def vX9_tried_108 (g : Nat → List Nat → rx_H → Option (Nat × rx_H)) : rx_K := o_ld rx_isR 1 ((vX9_tried_113 g))
set_option maxRecDepth 20000 in
theorem wX9_tried_108 {dn : Nat} {g : Nat → List Nat → rx_H → Option (Nat × rx_H)} (hZ : zO b e D A X) (hg : ∀ i y M, vl7[i]? = some (y, M) → rx_Met (zV b e D A X) dn y M (g i)) (hd : 204 ≤ dn) : rx_OK (zV b e D A X) mX9_tried (dn + 1) 108 (vX9_tried_108 g) := by
  unfold vX9_tried_108
  refine s_aload_n hZ.1 dX9_tried_108 rfl ?_
  exact s_goto dX9_tried_109 (by decide) (wX9_tried_113 hZ hg hd)
noncomputable def vX9_tried_92 (g : Nat → List Nat → rx_H → Option (Nat × rx_H)) : rx_K := o_ld rx_isR 1 (o_ld rx_isR 0 (o_ld rx_isI 2 (o_callV 1 9 (g 0) (o_putf rx_isR 8 6 (o_ld rx_isR 0 (o_getf 9 9 (o_c1 rx_eq (vX9_tried_108 g) (vX9_tried_112 g))))))))
set_option maxRecDepth 20000 in
theorem wX9_tried_92 {dn : Nat} {g : Nat → List Nat → rx_H → Option (Nat × rx_H)} (hZ : zO b e D A X) (hg : ∀ i y M, vl7[i]? = some (y, M) → rx_Met (zV b e D A X) dn y M (g i)) (hd : 204 ≤ dn) : rx_OK (zV b e D A X) mX9_tried (dn + 1) 92 (vX9_tried_92 g) := by
  unfold vX9_tried_92
  refine s_aload_n hZ.1 dX9_tried_92 rfl ?_
  refine s_aload_n hZ.1 dX9_tried_93 rfl ?_
  refine s_iload_n hZ.1 dX9_tried_94 rfl ?_
  refine s_callV hZ.1 (hg 0 _ _ rfl) (Nat.le_refl _) vy_X9_block zcl9 zw1807 zw24 (Or.inl zw1805) dX9_tried_95 ?_
  refine yp8_6 hZ.1 dX9_tried_98 zw481 ?_
  refine s_aload_n hZ.1 dX9_tried_101 rfl ?_
  refine yg9_9 dX9_tried_102 zw593 ?_
  exact s_if_ne dX9_tried_105 (by decide) (wX9_tried_112 hZ hg hd) (wX9_tried_108 hZ hg hd)
noncomputable def vX9_tried_90 (g : Nat → List Nat → rx_H → Option (Nat × rx_H)) : rx_K := o_const 3 (o_ret1 rx_isR)
set_option maxRecDepth 20000 in
theorem wX9_tried_90 {dn : Nat} {g : Nat → List Nat → rx_H → Option (Nat × rx_H)} (hZ : zO b e D A X) (hg : ∀ i y M, vl7[i]? = some (y, M) → rx_Met (zV b e D A X) dn y M (g i)) (hd : 204 ≤ dn) : rx_OK (zV b e D A X) mX9_tried (dn + 1) 90 (vX9_tried_90 g) := by
  unfold vX9_tried_90
  refine s_null dX9_tried_90 ?_
  exact s_aret hZ.1 rfl (Or.inl ⟨_, rfl⟩) dX9_tried_91
noncomputable def vX9_tried_80 (g : Nat → List Nat → rx_H → Option (Nat × rx_H)) : rx_K := o_ld rx_isR 0 (o_const 1128 (o_callV 1 9 FX9_need (o_c1 rx_eq (vX9_tried_90 g) (vX9_tried_92 g))))
set_option maxRecDepth 20000 in
theorem wX9_tried_80 {dn : Nat} {g : Nat → List Nat → rx_H → Option (Nat × rx_H)} (hZ : zO b e D A X) (hg : ∀ i y M, vl7[i]? = some (y, M) → rx_Met (zV b e D A X) dn y M (g i)) (hd : 204 ≤ dn) : rx_OK (zV b e D A X) mX9_tried (dn + 1) 80 (vX9_tried_80 g) := by
  unfold vX9_tried_80
  refine s_aload_n hZ.1 dX9_tried_80 rfl ?_
  refine s_sipush dX9_tried_81 (by decide +kernel) ?_
  refine s_callV hZ.1 (Met_X9_need hZ) (Nat.succ_le_succ (Nat.le_trans (Nat.le_of_ble_eq_true rfl) hd)) vy_X9_need zcl9 zw1779 zw19 (Or.inl zw1777) dX9_tried_84 ?_
  exact s_if_ne dX9_tried_87 (by decide) (wX9_tried_92 hZ hg hd) (wX9_tried_90 hZ hg hd)
noncomputable def vX9_tried_72 (g : Nat → List Nat → rx_H → Option (Nat × rx_H)) : rx_K := o_ld rx_isR 0 (o_const 24 (o_callV 1 9 FX9_need (o_c1 rx_eq (vX9_tried_90 g) (vX9_tried_80 g))))
set_option maxRecDepth 20000 in
theorem wX9_tried_72 {dn : Nat} {g : Nat → List Nat → rx_H → Option (Nat × rx_H)} (hZ : zO b e D A X) (hg : ∀ i y M, vl7[i]? = some (y, M) → rx_Met (zV b e D A X) dn y M (g i)) (hd : 204 ≤ dn) : rx_OK (zV b e D A X) mX9_tried (dn + 1) 72 (vX9_tried_72 g) := by
  unfold vX9_tried_72
  refine s_aload_n hZ.1 dX9_tried_72 rfl ?_
  refine s_iconst dX9_tried_73 (by decide +kernel) ?_
  refine s_callV hZ.1 (Met_X9_need hZ) (Nat.succ_le_succ (Nat.le_trans (Nat.le_of_ble_eq_true rfl) hd)) vy_X9_need zcl9 zw1779 zw19 (Or.inl zw1777) dX9_tried_74 ?_
  exact s_if_eq dX9_tried_77 (by decide) (wX9_tried_90 hZ hg hd) (wX9_tried_80 hZ hg hd)
noncomputable def vX9_tried_43 (g : Nat → List Nat → rx_H → Option (Nat × rx_H)) : rx_K := o_ld rx_isR 1 (o_ld rx_isR 0 (o_getf 9 8 (o_putf rx_isI 8 2 (o_ld rx_isR 1 (o_ld rx_isR 0 (o_getf 9 4 (o_ld rx_isR 0 (o_getf 9 8 (o_ald 1 (o_putf rx_isL 8 10 (o_ld rx_isR 0 (o_const 16 (o_callV 1 9 FX9_need (o_c1 rx_eq (vX9_tried_90 g) (vX9_tried_72 g)))))))))))))))
set_option maxRecDepth 20000 in
theorem wX9_tried_43 {dn : Nat} {g : Nat → List Nat → rx_H → Option (Nat × rx_H)} (hZ : zO b e D A X) (hg : ∀ i y M, vl7[i]? = some (y, M) → rx_Met (zV b e D A X) dn y M (g i)) (hd : 204 ≤ dn) : rx_OK (zV b e D A X) mX9_tried (dn + 1) 43 (vX9_tried_43 g) := by
  unfold vX9_tried_43
  refine s_aload_n hZ.1 dX9_tried_43 rfl ?_
  refine s_aload_n hZ.1 dX9_tried_44 rfl ?_
  refine yg9_8 dX9_tried_45 zw592 ?_
  refine yp8_2 hZ.1 dX9_tried_48 zw466 ?_
  refine s_aload_n hZ.1 dX9_tried_51 rfl ?_
  refine s_aload_n hZ.1 dX9_tried_52 rfl ?_
  refine yg9_4 dX9_tried_53 zw586 ?_
  refine s_aload_n hZ.1 dX9_tried_56 rfl ?_
  refine yg9_8 dX9_tried_57 zw592 ?_
  refine s_lald (tt := 1) rfl dX9_tried_60 ?_
  refine yp8_10 hZ.1 dX9_tried_61 zw497 ?_
  refine s_aload_n hZ.1 dX9_tried_64 rfl ?_
  refine s_iconst dX9_tried_65 (by decide +kernel) ?_
  refine s_callV hZ.1 (Met_X9_need hZ) (Nat.succ_le_succ (Nat.le_trans (Nat.le_of_ble_eq_true rfl) hd)) vy_X9_need zcl9 zw1779 zw19 (Or.inl zw1777) dX9_tried_66 ?_
  exact s_if_eq dX9_tried_69 (by decide) (wX9_tried_90 hZ hg hd) (wX9_tried_72 hZ hg hd)
noncomputable def vX9_tried_41 (g : Nat → List Nat → rx_H → Option (Nat × rx_H)) : rx_K := o_const 3 (o_ret1 rx_isR)
set_option maxRecDepth 20000 in
theorem wX9_tried_41 {dn : Nat} {g : Nat → List Nat → rx_H → Option (Nat × rx_H)} (hZ : zO b e D A X) (hg : ∀ i y M, vl7[i]? = some (y, M) → rx_Met (zV b e D A X) dn y M (g i)) (hd : 204 ≤ dn) : rx_OK (zV b e D A X) mX9_tried (dn + 1) 41 (vX9_tried_41 g) := by
  unfold vX9_tried_41
  refine s_null dX9_tried_41 ?_
  exact s_aret hZ.1 rfl (Or.inl ⟨_, rfl⟩) dX9_tried_42
noncomputable def vX9_tried_31 (g : Nat → List Nat → rx_H → Option (Nat × rx_H)) : rx_K := o_ld rx_isR 0 (o_const 1120 (o_callV 1 9 FX9_need (o_c1 rx_eq (vX9_tried_41 g) (vX9_tried_43 g))))
set_option maxRecDepth 20000 in
theorem wX9_tried_31 {dn : Nat} {g : Nat → List Nat → rx_H → Option (Nat × rx_H)} (hZ : zO b e D A X) (hg : ∀ i y M, vl7[i]? = some (y, M) → rx_Met (zV b e D A X) dn y M (g i)) (hd : 204 ≤ dn) : rx_OK (zV b e D A X) mX9_tried (dn + 1) 31 (vX9_tried_31 g) := by
  unfold vX9_tried_31
  refine s_aload_n hZ.1 dX9_tried_31 rfl ?_
  refine s_sipush dX9_tried_32 (by decide +kernel) ?_
  refine s_callV hZ.1 (Met_X9_need hZ) (Nat.succ_le_succ (Nat.le_trans (Nat.le_of_ble_eq_true rfl) hd)) vy_X9_need zcl9 zw1779 zw19 (Or.inl zw1777) dX9_tried_35 ?_
  exact s_if_ne dX9_tried_38 (by decide) (wX9_tried_43 hZ hg hd) (wX9_tried_41 hZ hg hd)
noncomputable def vX9_tried_22 (g : Nat → List Nat → rx_H → Option (Nat × rx_H)) : rx_K := o_ld rx_isR 0 (o_const 272 (o_callV 1 9 FX9_need (o_c1 rx_eq (vX9_tried_41 g) (vX9_tried_31 g))))
set_option maxRecDepth 20000 in
theorem wX9_tried_22 {dn : Nat} {g : Nat → List Nat → rx_H → Option (Nat × rx_H)} (hZ : zO b e D A X) (hg : ∀ i y M, vl7[i]? = some (y, M) → rx_Met (zV b e D A X) dn y M (g i)) (hd : 204 ≤ dn) : rx_OK (zV b e D A X) mX9_tried (dn + 1) 22 (vX9_tried_22 g) := by
  unfold vX9_tried_22
  refine s_aload_n hZ.1 dX9_tried_22 rfl ?_
  refine s_bipush dX9_tried_23 (by decide +kernel) ?_
  refine s_callV hZ.1 (Met_X9_need hZ) (Nat.succ_le_succ (Nat.le_trans (Nat.le_of_ble_eq_true rfl) hd)) vy_X9_need zcl9 zw1779 zw19 (Or.inl zw1777) dX9_tried_25 ?_
  exact s_if_eq dX9_tried_28 (by decide) (wX9_tried_41 hZ hg hd) (wX9_tried_31 hZ hg hd)
noncomputable def vX9_tried_0 (g : Nat → List Nat → rx_H → Option (Nat × rx_H)) : rx_K := o_ld rx_isR 1 (o_const 288 (o_putf rx_isI 8 0 (o_ld rx_isR 1 (o_ld rx_isR 0 (o_ld rx_isI 2 (o_callV 1 9 (g 0) (o_putf rx_isR 8 5 (o_ld rx_isR 0 (o_getf 9 9 (o_c1 rx_eq (vX9_tried_22 g) (vX9_tried_41 g)))))))))))
set_option maxRecDepth 20000 in
theorem wX9_tried_0 {dn : Nat} {g : Nat → List Nat → rx_H → Option (Nat × rx_H)} (hZ : zO b e D A X) (hg : ∀ i y M, vl7[i]? = some (y, M) → rx_Met (zV b e D A X) dn y M (g i)) (hd : 204 ≤ dn) : rx_OK (zV b e D A X) mX9_tried (dn + 1) 0 (vX9_tried_0 g) := by
  unfold vX9_tried_0
  refine s_aload_n hZ.1 dX9_tried_0 rfl ?_
  refine s_bipush dX9_tried_1 (by decide +kernel) ?_
  refine yp8_0 hZ.1 dX9_tried_3 zw460 ?_
  refine s_aload_n hZ.1 dX9_tried_6 rfl ?_
  refine s_aload_n hZ.1 dX9_tried_7 rfl ?_
  refine s_iload_n hZ.1 dX9_tried_8 rfl ?_
  refine s_callV hZ.1 (hg 0 _ _ rfl) (Nat.le_refl _) vy_X9_block zcl9 zw1807 zw24 (Or.inl zw1805) dX9_tried_9 ?_
  refine yp8_5 hZ.1 dX9_tried_12 zw477 ?_
  refine s_aload_n hZ.1 dX9_tried_15 rfl ?_
  refine yg9_9 dX9_tried_16 zw593 ?_
  exact s_if_ne dX9_tried_19 (by decide) (wX9_tried_41 hZ hg hd) (wX9_tried_22 hZ hg hd)
noncomputable def FX9_tried (g : Nat → List Nat → rx_H → Option (Nat × rx_H)) : List Nat → rx_H → Option (Nat × rx_H) := rx_ent 3 (vX9_tried_0 g)
theorem Met_X9_tried {dn : Nat} {g : Nat → List Nat → rx_H → Option (Nat × rx_H)} (hZ : zO b e D A X) (hg : ∀ i y M, vl7[i]? = some (y, M) → rx_Met (zV b e D A X) dn y M (g i)) (hd : 204 ≤ dn) : rx_Met (zV b e D A X) (dn + 1) yX9_tried mX9_tried (FX9_tried g) := rx_entry hZ.1 (wX9_tried_0 hZ hg hd) (by decide +kernel) rfl (fun h => by cases h)
noncomputable def vX9_worded_218 (g : Nat → List Nat → rx_H → Option (Nat × rx_H)) : rx_K := o_ret1 rx_isR
set_option maxRecDepth 20000 in
theorem wX9_worded_218 {dn : Nat} {g : Nat → List Nat → rx_H → Option (Nat × rx_H)} (hZ : zO b e D A X) (hg : ∀ i y M, vl7[i]? = some (y, M) → rx_Met (zV b e D A X) dn y M (g i)) (hd : 204 ≤ dn) : rx_OK (zV b e D A X) mX9_worded (dn + 1) 218 (vX9_worded_218 g) := by
  unfold vX9_worded_218
  exact s_aret hZ.1 rfl (Or.inl ⟨_, rfl⟩) dX9_worded_218
noncomputable def vX9_worded_217 (g : Nat → List Nat → rx_H → Option (Nat × rx_H)) : rx_K := o_const 3 ((vX9_worded_218 g))
set_option maxRecDepth 20000 in
theorem wX9_worded_217 {dn : Nat} {g : Nat → List Nat → rx_H → Option (Nat × rx_H)} (hZ : zO b e D A X) (hg : ∀ i y M, vl7[i]? = some (y, M) → rx_Met (zV b e D A X) dn y M (g i)) (hd : 204 ≤ dn) : rx_OK (zV b e D A X) mX9_worded (dn + 1) 217 (vX9_worded_217 g) := by
  unfold vX9_worded_217
  refine s_null dX9_worded_217 ?_
  exact (wX9_worded_218 hZ hg hd)
noncomputable def vX9_worded_213 (g : Nat → List Nat → rx_H → Option (Nat × rx_H)) : rx_K := o_ld rx_isR 3 ((vX9_worded_218 g))
set_option maxRecDepth 20000 in
theorem wX9_worded_213 {dn : Nat} {g : Nat → List Nat → rx_H → Option (Nat × rx_H)} (hZ : zO b e D A X) (hg : ∀ i y M, vl7[i]? = some (y, M) → rx_Met (zV b e D A X) dn y M (g i)) (hd : 204 ≤ dn) : rx_OK (zV b e D A X) mX9_worded (dn + 1) 213 (vX9_worded_213 g) := by
  unfold vX9_worded_213
  refine s_aload_n hZ.1 dX9_worded_213 rfl ?_
  exact s_goto dX9_worded_214 (by decide) (wX9_worded_218 hZ hg hd)
noncomputable def vX9_worded_203 (g : Nat → List Nat → rx_H → Option (Nat × rx_H)) : rx_K := o_ld rx_isR 0 (o_const 1272 (o_callV 1 9 FX9_need (o_c1 rx_eq (vX9_worded_217 g) (vX9_worded_213 g))))
set_option maxRecDepth 20000 in
theorem wX9_worded_203 {dn : Nat} {g : Nat → List Nat → rx_H → Option (Nat × rx_H)} (hZ : zO b e D A X) (hg : ∀ i y M, vl7[i]? = some (y, M) → rx_Met (zV b e D A X) dn y M (g i)) (hd : 204 ≤ dn) : rx_OK (zV b e D A X) mX9_worded (dn + 1) 203 (vX9_worded_203 g) := by
  unfold vX9_worded_203
  refine s_aload_n hZ.1 dX9_worded_203 rfl ?_
  refine s_sipush dX9_worded_204 (by decide +kernel) ?_
  refine s_callV hZ.1 (Met_X9_need hZ) (Nat.succ_le_succ (Nat.le_trans (Nat.le_of_ble_eq_true rfl) hd)) vy_X9_need zcl9 zw1779 zw19 (Or.inl zw1777) dX9_worded_207 ?_
  exact s_if_eq dX9_worded_210 (by decide) (wX9_worded_217 hZ hg hd) (wX9_worded_213 hZ hg hd)
noncomputable def vX9_worded_196 (g : Nat → List Nat → rx_H → Option (Nat × rx_H)) : rx_K := o_ld rx_isR 0 (o_getf 9 9 (o_c1 rx_eq (vX9_worded_203 g) (vX9_worded_217 g)))
set_option maxRecDepth 20000 in
theorem wX9_worded_196 {dn : Nat} {g : Nat → List Nat → rx_H → Option (Nat × rx_H)} (hZ : zO b e D A X) (hg : ∀ i y M, vl7[i]? = some (y, M) → rx_Met (zV b e D A X) dn y M (g i)) (hd : 204 ≤ dn) : rx_OK (zV b e D A X) mX9_worded (dn + 1) 196 (vX9_worded_196 g) := by
  unfold vX9_worded_196
  refine s_aload_n hZ.1 dX9_worded_196 rfl ?_
  refine yg9_9 dX9_worded_197 zw593 ?_
  exact s_if_ne dX9_worded_200 (by decide) (wX9_worded_217 hZ hg hd) (wX9_worded_203 hZ hg hd)
noncomputable def vX9_worded_187 (g : Nat → List Nat → rx_H → Option (Nat × rx_H)) : rx_K := o_ld rx_isR 3 (o_ld rx_isR 0 (o_ld rx_isI 2 (o_callV 1 9 (q6 200 3) (o_putf rx_isR 8 5 ((vX9_worded_196 g))))))
set_option maxRecDepth 20000 in
theorem wX9_worded_187 {dn : Nat} {g : Nat → List Nat → rx_H → Option (Nat × rx_H)} (hZ : zO b e D A X) (hg : ∀ i y M, vl7[i]? = some (y, M) → rx_Met (zV b e D A X) dn y M (g i)) (hd : 204 ≤ dn) : rx_OK (zV b e D A X) mX9_worded (dn + 1) 187 (vX9_worded_187 g) := by
  unfold vX9_worded_187
  refine s_aload_n hZ.1 dX9_worded_187 rfl ?_
  refine s_aload_n hZ.1 dX9_worded_188 rfl ?_
  refine s_iload_n hZ.1 dX9_worded_189 rfl ?_
  refine s_callV hZ.1 (q6_ok hZ 200 3 _ _ rfl) (Nat.succ_le_succ (Nat.le_trans (Nat.le_of_ble_eq_true rfl) hd)) vy_X9_expr zcl9 zw1835 zw29 (Or.inl zw1833) dX9_worded_190 ?_
  refine yp8_5 hZ.1 dX9_worded_193 zw477 ?_
  exact (wX9_worded_196 hZ hg hd)
noncomputable def vX9_worded_177 (g : Nat → List Nat → rx_H → Option (Nat × rx_H)) : rx_K := o_ld rx_isR 0 (o_callV 0 9 FX9_now (o_const 1272 (o_c2 rx_eq (vX9_worded_196 g) (vX9_worded_187 g))))
set_option maxRecDepth 20000 in
theorem wX9_worded_177 {dn : Nat} {g : Nat → List Nat → rx_H → Option (Nat × rx_H)} (hZ : zO b e D A X) (hg : ∀ i y M, vl7[i]? = some (y, M) → rx_Met (zV b e D A X) dn y M (g i)) (hd : 204 ≤ dn) : rx_OK (zV b e D A X) mX9_worded (dn + 1) 177 (vX9_worded_177 g) := by
  unfold vX9_worded_177
  refine s_aload_n hZ.1 dX9_worded_177 rfl ?_
  refine s_callV hZ.1 (Met_X9_now hZ) (Nat.succ_le_succ (Nat.le_trans (Nat.le_of_ble_eq_true rfl) hd)) vy_X9_now zcl9 zw1746 zw12 (Or.inl zw1744) dX9_worded_178 ?_
  refine s_sipush dX9_worded_181 (by decide +kernel) ?_
  exact s_icmp_eq dX9_worded_184 (by decide) (wX9_worded_196 hZ hg hd) (wX9_worded_187 hZ hg hd)
noncomputable def vX9_worded_171 (g : Nat → List Nat → rx_H → Option (Nat × rx_H)) : rx_K := o_ld rx_isI 1 (o_const 248 (o_c2 rx_eq (vX9_worded_177 g) (vX9_worded_187 g)))
set_option maxRecDepth 20000 in
theorem wX9_worded_171 {dn : Nat} {g : Nat → List Nat → rx_H → Option (Nat × rx_H)} (hZ : zO b e D A X) (hg : ∀ i y M, vl7[i]? = some (y, M) → rx_Met (zV b e D A X) dn y M (g i)) (hd : 204 ≤ dn) : rx_OK (zV b e D A X) mX9_worded (dn + 1) 171 (vX9_worded_171 g) := by
  unfold vX9_worded_171
  refine s_iload_n hZ.1 dX9_worded_171 rfl ?_
  refine s_bipush dX9_worded_172 (by decide +kernel) ?_
  exact s_icmp_ne dX9_worded_174 (by decide) (wX9_worded_187 hZ hg hd) (wX9_worded_177 hZ hg hd)
noncomputable def vX9_worded_165 (g : Nat → List Nat → rx_H → Option (Nat × rx_H)) : rx_K := o_ld rx_isR 3 (o_const 280 (o_putf rx_isI 8 0 ((vX9_worded_171 g))))
set_option maxRecDepth 20000 in
theorem wX9_worded_165 {dn : Nat} {g : Nat → List Nat → rx_H → Option (Nat × rx_H)} (hZ : zO b e D A X) (hg : ∀ i y M, vl7[i]? = some (y, M) → rx_Met (zV b e D A X) dn y M (g i)) (hd : 204 ≤ dn) : rx_OK (zV b e D A X) mX9_worded (dn + 1) 165 (vX9_worded_165 g) := by
  unfold vX9_worded_165
  refine s_aload_n hZ.1 dX9_worded_165 rfl ?_
  refine s_bipush dX9_worded_166 (by decide +kernel) ?_
  refine yp8_0 hZ.1 dX9_worded_168 zw460 ?_
  exact (wX9_worded_171 hZ hg hd)
noncomputable def vX9_worded_159 (g : Nat → List Nat → rx_H → Option (Nat × rx_H)) : rx_K := o_ld rx_isI 1 (o_const 256 (o_c2 rx_eq (vX9_worded_165 g) (vX9_worded_171 g)))
set_option maxRecDepth 20000 in
theorem wX9_worded_159 {dn : Nat} {g : Nat → List Nat → rx_H → Option (Nat × rx_H)} (hZ : zO b e D A X) (hg : ∀ i y M, vl7[i]? = some (y, M) → rx_Met (zV b e D A X) dn y M (g i)) (hd : 204 ≤ dn) : rx_OK (zV b e D A X) mX9_worded (dn + 1) 159 (vX9_worded_159 g) := by
  unfold vX9_worded_159
  refine s_iload_n hZ.1 dX9_worded_159 rfl ?_
  refine s_bipush dX9_worded_160 (by decide +kernel) ?_
  exact s_icmp_ne dX9_worded_162 (by decide) (wX9_worded_171 hZ hg hd) (wX9_worded_165 hZ hg hd)
noncomputable def vX9_worded_150 (g : Nat → List Nat → rx_H → Option (Nat × rx_H)) : rx_K := o_ld rx_isR 3 (o_const 272 (o_putf rx_isI 8 0 ((vX9_worded_171 g))))
set_option maxRecDepth 20000 in
theorem wX9_worded_150 {dn : Nat} {g : Nat → List Nat → rx_H → Option (Nat × rx_H)} (hZ : zO b e D A X) (hg : ∀ i y M, vl7[i]? = some (y, M) → rx_Met (zV b e D A X) dn y M (g i)) (hd : 204 ≤ dn) : rx_OK (zV b e D A X) mX9_worded (dn + 1) 150 (vX9_worded_150 g) := by
  unfold vX9_worded_150
  refine s_aload_n hZ.1 dX9_worded_150 rfl ?_
  refine s_bipush dX9_worded_151 (by decide +kernel) ?_
  refine yp8_0 hZ.1 dX9_worded_153 zw460 ?_
  exact s_goto dX9_worded_156 (by decide) (wX9_worded_171 hZ hg hd)
noncomputable def vX9_worded_144 (g : Nat → List Nat → rx_H → Option (Nat × rx_H)) : rx_K := o_ld rx_isI 1 (o_const 248 (o_c2 rx_eq (vX9_worded_150 g) (vX9_worded_159 g)))
set_option maxRecDepth 20000 in
theorem wX9_worded_144 {dn : Nat} {g : Nat → List Nat → rx_H → Option (Nat × rx_H)} (hZ : zO b e D A X) (hg : ∀ i y M, vl7[i]? = some (y, M) → rx_Met (zV b e D A X) dn y M (g i)) (hd : 204 ≤ dn) : rx_OK (zV b e D A X) mX9_worded (dn + 1) 144 (vX9_worded_144 g) := by
  unfold vX9_worded_144
  refine s_iload_n hZ.1 dX9_worded_144 rfl ?_
  refine s_bipush dX9_worded_145 (by decide +kernel) ?_
  exact s_icmp_ne dX9_worded_147 (by decide) (wX9_worded_159 hZ hg hd) (wX9_worded_150 hZ hg hd)
noncomputable def vX9_worded_142 (g : Nat → List Nat → rx_H → Option (Nat × rx_H)) : rx_K := o_const 3 (o_ret1 rx_isR)
set_option maxRecDepth 20000 in
theorem wX9_worded_142 {dn : Nat} {g : Nat → List Nat → rx_H → Option (Nat × rx_H)} (hZ : zO b e D A X) (hg : ∀ i y M, vl7[i]? = some (y, M) → rx_Met (zV b e D A X) dn y M (g i)) (hd : 204 ≤ dn) : rx_OK (zV b e D A X) mX9_worded (dn + 1) 142 (vX9_worded_142 g) := by
  unfold vX9_worded_142
  refine s_null dX9_worded_142 ?_
  exact s_aret hZ.1 rfl (Or.inl ⟨_, rfl⟩) dX9_worded_143
noncomputable def vX9_worded_132 (g : Nat → List Nat → rx_H → Option (Nat × rx_H)) : rx_K := o_ld rx_isR 0 (o_const 1288 (o_callV 1 9 FX9_need (o_c1 rx_eq (vX9_worded_142 g) (vX9_worded_144 g))))
set_option maxRecDepth 20000 in
theorem wX9_worded_132 {dn : Nat} {g : Nat → List Nat → rx_H → Option (Nat × rx_H)} (hZ : zO b e D A X) (hg : ∀ i y M, vl7[i]? = some (y, M) → rx_Met (zV b e D A X) dn y M (g i)) (hd : 204 ≤ dn) : rx_OK (zV b e D A X) mX9_worded (dn + 1) 132 (vX9_worded_132 g) := by
  unfold vX9_worded_132
  refine s_aload_n hZ.1 dX9_worded_132 rfl ?_
  refine s_sipush dX9_worded_133 (by decide +kernel) ?_
  refine s_callV hZ.1 (Met_X9_need hZ) (Nat.succ_le_succ (Nat.le_trans (Nat.le_of_ble_eq_true rfl) hd)) vy_X9_need zcl9 zw1779 zw19 (Or.inl zw1777) dX9_worded_136 ?_
  exact s_if_ne dX9_worded_139 (by decide) (wX9_worded_144 hZ hg hd) (wX9_worded_142 hZ hg hd)
noncomputable def vX9_worded_124 (g : Nat → List Nat → rx_H → Option (Nat × rx_H)) : rx_K := o_ld rx_isR 0 (o_const 24 (o_callV 1 9 FX9_need (o_c1 rx_eq (vX9_worded_142 g) (vX9_worded_132 g))))
set_option maxRecDepth 20000 in
theorem wX9_worded_124 {dn : Nat} {g : Nat → List Nat → rx_H → Option (Nat × rx_H)} (hZ : zO b e D A X) (hg : ∀ i y M, vl7[i]? = some (y, M) → rx_Met (zV b e D A X) dn y M (g i)) (hd : 204 ≤ dn) : rx_OK (zV b e D A X) mX9_worded (dn + 1) 124 (vX9_worded_124 g) := by
  unfold vX9_worded_124
  refine s_aload_n hZ.1 dX9_worded_124 rfl ?_
  refine s_iconst dX9_worded_125 (by decide +kernel) ?_
  refine s_callV hZ.1 (Met_X9_need hZ) (Nat.succ_le_succ (Nat.le_trans (Nat.le_of_ble_eq_true rfl) hd)) vy_X9_need zcl9 zw1779 zw19 (Or.inl zw1777) dX9_worded_126 ?_
  exact s_if_eq dX9_worded_129 (by decide) (wX9_worded_142 hZ hg hd) (wX9_worded_132 hZ hg hd)
noncomputable def vX9_worded_114 (g : Nat → List Nat → rx_H → Option (Nat × rx_H)) : rx_K := o_putf rx_isL 8 9 (o_ld rx_isR 0 (o_callV 0 9 FX9_take (o_c1 rx_eq (vX9_worded_142 g) (vX9_worded_124 g))))
set_option maxRecDepth 20000 in
theorem wX9_worded_114 {dn : Nat} {g : Nat → List Nat → rx_H → Option (Nat × rx_H)} (hZ : zO b e D A X) (hg : ∀ i y M, vl7[i]? = some (y, M) → rx_Met (zV b e D A X) dn y M (g i)) (hd : 204 ≤ dn) : rx_OK (zV b e D A X) mX9_worded (dn + 1) 114 (vX9_worded_114 g) := by
  unfold vX9_worded_114
  refine yp8_9 hZ.1 dX9_worded_114 zw493 ?_
  refine s_aload_n hZ.1 dX9_worded_117 rfl ?_
  refine s_callV hZ.1 (Met_X9_take hZ) (Nat.succ_le_succ (Nat.le_trans (Nat.le_of_ble_eq_true rfl) hd)) vy_X9_take zcl9 zw1754 zw14 (Or.inl zw1752) dX9_worded_118 ?_
  exact s_if_eq dX9_worded_121 (by decide) (wX9_worded_142 hZ hg hd) (wX9_worded_124 hZ hg hd)
noncomputable def vX9_worded_105 (g : Nat → List Nat → rx_H → Option (Nat × rx_H)) : rx_K := o_ld rx_isR 0 (o_getf 9 4 (o_ld rx_isR 0 (o_getf 9 8 (o_ald 1 ((vX9_worded_114 g))))))
set_option maxRecDepth 20000 in
theorem wX9_worded_105 {dn : Nat} {g : Nat → List Nat → rx_H → Option (Nat × rx_H)} (hZ : zO b e D A X) (hg : ∀ i y M, vl7[i]? = some (y, M) → rx_Met (zV b e D A X) dn y M (g i)) (hd : 204 ≤ dn) : rx_OK (zV b e D A X) mX9_worded (dn + 1) 105 (vX9_worded_105 g) := by
  unfold vX9_worded_105
  refine s_aload_n hZ.1 dX9_worded_105 rfl ?_
  refine yg9_4 dX9_worded_106 zw586 ?_
  refine s_aload_n hZ.1 dX9_worded_109 rfl ?_
  refine yg9_8 dX9_worded_110 zw592 ?_
  refine s_lald (tt := 1) rfl dX9_worded_113 ?_
  exact (wX9_worded_114 hZ hg hd)
noncomputable def vX9_worded_99 (g : Nat → List Nat → rx_H → Option (Nat × rx_H)) : rx_K := o_const 147573952589676412921 ((vX9_worded_114 g))
set_option maxRecDepth 20000 in
theorem wX9_worded_99 {dn : Nat} {g : Nat → List Nat → rx_H → Option (Nat × rx_H)} (hZ : zO b e D A X) (hg : ∀ i y M, vl7[i]? = some (y, M) → rx_Met (zV b e D A X) dn y M (g i)) (hd : 204 ≤ dn) : rx_OK (zV b e D A X) mX9_worded (dn + 1) 99 (vX9_worded_99 g) := by
  unfold vX9_worded_99
  refine s_ldc2 dX9_worded_99 zw1795 (by decide +kernel) ?_
  exact s_goto dX9_worded_102 (by decide) (wX9_worded_114 hZ hg hd)
noncomputable def vX9_worded_89 (g : Nat → List Nat → rx_H → Option (Nat × rx_H)) : rx_K := o_ld rx_isR 3 (o_ld rx_isR 0 (o_callV 0 9 FX9_now (o_const 208 (o_c2 rx_eq (vX9_worded_99 g) (vX9_worded_105 g)))))
set_option maxRecDepth 20000 in
theorem wX9_worded_89 {dn : Nat} {g : Nat → List Nat → rx_H → Option (Nat × rx_H)} (hZ : zO b e D A X) (hg : ∀ i y M, vl7[i]? = some (y, M) → rx_Met (zV b e D A X) dn y M (g i)) (hd : 204 ≤ dn) : rx_OK (zV b e D A X) mX9_worded (dn + 1) 89 (vX9_worded_89 g) := by
  unfold vX9_worded_89
  refine s_aload_n hZ.1 dX9_worded_89 rfl ?_
  refine s_aload_n hZ.1 dX9_worded_90 rfl ?_
  refine s_callV hZ.1 (Met_X9_now hZ) (Nat.succ_le_succ (Nat.le_trans (Nat.le_of_ble_eq_true rfl) hd)) vy_X9_now zcl9 zw1746 zw12 (Or.inl zw1744) dX9_worded_91 ?_
  refine s_bipush dX9_worded_94 (by decide +kernel) ?_
  exact s_icmp_ne dX9_worded_96 (by decide) (wX9_worded_105 hZ hg hd) (wX9_worded_99 hZ hg hd)
noncomputable def vX9_worded_82 (g : Nat → List Nat → rx_H → Option (Nat × rx_H)) : rx_K := o_ld rx_isR 0 (o_callV 0 9 FX9_miss (o_pop (o_const 3 (o_ret1 rx_isR))))
set_option maxRecDepth 20000 in
theorem wX9_worded_82 {dn : Nat} {g : Nat → List Nat → rx_H → Option (Nat × rx_H)} (hZ : zO b e D A X) (hg : ∀ i y M, vl7[i]? = some (y, M) → rx_Met (zV b e D A X) dn y M (g i)) (hd : 204 ≤ dn) : rx_OK (zV b e D A X) mX9_worded (dn + 1) 82 (vX9_worded_82 g) := by
  unfold vX9_worded_82
  refine s_aload_n hZ.1 dX9_worded_82 rfl ?_
  refine s_callV hZ.1 (Met_X9_miss hZ) (Nat.succ_le_succ (Nat.le_trans (Nat.le_of_ble_eq_true rfl) hd)) vy_X9_miss zcl9 zw1762 zw16 (Or.inl zw1760) dX9_worded_83 ?_
  refine s_pop hZ.1 dX9_worded_86 ?_
  refine s_null dX9_worded_87 ?_
  exact s_aret hZ.1 rfl (Or.inl ⟨_, rfl⟩) dX9_worded_88
noncomputable def vX9_worded_74 (g : Nat → List Nat → rx_H → Option (Nat × rx_H)) : rx_K := o_ld rx_isR 0 (o_callV 0 9 FX9_now (o_const 16 (o_c2 rx_eq (vX9_worded_89 g) (vX9_worded_82 g))))
set_option maxRecDepth 20000 in
theorem wX9_worded_74 {dn : Nat} {g : Nat → List Nat → rx_H → Option (Nat × rx_H)} (hZ : zO b e D A X) (hg : ∀ i y M, vl7[i]? = some (y, M) → rx_Met (zV b e D A X) dn y M (g i)) (hd : 204 ≤ dn) : rx_OK (zV b e D A X) mX9_worded (dn + 1) 74 (vX9_worded_74 g) := by
  unfold vX9_worded_74
  refine s_aload_n hZ.1 dX9_worded_74 rfl ?_
  refine s_callV hZ.1 (Met_X9_now hZ) (Nat.succ_le_succ (Nat.le_trans (Nat.le_of_ble_eq_true rfl) hd)) vy_X9_now zcl9 zw1746 zw12 (Or.inl zw1744) dX9_worded_75 ?_
  refine s_iconst dX9_worded_78 (by decide +kernel) ?_
  exact s_icmp_eq dX9_worded_79 (by decide) (wX9_worded_89 hZ hg hd) (wX9_worded_82 hZ hg hd)
noncomputable def vX9_worded_59 (g : Nat → List Nat → rx_H → Option (Nat × rx_H)) : rx_K := o_ld rx_isR 3 (o_const 248 (o_putf rx_isI 8 0 (o_ld rx_isR 0 (o_callV 0 9 FX9_now (o_const 208 (o_c2 rx_eq (vX9_worded_89 g) (vX9_worded_74 g)))))))
set_option maxRecDepth 20000 in
theorem wX9_worded_59 {dn : Nat} {g : Nat → List Nat → rx_H → Option (Nat × rx_H)} (hZ : zO b e D A X) (hg : ∀ i y M, vl7[i]? = some (y, M) → rx_Met (zV b e D A X) dn y M (g i)) (hd : 204 ≤ dn) : rx_OK (zV b e D A X) mX9_worded (dn + 1) 59 (vX9_worded_59 g) := by
  unfold vX9_worded_59
  refine s_aload_n hZ.1 dX9_worded_59 rfl ?_
  refine s_bipush dX9_worded_60 (by decide +kernel) ?_
  refine yp8_0 hZ.1 dX9_worded_62 zw460 ?_
  refine s_aload_n hZ.1 dX9_worded_65 rfl ?_
  refine s_callV hZ.1 (Met_X9_now hZ) (Nat.succ_le_succ (Nat.le_trans (Nat.le_of_ble_eq_true rfl) hd)) vy_X9_now zcl9 zw1746 zw12 (Or.inl zw1744) dX9_worded_66 ?_
  refine s_bipush dX9_worded_69 (by decide +kernel) ?_
  exact s_icmp_eq dX9_worded_71 (by decide) (wX9_worded_89 hZ hg hd) (wX9_worded_74 hZ hg hd)
noncomputable def vX9_worded_53 (g : Nat → List Nat → rx_H → Option (Nat × rx_H)) : rx_K := o_ld rx_isI 1 (o_const 216 (o_c2 rx_eq (vX9_worded_59 g) (vX9_worded_144 g)))
set_option maxRecDepth 20000 in
theorem wX9_worded_53 {dn : Nat} {g : Nat → List Nat → rx_H → Option (Nat × rx_H)} (hZ : zO b e D A X) (hg : ∀ i y M, vl7[i]? = some (y, M) → rx_Met (zV b e D A X) dn y M (g i)) (hd : 204 ≤ dn) : rx_OK (zV b e D A X) mX9_worded (dn + 1) 53 (vX9_worded_53 g) := by
  unfold vX9_worded_53
  refine s_iload_n hZ.1 dX9_worded_53 rfl ?_
  refine s_bipush dX9_worded_54 (by decide +kernel) ?_
  exact s_icmp_ne dX9_worded_56 (by decide) (wX9_worded_144 hZ hg hd) (wX9_worded_59 hZ hg hd)
noncomputable def vX9_worded_46 (g : Nat → List Nat → rx_H → Option (Nat × rx_H)) : rx_K := o_ld rx_isR 0 (o_ld rx_isR 3 (o_ld rx_isI 2 (o_callV 2 9 (g 3) (o_ret1 rx_isR))))
set_option maxRecDepth 20000 in
theorem wX9_worded_46 {dn : Nat} {g : Nat → List Nat → rx_H → Option (Nat × rx_H)} (hZ : zO b e D A X) (hg : ∀ i y M, vl7[i]? = some (y, M) → rx_Met (zV b e D A X) dn y M (g i)) (hd : 204 ≤ dn) : rx_OK (zV b e D A X) mX9_worded (dn + 1) 46 (vX9_worded_46 g) := by
  unfold vX9_worded_46
  refine s_aload_n hZ.1 dX9_worded_46 rfl ?_
  refine s_aload_n hZ.1 dX9_worded_47 rfl ?_
  refine s_iload_n hZ.1 dX9_worded_48 rfl ?_
  refine s_callV hZ.1 (hg 3 _ _ rfl) (Nat.le_refl _) vy_X9_tried zcl9 zw1882 zw40 (Or.inl zw1880) dX9_worded_49 ?_
  exact s_aret hZ.1 rfl (Or.inl ⟨_, rfl⟩) dX9_worded_52
noncomputable def vX9_worded_40 (g : Nat → List Nat → rx_H → Option (Nat × rx_H)) : rx_K := o_ld rx_isI 1 (o_const 264 (o_c2 rx_eq (vX9_worded_46 g) (vX9_worded_53 g)))
set_option maxRecDepth 20000 in
theorem wX9_worded_40 {dn : Nat} {g : Nat → List Nat → rx_H → Option (Nat × rx_H)} (hZ : zO b e D A X) (hg : ∀ i y M, vl7[i]? = some (y, M) → rx_Met (zV b e D A X) dn y M (g i)) (hd : 204 ≤ dn) : rx_OK (zV b e D A X) mX9_worded (dn + 1) 40 (vX9_worded_40 g) := by
  unfold vX9_worded_40
  refine s_iload_n hZ.1 dX9_worded_40 rfl ?_
  refine s_bipush dX9_worded_41 (by decide +kernel) ?_
  exact s_icmp_ne dX9_worded_43 (by decide) (wX9_worded_53 hZ hg hd) (wX9_worded_46 hZ hg hd)
noncomputable def vX9_worded_32 (g : Nat → List Nat → rx_H → Option (Nat × rx_H)) : rx_K := o_ld rx_isR 0 (o_ld rx_isR 3 (o_ld rx_isI 1 (o_ld rx_isI 2 (o_callV 3 9 (g 2) (o_ret1 rx_isR)))))
set_option maxRecDepth 20000 in
theorem wX9_worded_32 {dn : Nat} {g : Nat → List Nat → rx_H → Option (Nat × rx_H)} (hZ : zO b e D A X) (hg : ∀ i y M, vl7[i]? = some (y, M) → rx_Met (zV b e D A X) dn y M (g i)) (hd : 204 ≤ dn) : rx_OK (zV b e D A X) mX9_worded (dn + 1) 32 (vX9_worded_32 g) := by
  unfold vX9_worded_32
  refine s_aload_n hZ.1 dX9_worded_32 rfl ?_
  refine s_aload_n hZ.1 dX9_worded_33 rfl ?_
  refine s_iload_n hZ.1 dX9_worded_34 rfl ?_
  refine s_iload_n hZ.1 dX9_worded_35 rfl ?_
  refine s_callV hZ.1 (hg 2 _ _ rfl) (Nat.le_refl _) vy_X9_tested zcl9 zw1878 zw39 (Or.inl zw1876) dX9_worded_36 ?_
  exact s_aret hZ.1 rfl (Or.inl ⟨_, rfl⟩) dX9_worded_39
noncomputable def vX9_worded_26 (g : Nat → List Nat → rx_H → Option (Nat × rx_H)) : rx_K := o_ld rx_isI 1 (o_const 240 (o_c2 rx_eq (vX9_worded_32 g) (vX9_worded_40 g)))
set_option maxRecDepth 20000 in
theorem wX9_worded_26 {dn : Nat} {g : Nat → List Nat → rx_H → Option (Nat × rx_H)} (hZ : zO b e D A X) (hg : ∀ i y M, vl7[i]? = some (y, M) → rx_Met (zV b e D A X) dn y M (g i)) (hd : 204 ≤ dn) : rx_OK (zV b e D A X) mX9_worded (dn + 1) 26 (vX9_worded_26 g) := by
  unfold vX9_worded_26
  refine s_iload_n hZ.1 dX9_worded_26 rfl ?_
  refine s_bipush dX9_worded_27 (by decide +kernel) ?_
  exact s_icmp_ne dX9_worded_29 (by decide) (wX9_worded_40 hZ hg hd) (wX9_worded_32 hZ hg hd)
noncomputable def vX9_worded_20 (g : Nat → List Nat → rx_H → Option (Nat × rx_H)) : rx_K := o_ld rx_isI 1 (o_const 224 (o_c2 rx_eq (vX9_worded_32 g) (vX9_worded_26 g)))
set_option maxRecDepth 20000 in
theorem wX9_worded_20 {dn : Nat} {g : Nat → List Nat → rx_H → Option (Nat × rx_H)} (hZ : zO b e D A X) (hg : ∀ i y M, vl7[i]? = some (y, M) → rx_Met (zV b e D A X) dn y M (g i)) (hd : 204 ≤ dn) : rx_OK (zV b e D A X) mX9_worded (dn + 1) 20 (vX9_worded_20 g) := by
  unfold vX9_worded_20
  refine s_iload_n hZ.1 dX9_worded_20 rfl ?_
  refine s_bipush dX9_worded_21 (by decide +kernel) ?_
  exact s_icmp_eq dX9_worded_23 (by decide) (wX9_worded_32 hZ hg hd) (wX9_worded_26 hZ hg hd)
noncomputable def vX9_worded_18 (g : Nat → List Nat → rx_H → Option (Nat × rx_H)) : rx_K := o_const 3 (o_ret1 rx_isR)
set_option maxRecDepth 20000 in
theorem wX9_worded_18 {dn : Nat} {g : Nat → List Nat → rx_H → Option (Nat × rx_H)} (hZ : zO b e D A X) (hg : ∀ i y M, vl7[i]? = some (y, M) → rx_Met (zV b e D A X) dn y M (g i)) (hd : 204 ≤ dn) : rx_OK (zV b e D A X) mX9_worded (dn + 1) 18 (vX9_worded_18 g) := by
  unfold vX9_worded_18
  refine s_null dX9_worded_18 ?_
  exact s_aret hZ.1 rfl (Or.inl ⟨_, rfl⟩) dX9_worded_19
noncomputable def vX9_worded_0 (g : Nat → List Nat → rx_H → Option (Nat × rx_H)) : rx_K := o_ld rx_isR 0 (o_const 296 (o_ld rx_isR 0 (o_getf 9 8 (o_callV 2 9 FX9_node (o_st rx_isR 3 (o_ld rx_isR 0 (o_callV 0 9 FX9_take (o_c1 rx_eq (vX9_worded_18 g) (vX9_worded_20 g)))))))))
set_option maxRecDepth 20000 in
theorem wX9_worded_0 {dn : Nat} {g : Nat → List Nat → rx_H → Option (Nat × rx_H)} (hZ : zO b e D A X) (hg : ∀ i y M, vl7[i]? = some (y, M) → rx_Met (zV b e D A X) dn y M (g i)) (hd : 204 ≤ dn) : rx_OK (zV b e D A X) mX9_worded (dn + 1) 0 (vX9_worded_0 g) := by
  unfold vX9_worded_0
  refine s_aload_n hZ.1 dX9_worded_0 rfl ?_
  refine s_bipush dX9_worded_1 (by decide +kernel) ?_
  refine s_aload_n hZ.1 dX9_worded_3 rfl ?_
  refine yg9_8 dX9_worded_4 zw592 ?_
  refine s_callV hZ.1 (Met_X9_node hZ) (Nat.succ_le_succ (Nat.le_trans (Nat.le_of_ble_eq_true rfl) hd)) vy_X9_node zcl9 zw1811 zw25 (Or.inl zw1809) dX9_worded_7 ?_
  refine s_astore_n hZ.1 dX9_worded_10 rfl (Nat.le_of_ble_eq_true rfl) ?_
  refine s_aload_n hZ.1 dX9_worded_11 rfl ?_
  refine s_callV hZ.1 (Met_X9_take hZ) (Nat.succ_le_succ (Nat.le_trans (Nat.le_of_ble_eq_true rfl) hd)) vy_X9_take zcl9 zw1754 zw14 (Or.inl zw1752) dX9_worded_12 ?_
  exact s_if_ne dX9_worded_15 (by decide) (wX9_worded_20 hZ hg hd) (wX9_worded_18 hZ hg hd)
noncomputable def FX9_worded (g : Nat → List Nat → rx_H → Option (Nat × rx_H)) : List Nat → rx_H → Option (Nat × rx_H) := rx_ent 4 (vX9_worded_0 g)
theorem Met_X9_worded {dn : Nat} {g : Nat → List Nat → rx_H → Option (Nat × rx_H)} (hZ : zO b e D A X) (hg : ∀ i y M, vl7[i]? = some (y, M) → rx_Met (zV b e D A X) dn y M (g i)) (hd : 204 ≤ dn) : rx_Met (zV b e D A X) (dn + 1) yX9_worded mX9_worded (FX9_worded g) := rx_entry hZ.1 (wX9_worded_0 hZ hg hd) (by decide +kernel) rfl (fun h => by cases h)
noncomputable def q7 (n : Nat) : Nat → List Nat → rx_H → Option (Nat × rx_H) := Nat.rec (fun _ _ _ => none) (fun _ ih i => rx_nth [FX9_block ih, FX9_statement ih, FX9_tested ih, FX9_tried ih, FX9_worded ih] i (fun _ _ => none)) n
theorem q7_ok (hZ : zO b e D A X) : ∀ n i y M, vl7[i]? = some (y, M) → rx_Met (zV b e D A X) (204 + n) y M (q7 n i)
  | 0 => fun i y M _ As h r h2 hf => by cases hf
  | n + 1 => fun i y M h => by
    match i, h with
    | 0, h => cases h; exact Met_X9_block hZ (q7_ok hZ n) (Nat.le_add_right 204 n)
    | 1, h => cases h; exact Met_X9_statement hZ (q7_ok hZ n) (Nat.le_add_right 204 n)
    | 2, h => cases h; exact Met_X9_tested hZ (q7_ok hZ n) (Nat.le_add_right 204 n)
    | 3, h => cases h; exact Met_X9_tried hZ (q7_ok hZ n) (Nat.le_add_right 204 n)
    | 4, h => cases h; exact Met_X9_worded hZ (q7_ok hZ n) (Nat.le_add_right 204 n)
    | _ + 5, h => exact absurd h (by simp)
abbrev mX9_readBody : rx_M := (RX9, cX9_readBody, 2, (some .boolean), false)
theorem vy_X9_readBody : rx_Y (zV b e D A X) yX9_readBody mX9_readBody 1 := ⟨zw1804, zw414, by decide, by decide +kernel, by decide +kernel, by decide +kernel⟩
noncomputable def vX9_readBody_88 : rx_K := o_ret1 rx_isZ
set_option maxRecDepth 20000 in
theorem wX9_readBody_88 (hZ : zO b e D A X) : rx_OK (zV b e D A X) mX9_readBody 405 88 vX9_readBody_88 := by
  unfold vX9_readBody_88
  exact s_zret rx_z_ok rfl dX9_readBody_88
noncomputable def vX9_readBody_87 : rx_K := o_const 0 (vX9_readBody_88)
set_option maxRecDepth 20000 in
theorem wX9_readBody_87 (hZ : zO b e D A X) : rx_OK (zV b e D A X) mX9_readBody 405 87 vX9_readBody_87 := by
  unfold vX9_readBody_87
  refine s_iconst dX9_readBody_87 (by decide +kernel) ?_
  exact (wX9_readBody_88 hZ)
noncomputable def vX9_readBody_83 : rx_K := o_const 8 (vX9_readBody_88)
set_option maxRecDepth 20000 in
theorem wX9_readBody_83 (hZ : zO b e D A X) : rx_OK (zV b e D A X) mX9_readBody 405 83 vX9_readBody_83 := by
  unfold vX9_readBody_83
  refine s_iconst dX9_readBody_83 (by decide +kernel) ?_
  exact s_goto dX9_readBody_84 (by decide) (wX9_readBody_88 hZ)
noncomputable def vX9_readBody_73 : rx_K := o_ld rx_isR 0 (o_const 1272 (o_callV 1 9 FX9_need (o_c1 rx_eq vX9_readBody_87 vX9_readBody_83)))
set_option maxRecDepth 20000 in
theorem wX9_readBody_73 (hZ : zO b e D A X) : rx_OK (zV b e D A X) mX9_readBody 405 73 vX9_readBody_73 := by
  unfold vX9_readBody_73
  refine s_aload_n hZ.1 dX9_readBody_73 rfl ?_
  refine s_sipush dX9_readBody_74 (by decide +kernel) ?_
  refine s_callV hZ.1 (Met_X9_need hZ) (Nat.le_of_ble_eq_true rfl) vy_X9_need zcl9 zw1779 zw19 (Or.inl zw1777) dX9_readBody_77 ?_
  exact s_if_eq dX9_readBody_80 (by decide) (wX9_readBody_87 hZ) (wX9_readBody_83 hZ)
noncomputable def vX9_readBody_66 : rx_K := o_ld rx_isR 1 (o_getf 7 6 (o_c1 rx_eq vX9_readBody_73 vX9_readBody_83))
set_option maxRecDepth 20000 in
theorem wX9_readBody_66 (hZ : zO b e D A X) : rx_OK (zV b e D A X) mX9_readBody 405 66 vX9_readBody_66 := by
  unfold vX9_readBody_66
  refine s_aload_n hZ.1 dX9_readBody_66 rfl ?_
  refine yg7_6 dX9_readBody_67 zw1000 ?_
  exact s_if_ne dX9_readBody_70 (by decide) (wX9_readBody_83 hZ) (wX9_readBody_73 hZ)
noncomputable def vX9_readBody_48 : rx_K := o_putf rx_isR 7 14 (o_ld rx_isR 1 (o_ld rx_isR 0 (o_getf 9 8 (o_putf rx_isI 7 13 (o_ld rx_isR 0 (o_getf 9 9 (o_c1 rx_eq vX9_readBody_66 vX9_readBody_87)))))))
set_option maxRecDepth 20000 in
theorem wX9_readBody_48 (hZ : zO b e D A X) : rx_OK (zV b e D A X) mX9_readBody 405 48 vX9_readBody_48 := by
  unfold vX9_readBody_48
  refine yp7_14 hZ.1 dX9_readBody_48 zw1050 ?_
  refine s_aload_n hZ.1 dX9_readBody_51 rfl ?_
  refine s_aload_n hZ.1 dX9_readBody_52 rfl ?_
  refine yg9_8 dX9_readBody_53 zw592 ?_
  refine yp7_13 hZ.1 dX9_readBody_56 zw1045 ?_
  refine s_aload_n hZ.1 dX9_readBody_59 rfl ?_
  refine yg9_9 dX9_readBody_60 zw593 ?_
  exact s_if_ne dX9_readBody_63 (by decide) (wX9_readBody_87 hZ) (wX9_readBody_66 hZ)
noncomputable def vX9_readBody_43 : rx_K := o_ld rx_isR 0 (o_const 0 (o_callV 1 9 (q6 200 3) (vX9_readBody_48)))
set_option maxRecDepth 20000 in
theorem wX9_readBody_43 (hZ : zO b e D A X) : rx_OK (zV b e D A X) mX9_readBody 405 43 vX9_readBody_43 := by
  unfold vX9_readBody_43
  refine s_aload_n hZ.1 dX9_readBody_43 rfl ?_
  refine s_iconst dX9_readBody_44 (by decide +kernel) ?_
  refine s_callV hZ.1 (q6_ok hZ 200 3 _ _ rfl) (Nat.le_of_ble_eq_true rfl) vy_X9_expr zcl9 zw1835 zw29 (Or.inl zw1833) dX9_readBody_45 ?_
  exact (wX9_readBody_48 hZ)
noncomputable def vX9_readBody_35 : rx_K := o_ld rx_isR 0 (o_const 0 (o_callV 1 9 (q7 200 0) (vX9_readBody_48)))
set_option maxRecDepth 20000 in
theorem wX9_readBody_35 (hZ : zO b e D A X) : rx_OK (zV b e D A X) mX9_readBody 405 35 vX9_readBody_35 := by
  unfold vX9_readBody_35
  refine s_aload_n hZ.1 dX9_readBody_35 rfl ?_
  refine s_iconst dX9_readBody_36 (by decide +kernel) ?_
  refine s_callV hZ.1 (q7_ok hZ 200 0 _ _ rfl) (Nat.le_of_ble_eq_true rfl) vy_X9_block zcl9 zw1807 zw24 (Or.inl zw1805) dX9_readBody_37 ?_
  exact s_goto dX9_readBody_40 (by decide) (wX9_readBody_48 hZ)
noncomputable def vX9_readBody_24 : rx_K := o_putf rx_isZ 7 6 (o_ld rx_isR 1 (o_ld rx_isR 1 (o_getf 7 6 (o_c1 rx_eq vX9_readBody_43 vX9_readBody_35))))
set_option maxRecDepth 20000 in
theorem wX9_readBody_24 (hZ : zO b e D A X) : rx_OK (zV b e D A X) mX9_readBody 405 24 vX9_readBody_24 := by
  unfold vX9_readBody_24
  refine yp7_6 hZ.1 dX9_readBody_24 zw1000 ?_
  refine s_aload_n hZ.1 dX9_readBody_27 rfl ?_
  refine s_aload_n hZ.1 dX9_readBody_28 rfl ?_
  refine yg7_6 dX9_readBody_29 zw1000 ?_
  exact s_if_eq dX9_readBody_32 (by decide) (wX9_readBody_43 hZ) (wX9_readBody_35 hZ)
noncomputable def vX9_readBody_23 : rx_K := o_const 0 (vX9_readBody_24)
set_option maxRecDepth 20000 in
theorem wX9_readBody_23 (hZ : zO b e D A X) : rx_OK (zV b e D A X) mX9_readBody 405 23 vX9_readBody_23 := by
  unfold vX9_readBody_23
  refine s_iconst dX9_readBody_23 (by decide +kernel) ?_
  exact (wX9_readBody_24 hZ)
noncomputable def vX9_readBody_19 : rx_K := o_const 8 (vX9_readBody_24)
set_option maxRecDepth 20000 in
theorem wX9_readBody_19 (hZ : zO b e D A X) : rx_OK (zV b e D A X) mX9_readBody 405 19 vX9_readBody_19 := by
  unfold vX9_readBody_19
  refine s_iconst dX9_readBody_19 (by decide +kernel) ?_
  exact s_goto dX9_readBody_20 (by decide) (wX9_readBody_24 hZ)
noncomputable def vX9_readBody_0 : rx_K := o_ld rx_isR 1 (o_ld rx_isR 0 (o_getf 9 8 (o_putf rx_isI 7 12 (o_ld rx_isR 1 (o_ld rx_isR 0 (o_getf 9 12 (o_const 1784 (o_c2 rx_eq vX9_readBody_19 vX9_readBody_23))))))))
set_option maxRecDepth 20000 in
theorem wX9_readBody_0 (hZ : zO b e D A X) : rx_OK (zV b e D A X) mX9_readBody 405 0 vX9_readBody_0 := by
  unfold vX9_readBody_0
  refine s_aload_n hZ.1 dX9_readBody_0 rfl ?_
  refine s_aload_n hZ.1 dX9_readBody_1 rfl ?_
  refine yg9_8 dX9_readBody_2 zw592 ?_
  refine yp7_12 hZ.1 dX9_readBody_5 zw1042 ?_
  refine s_aload_n hZ.1 dX9_readBody_8 rfl ?_
  refine s_aload_n hZ.1 dX9_readBody_9 rfl ?_
  refine yg9_12 dX9_readBody_10 zw598 ?_
  refine s_sipush dX9_readBody_13 (by decide +kernel) ?_
  exact s_icmp_ne dX9_readBody_16 (by decide) (wX9_readBody_23 hZ) (wX9_readBody_19 hZ)
noncomputable def FX9_readBody : List Nat → rx_H → Option (Nat × rx_H) := rx_ent 2 vX9_readBody_0
theorem Met_X9_readBody (hZ : zO b e D A X) : rx_Met (zV b e D A X) 405 yX9_readBody mX9_readBody (FX9_readBody) := rx_entry hZ.1 (wX9_readBody_0 hZ) (by decide +kernel) rfl (fun h => by cases h)
abbrev mX10_list : rx_M := (RX10, cX10_list, 4, none, false)
theorem vy_X10_list : rx_Y (zV b e D A X) yX10_list mX10_list 2 := ⟨zw1776, zw425, by decide, by decide +kernel, by decide +kernel, by decide +kernel⟩
noncomputable def vX10_list_38 : rx_K := o_ret0
set_option maxRecDepth 20000 in
theorem wX10_list_38 (hZ : zO b e D A X) : rx_OK (zV b e D A X) mX10_list 0 38 vX10_list_38 := by
  unfold vX10_list_38
  exact s_vret rfl dX10_list_38
noncomputable def vX10_list_11 : rx_K := o_ld rx_isR 0 (o_getf 10 10 (o_ld rx_isI 1 (o_const 64 (o_bi (fun x y => x * y) (o_ld rx_isR 0 (o_getf 10 11 (o_ld rx_isI 1 (o_ald 0 (o_bi (fun x y => x + y) (o_ld rx_isL 2 (o_ast 1 (fun v => v) rx_isL (o_ld rx_isR 0 (o_getf 10 11 (o_ld rx_isI 1 (o_dup2 (o_ald 0 (o_const 8 (o_bi (fun x y => x + y) (o_ast 0 (fun v => v) rx_isI (vX10_list_38))))))))))))))))))))
set_option maxRecDepth 20000 in
theorem wX10_list_11 (hZ : zO b e D A X) : rx_OK (zV b e D A X) mX10_list 0 11 vX10_list_11 := by
  unfold vX10_list_11
  refine s_aload_n hZ.1 dX10_list_11 rfl ?_
  refine yg10_10 dX10_list_12 zw836 ?_
  refine s_iload_n hZ.1 dX10_list_15 rfl ?_
  refine s_bipush dX10_list_16 (by decide +kernel) ?_
  refine s_imul dX10_list_18 ?_
  refine s_aload_n hZ.1 dX10_list_19 rfl ?_
  refine yg10_11 dX10_list_20 zw838 ?_
  refine s_iload_n hZ.1 dX10_list_23 rfl ?_
  refine s_iald (tt := 0) rfl dX10_list_24 ?_
  refine s_iadd dX10_list_25 ?_
  refine s_lload_n hZ.1 dX10_list_26 rfl ?_
  refine s_last (tt := 1) rfl dX10_list_27 ?_
  refine s_aload_n hZ.1 dX10_list_28 rfl ?_
  refine yg10_11 dX10_list_29 zw838 ?_
  refine s_iload_n hZ.1 dX10_list_32 rfl ?_
  refine s_dup2 hZ.1 dX10_list_33 ?_
  refine s_iald (tt := 0) rfl dX10_list_34 ?_
  refine s_iconst dX10_list_35 (by decide +kernel) ?_
  refine s_iadd dX10_list_36 ?_
  refine s_iast hZ.1 (tt := 0) rfl dX10_list_37 ?_
  exact (wX10_list_38 hZ)
noncomputable def vX10_list_0 : rx_K := o_ld rx_isR 0 (o_getf 10 11 (o_ld rx_isI 1 (o_ald 0 (o_const 64 (o_c2 rx_lt vX10_list_11 vX10_list_38)))))
set_option maxRecDepth 20000 in
theorem wX10_list_0 (hZ : zO b e D A X) : rx_OK (zV b e D A X) mX10_list 0 0 vX10_list_0 := by
  unfold vX10_list_0
  refine s_aload_n hZ.1 dX10_list_0 rfl ?_
  refine yg10_11 dX10_list_1 zw838 ?_
  refine s_iload_n hZ.1 dX10_list_4 rfl ?_
  refine s_iald (tt := 0) rfl dX10_list_5 ?_
  refine s_bipush dX10_list_6 (by decide +kernel) ?_
  exact s_icmp_ge dX10_list_8 (by decide) (wX10_list_38 hZ) (wX10_list_11 hZ)
noncomputable def FX10_list : List Nat → rx_H → Option (Nat × rx_H) := rx_ent 4 vX10_list_0
theorem Met_X10_list (hZ : zO b e D A X) : rx_Met (zV b e D A X) 0 yX10_list mX10_list (FX10_list) := rx_entry hZ.1 (wX10_list_0 hZ) (by decide +kernel) rfl (fun h => by cases h)
abbrev mX9_readList : rx_M := (RX9, cX9_readList, 7, (some .boolean), false)
theorem vy_X9_readList : rx_Y (zV b e D A X) yX9_readList mX9_readList 4 := ⟨zw1772, zw414, by decide, by decide +kernel, by decide +kernel, by decide +kernel⟩
noncomputable def vX9_readList_112 (j : Nat → rx_K) : rx_K := o_const 8 (o_ret1 rx_isZ)
set_option maxRecDepth 20000 in
theorem wX9_readList_112 (hZ : zO b e D A X) (j : Nat → rx_K) (hj : ∀ k pc, [16][k]? = some pc → rx_OK (zV b e D A X) mX9_readList 2 pc (j k)) : rx_OK (zV b e D A X) mX9_readList 2 112 (vX9_readList_112 j) := by
  unfold vX9_readList_112
  refine s_iconst dX9_readList_112 (by decide +kernel) ?_
  exact s_zret rx_z_ok rfl dX9_readList_113
noncomputable def vX9_readList_104 (j : Nat → rx_K) : rx_K := o_st rx_isI 5 (o_inc 6 (1) ((j 0)))
set_option maxRecDepth 20000 in
theorem wX9_readList_104 (hZ : zO b e D A X) (j : Nat → rx_K) (hj : ∀ k pc, [16][k]? = some pc → rx_OK (zV b e D A X) mX9_readList 2 pc (j k)) : rx_OK (zV b e D A X) mX9_readList 2 104 (vX9_readList_104 j) := by
  unfold vX9_readList_104
  refine s_istore hZ.1 dX9_readList_104 (Nat.le_of_ble_eq_true rfl) ?_
  refine s_iinc hZ.1 dX9_readList_106 (Nat.le_of_ble_eq_true rfl) ?_
  exact s_goto dX9_readList_109 (by decide) (hj 0 16 rfl)
noncomputable def vX9_readList_103 (j : Nat → rx_K) : rx_K := o_const 0 ((vX9_readList_104 j))
set_option maxRecDepth 20000 in
theorem wX9_readList_103 (hZ : zO b e D A X) (j : Nat → rx_K) (hj : ∀ k pc, [16][k]? = some pc → rx_OK (zV b e D A X) mX9_readList 2 pc (j k)) : rx_OK (zV b e D A X) mX9_readList 2 103 (vX9_readList_103 j) := by
  unfold vX9_readList_103
  refine s_iconst dX9_readList_103 (by decide +kernel) ?_
  exact (wX9_readList_104 hZ j hj)
noncomputable def vX9_readList_99 (j : Nat → rx_K) : rx_K := o_const 8 ((vX9_readList_104 j))
set_option maxRecDepth 20000 in
theorem wX9_readList_99 (hZ : zO b e D A X) (j : Nat → rx_K) (hj : ∀ k pc, [16][k]? = some pc → rx_OK (zV b e D A X) mX9_readList 2 pc (j k)) : rx_OK (zV b e D A X) mX9_readList 2 99 (vX9_readList_99 j) := by
  unfold vX9_readList_99
  refine s_iconst dX9_readList_99 (by decide +kernel) ?_
  exact s_goto dX9_readList_100 (by decide) (wX9_readList_104 hZ j hj)
noncomputable def vX9_readList_89 (j : Nat → rx_K) : rx_K := o_ld rx_isR 0 (o_callV 0 9 FX9_now (o_const 1152 (o_c2 rx_eq (vX9_readList_99 j) (vX9_readList_103 j))))
set_option maxRecDepth 20000 in
theorem wX9_readList_89 (hZ : zO b e D A X) (j : Nat → rx_K) (hj : ∀ k pc, [16][k]? = some pc → rx_OK (zV b e D A X) mX9_readList 2 pc (j k)) : rx_OK (zV b e D A X) mX9_readList 2 89 (vX9_readList_89 j) := by
  unfold vX9_readList_89
  refine s_aload_n hZ.1 dX9_readList_89 rfl ?_
  refine s_callV hZ.1 (Met_X9_now hZ) (Nat.le_of_ble_eq_true rfl) vy_X9_now zcl9 zw1746 zw12 (Or.inl zw1744) dX9_readList_90 ?_
  refine s_sipush dX9_readList_93 (by decide +kernel) ?_
  exact s_icmp_ne dX9_readList_96 (by decide) (wX9_readList_103 hZ j hj) (wX9_readList_99 hZ j hj)
noncomputable def vX9_readList_87 (j : Nat → rx_K) : rx_K := o_const 0 (o_ret1 rx_isZ)
set_option maxRecDepth 20000 in
theorem wX9_readList_87 (hZ : zO b e D A X) (j : Nat → rx_K) (hj : ∀ k pc, [16][k]? = some pc → rx_OK (zV b e D A X) mX9_readList 2 pc (j k)) : rx_OK (zV b e D A X) mX9_readList 2 87 (vX9_readList_87 j) := by
  unfold vX9_readList_87
  refine s_iconst dX9_readList_87 (by decide +kernel) ?_
  exact s_zret rx_z_ok rfl dX9_readList_88
noncomputable def vX9_readList_66 (j : Nat → rx_K) : rx_K := o_ld rx_isR 1 (o_ld rx_isI 3 (o_ld rx_isR 0 (o_getf 9 4 (o_ld rx_isR 0 (o_getf 9 8 (o_ald 1 (o_callV 2 10 FX10_list (o_ld rx_isR 0 (o_callV 0 9 FX9_take (o_c1 rx_eq (vX9_readList_87 j) (vX9_readList_89 j)))))))))))
set_option maxRecDepth 20000 in
theorem wX9_readList_66 (hZ : zO b e D A X) (j : Nat → rx_K) (hj : ∀ k pc, [16][k]? = some pc → rx_OK (zV b e D A X) mX9_readList 2 pc (j k)) : rx_OK (zV b e D A X) mX9_readList 2 66 (vX9_readList_66 j) := by
  unfold vX9_readList_66
  refine s_aload_n hZ.1 dX9_readList_66 rfl ?_
  refine s_iload_n hZ.1 dX9_readList_67 rfl ?_
  refine s_aload_n hZ.1 dX9_readList_68 rfl ?_
  refine yg9_4 dX9_readList_69 zw586 ?_
  refine s_aload_n hZ.1 dX9_readList_72 rfl ?_
  refine yg9_8 dX9_readList_73 zw592 ?_
  refine s_lald (tt := 1) rfl dX9_readList_76 ?_
  refine s_callV hZ.1 (Met_X10_list hZ) (Nat.le_of_ble_eq_true rfl) vy_X10_list zcl10 zw1774 zw1775 (Or.inl zw1773) dX9_readList_77 ?_
  refine s_aload_n hZ.1 dX9_readList_80 rfl ?_
  refine s_callV hZ.1 (Met_X9_take hZ) (Nat.le_of_ble_eq_true rfl) vy_X9_take zcl9 zw1754 zw14 (Or.inl zw1752) dX9_readList_81 ?_
  exact s_if_ne dX9_readList_84 (by decide) (wX9_readList_89 hZ j hj) (wX9_readList_87 hZ j hj)
noncomputable def vX9_readList_60 (j : Nat → rx_K) : rx_K := o_ld rx_isR 0 (o_const 24 (o_callV 1 9 FX9_stop (o_ret1 rx_isZ)))
set_option maxRecDepth 20000 in
theorem wX9_readList_60 (hZ : zO b e D A X) (j : Nat → rx_K) (hj : ∀ k pc, [16][k]? = some pc → rx_OK (zV b e D A X) mX9_readList 2 pc (j k)) : rx_OK (zV b e D A X) mX9_readList 2 60 (vX9_readList_60 j) := by
  unfold vX9_readList_60
  refine s_aload_n hZ.1 dX9_readList_60 rfl ?_
  refine s_iconst dX9_readList_61 (by decide +kernel) ?_
  refine s_callV hZ.1 (Met_X9_stop hZ) (Nat.le_of_ble_eq_true rfl) vy_X9_stop zcl9 zw1758 zw15 (Or.inl zw1756) dX9_readList_62 ?_
  exact s_zret rx_z_ok rfl dX9_readList_65
noncomputable def vX9_readList_49 (j : Nat → rx_K) : rx_K := o_ld rx_isR 1 (o_getf 10 11 (o_ld rx_isI 3 (o_ald 0 (o_ld rx_isI 4 (o_c2 rx_lt (vX9_readList_66 j) (vX9_readList_60 j))))))
set_option maxRecDepth 20000 in
theorem wX9_readList_49 (hZ : zO b e D A X) (j : Nat → rx_K) (hj : ∀ k pc, [16][k]? = some pc → rx_OK (zV b e D A X) mX9_readList 2 pc (j k)) : rx_OK (zV b e D A X) mX9_readList 2 49 (vX9_readList_49 j) := by
  unfold vX9_readList_49
  refine s_aload_n hZ.1 dX9_readList_49 rfl ?_
  refine yg10_11 dX9_readList_50 zw844 ?_
  refine s_iload_n hZ.1 dX9_readList_53 rfl ?_
  refine s_iald (tt := 0) rfl dX9_readList_54 ?_
  refine s_iload hZ.1 dX9_readList_55 ?_
  exact s_icmp_lt dX9_readList_57 (by decide) (wX9_readList_66 hZ j hj) (wX9_readList_60 hZ j hj)
noncomputable def vX9_readList_44 (j : Nat → rx_K) : rx_K := o_ld rx_isR 0 (o_callV 0 9 FX9_miss (o_ret1 rx_isZ))
set_option maxRecDepth 20000 in
theorem wX9_readList_44 (hZ : zO b e D A X) (j : Nat → rx_K) (hj : ∀ k pc, [16][k]? = some pc → rx_OK (zV b e D A X) mX9_readList 2 pc (j k)) : rx_OK (zV b e D A X) mX9_readList 2 44 (vX9_readList_44 j) := by
  unfold vX9_readList_44
  refine s_aload_n hZ.1 dX9_readList_44 rfl ?_
  refine s_callV hZ.1 (Met_X9_miss hZ) (Nat.le_of_ble_eq_true rfl) vy_X9_miss zcl9 zw1762 zw16 (Or.inl zw1760) dX9_readList_45 ?_
  exact s_zret rx_z_ok rfl dX9_readList_48
noncomputable def vX9_readList_36 (j : Nat → rx_K) : rx_K := o_ld rx_isR 0 (o_callV 0 9 FX9_now (o_const 16 (o_c2 rx_eq (vX9_readList_49 j) (vX9_readList_44 j))))
set_option maxRecDepth 20000 in
theorem wX9_readList_36 (hZ : zO b e D A X) (j : Nat → rx_K) (hj : ∀ k pc, [16][k]? = some pc → rx_OK (zV b e D A X) mX9_readList 2 pc (j k)) : rx_OK (zV b e D A X) mX9_readList 2 36 (vX9_readList_36 j) := by
  unfold vX9_readList_36
  refine s_aload_n hZ.1 dX9_readList_36 rfl ?_
  refine s_callV hZ.1 (Met_X9_now hZ) (Nat.le_of_ble_eq_true rfl) vy_X9_now zcl9 zw1746 zw12 (Or.inl zw1744) dX9_readList_37 ?_
  refine s_iconst dX9_readList_40 (by decide +kernel) ?_
  exact s_icmp_eq dX9_readList_41 (by decide) (wX9_readList_49 hZ j hj) (wX9_readList_44 hZ j hj)
noncomputable def vX9_readList_29 (j : Nat → rx_K) : rx_K := o_ld rx_isR 0 (o_callV 0 9 FX9_take (o_c1 rx_eq (vX9_readList_44 j) (vX9_readList_36 j)))
set_option maxRecDepth 20000 in
theorem wX9_readList_29 (hZ : zO b e D A X) (j : Nat → rx_K) (hj : ∀ k pc, [16][k]? = some pc → rx_OK (zV b e D A X) mX9_readList 2 pc (j k)) : rx_OK (zV b e D A X) mX9_readList 2 29 (vX9_readList_29 j) := by
  unfold vX9_readList_29
  refine s_aload_n hZ.1 dX9_readList_29 rfl ?_
  refine s_callV hZ.1 (Met_X9_take hZ) (Nat.le_of_ble_eq_true rfl) vy_X9_take zcl9 zw1754 zw14 (Or.inl zw1752) dX9_readList_30 ?_
  exact s_if_eq dX9_readList_33 (by decide) (wX9_readList_44 hZ j hj) (wX9_readList_36 hZ j hj)
noncomputable def vX9_readList_24 (j : Nat → rx_K) : rx_K := o_ld rx_isI 5 (o_c1 rx_eq (vX9_readList_112 j) (vX9_readList_29 j))
set_option maxRecDepth 20000 in
theorem wX9_readList_24 (hZ : zO b e D A X) (j : Nat → rx_K) (hj : ∀ k pc, [16][k]? = some pc → rx_OK (zV b e D A X) mX9_readList 2 pc (j k)) : rx_OK (zV b e D A X) mX9_readList 2 24 (vX9_readList_24 j) := by
  unfold vX9_readList_24
  refine s_iload hZ.1 dX9_readList_24 ?_
  exact s_if_eq dX9_readList_26 (by decide) (wX9_readList_112 hZ j hj) (wX9_readList_29 hZ j hj)
noncomputable def vX9_readList_16 (j : Nat → rx_K) : rx_K := o_ld rx_isI 6 (o_const 5600 (o_c2 rx_lt (vX9_readList_24 j) (vX9_readList_112 j)))
set_option maxRecDepth 20000 in
theorem wX9_readList_16 (hZ : zO b e D A X) (j : Nat → rx_K) (hj : ∀ k pc, [16][k]? = some pc → rx_OK (zV b e D A X) mX9_readList 2 pc (j k)) : rx_OK (zV b e D A X) mX9_readList 2 16 (vX9_readList_16 j) := by
  unfold vX9_readList_16
  refine s_iload hZ.1 dX9_readList_16 ?_
  refine s_sipush dX9_readList_18 (by decide +kernel) ?_
  exact s_icmp_ge dX9_readList_21 (by decide) (wX9_readList_112 hZ j hj) (wX9_readList_24 hZ j hj)
noncomputable def vX9_readList_10 (j : Nat → rx_K) : rx_K := o_const 8 (o_st rx_isI 5 (o_const 0 (o_st rx_isI 6 ((vX9_readList_16 j)))))
set_option maxRecDepth 20000 in
theorem wX9_readList_10 (hZ : zO b e D A X) (j : Nat → rx_K) (hj : ∀ k pc, [16][k]? = some pc → rx_OK (zV b e D A X) mX9_readList 2 pc (j k)) : rx_OK (zV b e D A X) mX9_readList 2 10 (vX9_readList_10 j) := by
  unfold vX9_readList_10
  refine s_iconst dX9_readList_10 (by decide +kernel) ?_
  refine s_istore hZ.1 dX9_readList_11 (Nat.le_of_ble_eq_true rfl) ?_
  refine s_iconst dX9_readList_13 (by decide +kernel) ?_
  refine s_istore hZ.1 dX9_readList_14 (Nat.le_of_ble_eq_true rfl) ?_
  exact (wX9_readList_16 hZ j hj)
noncomputable def vX9_readList_8 (j : Nat → rx_K) : rx_K := o_const 8 (o_ret1 rx_isZ)
set_option maxRecDepth 20000 in
theorem wX9_readList_8 (hZ : zO b e D A X) (j : Nat → rx_K) (hj : ∀ k pc, [16][k]? = some pc → rx_OK (zV b e D A X) mX9_readList 2 pc (j k)) : rx_OK (zV b e D A X) mX9_readList 2 8 (vX9_readList_8 j) := by
  unfold vX9_readList_8
  refine s_iconst dX9_readList_8 (by decide +kernel) ?_
  exact s_zret rx_z_ok rfl dX9_readList_9
noncomputable def vX9_readList_0 (j : Nat → rx_K) : rx_K := o_ld rx_isR 0 (o_callV 0 9 FX9_now (o_ld rx_isI 2 (o_c2 rx_eq (vX9_readList_10 j) (vX9_readList_8 j))))
set_option maxRecDepth 20000 in
theorem wX9_readList_0 (hZ : zO b e D A X) (j : Nat → rx_K) (hj : ∀ k pc, [16][k]? = some pc → rx_OK (zV b e D A X) mX9_readList 2 pc (j k)) : rx_OK (zV b e D A X) mX9_readList 2 0 (vX9_readList_0 j) := by
  unfold vX9_readList_0
  refine s_aload_n hZ.1 dX9_readList_0 rfl ?_
  refine s_callV hZ.1 (Met_X9_now hZ) (Nat.le_of_ble_eq_true rfl) vy_X9_now zcl9 zw1746 zw12 (Or.inl zw1744) dX9_readList_1 ?_
  refine s_iload_n hZ.1 dX9_readList_4 rfl ?_
  exact s_icmp_eq dX9_readList_5 (by decide) (wX9_readList_10 hZ j hj) (wX9_readList_8 hZ j hj)
noncomputable def vhX9_readList (j : Nat → rx_K) : List rx_K := [vX9_readList_16 j]
theorem vlX9_readList (hZ : zO b e D A X) : ∀ n k pc, [16][k]? = some pc → rx_OK (zV b e D A X) mX9_readList 2 pc (rx_J (vhX9_readList) n k) := rx_loop fun j hj k pc h => by
  match k, h with
  | 0, h =>
    have e9 := Option.some.inj (show some 16 = some pc from h)
    subst e9
    exact wX9_readList_16 hZ j hj
  | _ + 1, h => exact absurd h (by simp)
noncomputable def FX9_readList : List Nat → rx_H → Option (Nat × rx_H) := rx_ent 7 (vX9_readList_0 (rx_J (vhX9_readList) 4000000000))
theorem Met_X9_readList (hZ : zO b e D A X) : rx_Met (zV b e D A X) 2 yX9_readList mX9_readList (FX9_readList) := rx_entry hZ.1 (wX9_readList_0 hZ _ (vlX9_readList hZ 4000000000)) (by decide +kernel) rfl (fun h => by cases h)
end ZM26

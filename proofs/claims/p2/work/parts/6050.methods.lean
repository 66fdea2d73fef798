section ZM50
variable {b : Nat} {e : Nat → Value} {D : va_G} {A : Nat → ClassId} {X : State → Prop}
abbrev mX13_bridges : rx_M := (RX13, cX13_bridges, 9, none, false)
theorem vy_X13_bridges : rx_Y (zV b e D A X) yX13_bridges mX13_bridges 1 := ⟨zw3288, zw431, by decide, by decide +kernel, by decide +kernel, by decide +kernel⟩
noncomputable def vX13_bridges_204 (j : Nat → rx_K) : rx_K := o_ret0
set_option maxRecDepth 20000 in
theorem wX13_bridges_204 (hZ : zO b e D A X) (j : Nat → rx_K) (hj : ∀ k pc, [12, 73][k]? = some pc → rx_OK (zV b e D A X) mX13_bridges 5 pc (j k)) : rx_OK (zV b e D A X) mX13_bridges 5 204 (vX13_bridges_204 j) := by
  unfold vX13_bridges_204
  exact s_vret rfl dX13_bridges_204
noncomputable def vX13_bridges_198 (j : Nat → rx_K) : rx_K := o_inc 4 (1) ((j 0))
set_option maxRecDepth 20000 in
theorem wX13_bridges_198 (hZ : zO b e D A X) (j : Nat → rx_K) (hj : ∀ k pc, [12, 73][k]? = some pc → rx_OK (zV b e D A X) mX13_bridges 5 pc (j k)) : rx_OK (zV b e D A X) mX13_bridges 5 198 (vX13_bridges_198 j) := by
  unfold vX13_bridges_198
  refine s_iinc hZ.1 dX13_bridges_198 (Nat.le_of_ble_eq_true rfl) ?_
  exact s_goto dX13_bridges_201 (by decide) (hj 0 12 rfl)
noncomputable def vX13_bridges_192 (j : Nat → rx_K) : rx_K := o_inc 6 (1) ((j 1))
set_option maxRecDepth 20000 in
theorem wX13_bridges_192 (hZ : zO b e D A X) (j : Nat → rx_K) (hj : ∀ k pc, [12, 73][k]? = some pc → rx_OK (zV b e D A X) mX13_bridges 5 pc (j k)) : rx_OK (zV b e D A X) mX13_bridges 5 192 (vX13_bridges_192 j) := by
  unfold vX13_bridges_192
  refine s_iinc hZ.1 dX13_bridges_192 (Nat.le_of_ble_eq_true rfl) ?_
  exact s_goto dX13_bridges_195 (by decide) (hj 1 73 rfl)
noncomputable def vX13_bridges_174 (j : Nat → rx_K) : rx_K := o_ld rx_isR 0 (o_ld rx_isI 1 (o_ld rx_isI 5 (o_ld rx_isR 0 (o_getf 13 53 (o_ld rx_isI 7 (o_ald 1 (o_callV 3 13 FX13_bridge (o_pop (o_inc 3 (1) ((vX13_bridges_192 j)))))))))))
set_option maxRecDepth 20000 in
theorem wX13_bridges_174 (hZ : zO b e D A X) (j : Nat → rx_K) (hj : ∀ k pc, [12, 73][k]? = some pc → rx_OK (zV b e D A X) mX13_bridges 5 pc (j k)) : rx_OK (zV b e D A X) mX13_bridges 5 174 (vX13_bridges_174 j) := by
  unfold vX13_bridges_174
  refine s_aload_n hZ.1 dX13_bridges_174 rfl ?_
  refine s_iload_n hZ.1 dX13_bridges_175 rfl ?_
  refine s_iload hZ.1 dX13_bridges_176 ?_
  refine s_aload_n hZ.1 dX13_bridges_178 rfl ?_
  refine yg13_53 dX13_bridges_179 zw4174 ?_
  refine s_iload hZ.1 dX13_bridges_182 ?_
  refine s_lald (tt := 1) rfl dX13_bridges_184 ?_
  refine s_callV hZ.1 (Met_X13_bridge hZ) (Nat.le_of_ble_eq_true rfl) vy_X13_bridge zcl13 zw3303 zw252 (Or.inl zw3301) dX13_bridges_185 ?_
  refine s_pop hZ.1 dX13_bridges_188 ?_
  refine s_iinc hZ.1 dX13_bridges_189 (Nat.le_of_ble_eq_true rfl) ?_
  exact (wX13_bridges_192 hZ j hj)
noncomputable def vX13_bridges_169 (j : Nat → rx_K) : rx_K := o_ld rx_isI 8 (o_c1 rx_eq (vX13_bridges_192 j) (vX13_bridges_174 j))
set_option maxRecDepth 20000 in
theorem wX13_bridges_169 (hZ : zO b e D A X) (j : Nat → rx_K) (hj : ∀ k pc, [12, 73][k]? = some pc → rx_OK (zV b e D A X) mX13_bridges 5 pc (j k)) : rx_OK (zV b e D A X) mX13_bridges 5 169 (vX13_bridges_169 j) := by
  unfold vX13_bridges_169
  refine s_iload hZ.1 dX13_bridges_169 ?_
  exact s_if_eq dX13_bridges_171 (by decide) (wX13_bridges_192 hZ j hj) (wX13_bridges_174 hZ j hj)
noncomputable def vX13_bridges_155 (j : Nat → rx_K) : rx_K := o_ld rx_isR 0 (o_const 24 (o_ld rx_isR 0 (o_getf 13 25 (o_ld rx_isI 1 (o_ald 0 (o_callV 2 13 FX13_fault ((vX13_bridges_192 j))))))))
set_option maxRecDepth 20000 in
theorem wX13_bridges_155 (hZ : zO b e D A X) (j : Nat → rx_K) (hj : ∀ k pc, [12, 73][k]? = some pc → rx_OK (zV b e D A X) mX13_bridges 5 pc (j k)) : rx_OK (zV b e D A X) mX13_bridges 5 155 (vX13_bridges_155 j) := by
  unfold vX13_bridges_155
  refine s_aload_n hZ.1 dX13_bridges_155 rfl ?_
  refine s_iconst dX13_bridges_156 (by decide +kernel) ?_
  refine s_aload_n hZ.1 dX13_bridges_157 rfl ?_
  refine yg13_25 dX13_bridges_158 zw4146 ?_
  refine s_iload_n hZ.1 dX13_bridges_161 rfl ?_
  refine s_iald (tt := 0) rfl dX13_bridges_162 ?_
  refine s_callV hZ.1 (Met_X13_fault hZ) (Nat.le_of_ble_eq_true rfl) vy_X13_fault zcl13 zw3004 zw190 (Or.inl zw3002) dX13_bridges_163 ?_
  exact s_goto dX13_bridges_166 (by decide) (wX13_bridges_192 hZ j hj)
noncomputable def vX13_bridges_149 (j : Nat → rx_K) : rx_K := o_ld rx_isI 3 (o_const 96 (o_c2 rx_eq (vX13_bridges_155 j) (vX13_bridges_169 j)))
set_option maxRecDepth 20000 in
theorem wX13_bridges_149 (hZ : zO b e D A X) (j : Nat → rx_K) (hj : ∀ k pc, [12, 73][k]? = some pc → rx_OK (zV b e D A X) mX13_bridges 5 pc (j k)) : rx_OK (zV b e D A X) mX13_bridges 5 149 (vX13_bridges_149 j) := by
  unfold vX13_bridges_149
  refine s_iload_n hZ.1 dX13_bridges_149 rfl ?_
  refine s_bipush dX13_bridges_150 (by decide +kernel) ?_
  exact s_icmp_ne dX13_bridges_152 (by decide) (wX13_bridges_169 hZ j hj) (wX13_bridges_155 hZ j hj)
noncomputable def vX13_bridges_142 (j : Nat → rx_K) : rx_K := o_st rx_isI 8 (o_ld rx_isI 8 (o_c1 rx_eq (vX13_bridges_169 j) (vX13_bridges_149 j)))
set_option maxRecDepth 20000 in
theorem wX13_bridges_142 (hZ : zO b e D A X) (j : Nat → rx_K) (hj : ∀ k pc, [12, 73][k]? = some pc → rx_OK (zV b e D A X) mX13_bridges 5 pc (j k)) : rx_OK (zV b e D A X) mX13_bridges 5 142 (vX13_bridges_142 j) := by
  unfold vX13_bridges_142
  refine s_istore hZ.1 dX13_bridges_142 (Nat.le_of_ble_eq_true rfl) ?_
  refine s_iload hZ.1 dX13_bridges_144 ?_
  exact s_if_eq dX13_bridges_146 (by decide) (wX13_bridges_169 hZ j hj) (wX13_bridges_149 hZ j hj)
noncomputable def vX13_bridges_141 (j : Nat → rx_K) : rx_K := o_const 0 ((vX13_bridges_142 j))
set_option maxRecDepth 20000 in
theorem wX13_bridges_141 (hZ : zO b e D A X) (j : Nat → rx_K) (hj : ∀ k pc, [12, 73][k]? = some pc → rx_OK (zV b e D A X) mX13_bridges 5 pc (j k)) : rx_OK (zV b e D A X) mX13_bridges 5 141 (vX13_bridges_141 j) := by
  unfold vX13_bridges_141
  refine s_iconst dX13_bridges_141 (by decide +kernel) ?_
  exact (wX13_bridges_142 hZ j hj)
noncomputable def vX13_bridges_137 (j : Nat → rx_K) : rx_K := o_const 8 ((vX13_bridges_142 j))
set_option maxRecDepth 20000 in
theorem wX13_bridges_137 (hZ : zO b e D A X) (j : Nat → rx_K) (hj : ∀ k pc, [12, 73][k]? = some pc → rx_OK (zV b e D A X) mX13_bridges 5 pc (j k)) : rx_OK (zV b e D A X) mX13_bridges 5 137 (vX13_bridges_137 j) := by
  unfold vX13_bridges_137
  refine s_iconst dX13_bridges_137 (by decide +kernel) ?_
  exact s_goto dX13_bridges_138 (by decide) (wX13_bridges_142 hZ j hj)
noncomputable def vX13_bridges_126 (j : Nat → rx_K) : rx_K := o_ld rx_isR 0 (o_ld rx_isI 1 (o_ld rx_isI 2 (o_ld rx_isI 7 (o_callV 3 13 FX13_hasBridge (o_c1 rx_eq (vX13_bridges_137 j) (vX13_bridges_141 j))))))
set_option maxRecDepth 20000 in
theorem wX13_bridges_126 (hZ : zO b e D A X) (j : Nat → rx_K) (hj : ∀ k pc, [12, 73][k]? = some pc → rx_OK (zV b e D A X) mX13_bridges 5 pc (j k)) : rx_OK (zV b e D A X) mX13_bridges 5 126 (vX13_bridges_126 j) := by
  unfold vX13_bridges_126
  refine s_aload_n hZ.1 dX13_bridges_126 rfl ?_
  refine s_iload_n hZ.1 dX13_bridges_127 rfl ?_
  refine s_iload_n hZ.1 dX13_bridges_128 rfl ?_
  refine s_iload hZ.1 dX13_bridges_129 ?_
  refine s_callV hZ.1 (Met_X13_hasBridge hZ) (Nat.le_of_ble_eq_true rfl) vy_X13_hasBridge zcl13 zw3295 zw250 (Or.inl zw3293) dX13_bridges_131 ?_
  exact s_if_ne dX13_bridges_134 (by decide) (wX13_bridges_141 hZ j hj) (wX13_bridges_137 hZ j hj)
noncomputable def vX13_bridges_108 (j : Nat → rx_K) : rx_K := o_ld rx_isR 0 (o_getf 13 53 (o_ld rx_isI 7 (o_ald 1 (o_ld rx_isR 0 (o_getf 13 53 (o_ld rx_isI 5 (o_ald 1 (o_bc (fun x y => lg_cmp x y) (o_c1 rx_eq (vX13_bridges_141 j) (vX13_bridges_126 j))))))))))
set_option maxRecDepth 20000 in
theorem wX13_bridges_108 (hZ : zO b e D A X) (j : Nat → rx_K) (hj : ∀ k pc, [12, 73][k]? = some pc → rx_OK (zV b e D A X) mX13_bridges 5 pc (j k)) : rx_OK (zV b e D A X) mX13_bridges 5 108 (vX13_bridges_108 j) := by
  unfold vX13_bridges_108
  refine s_aload_n hZ.1 dX13_bridges_108 rfl ?_
  refine yg13_53 dX13_bridges_109 zw4174 ?_
  refine s_iload hZ.1 dX13_bridges_112 ?_
  refine s_lald (tt := 1) rfl dX13_bridges_114 ?_
  refine s_aload_n hZ.1 dX13_bridges_115 rfl ?_
  refine yg13_53 dX13_bridges_116 zw4174 ?_
  refine s_iload hZ.1 dX13_bridges_119 ?_
  refine s_lald (tt := 1) rfl dX13_bridges_121 ?_
  refine s_lcmp dX13_bridges_122 ?_
  exact s_if_eq dX13_bridges_123 (by decide) (wX13_bridges_141 hZ j hj) (wX13_bridges_126 hZ j hj)
noncomputable def vX13_bridges_89 (j : Nat → rx_K) : rx_K := o_ld rx_isR 0 (o_getf 13 103 (o_ld rx_isI 6 (o_ald 0 (o_st rx_isI 7 (o_ld rx_isR 0 (o_getf 13 45 (o_ld rx_isI 7 (o_ald 3 (o_c1 rx_eq (vX13_bridges_108 j) (vX13_bridges_141 j))))))))))
set_option maxRecDepth 20000 in
theorem wX13_bridges_89 (hZ : zO b e D A X) (j : Nat → rx_K) (hj : ∀ k pc, [12, 73][k]? = some pc → rx_OK (zV b e D A X) mX13_bridges 5 pc (j k)) : rx_OK (zV b e D A X) mX13_bridges 5 89 (vX13_bridges_89 j) := by
  unfold vX13_bridges_89
  refine s_aload_n hZ.1 dX13_bridges_89 rfl ?_
  refine yg13_103 dX13_bridges_90 zw4223 ?_
  refine s_iload hZ.1 dX13_bridges_93 ?_
  refine s_iald (tt := 0) rfl dX13_bridges_95 ?_
  refine s_istore hZ.1 dX13_bridges_96 (Nat.le_of_ble_eq_true rfl) ?_
  refine s_aload_n hZ.1 dX13_bridges_98 rfl ?_
  refine yg13_45 dX13_bridges_99 zw4166 ?_
  refine s_iload hZ.1 dX13_bridges_102 ?_
  refine s_zald (tt := 3) rfl dX13_bridges_104 ?_
  exact s_if_ne dX13_bridges_105 (by decide) (wX13_bridges_141 hZ j hj) (wX13_bridges_108 hZ j hj)
noncomputable def vX13_bridges_82 (j : Nat → rx_K) : rx_K := o_ld rx_isR 0 (o_getf 13 20 (o_c1 rx_eq (vX13_bridges_89 j) (vX13_bridges_198 j)))
set_option maxRecDepth 20000 in
theorem wX13_bridges_82 (hZ : zO b e D A X) (j : Nat → rx_K) (hj : ∀ k pc, [12, 73][k]? = some pc → rx_OK (zV b e D A X) mX13_bridges 5 pc (j k)) : rx_OK (zV b e D A X) mX13_bridges 5 82 (vX13_bridges_82 j) := by
  unfold vX13_bridges_82
  refine s_aload_n hZ.1 dX13_bridges_82 rfl ?_
  refine yg13_20 dX13_bridges_83 zw4141 ?_
  exact s_if_ne dX13_bridges_86 (by decide) (wX13_bridges_198 hZ j hj) (wX13_bridges_89 hZ j hj)
noncomputable def vX13_bridges_73 (j : Nat → rx_K) : rx_K := o_ld rx_isI 6 (o_ld rx_isR 0 (o_getf 13 104 (o_c2 rx_lt (vX13_bridges_82 j) (vX13_bridges_198 j))))
set_option maxRecDepth 20000 in
theorem wX13_bridges_73 (hZ : zO b e D A X) (j : Nat → rx_K) (hj : ∀ k pc, [12, 73][k]? = some pc → rx_OK (zV b e D A X) mX13_bridges 5 pc (j k)) : rx_OK (zV b e D A X) mX13_bridges 5 73 (vX13_bridges_73 j) := by
  unfold vX13_bridges_73
  refine s_iload hZ.1 dX13_bridges_73 ?_
  refine s_aload_n hZ.1 dX13_bridges_75 rfl ?_
  refine yg13_104 dX13_bridges_76 zw4224 ?_
  exact s_icmp_ge dX13_bridges_79 (by decide) (wX13_bridges_198 hZ j hj) (wX13_bridges_82 hZ j hj)
noncomputable def vX13_bridges_64 (j : Nat → rx_K) : rx_K := o_ld rx_isR 0 (o_ld rx_isI 5 (o_callV 1 13 FX13_findAbove (o_const 0 (o_st rx_isI 6 ((vX13_bridges_73 j))))))
set_option maxRecDepth 20000 in
theorem wX13_bridges_64 (hZ : zO b e D A X) (j : Nat → rx_K) (hj : ∀ k pc, [12, 73][k]? = some pc → rx_OK (zV b e D A X) mX13_bridges 5 pc (j k)) : rx_OK (zV b e D A X) mX13_bridges 5 64 (vX13_bridges_64 j) := by
  unfold vX13_bridges_64
  refine s_aload_n hZ.1 dX13_bridges_64 rfl ?_
  refine s_iload hZ.1 dX13_bridges_65 ?_
  refine s_callV hZ.1 (Met_X13_findAbove hZ) (Nat.le_of_ble_eq_true rfl) vy_X13_findAbove zcl13 zw3251 zw240 (Or.inl zw3249) dX13_bridges_67 ?_
  refine s_iconst dX13_bridges_70 (by decide +kernel) ?_
  refine s_istore hZ.1 dX13_bridges_71 (Nat.le_of_ble_eq_true rfl) ?_
  exact (wX13_bridges_73 hZ j hj)
noncomputable def vX13_bridges_54 (j : Nat → rx_K) : rx_K := o_ld rx_isR 0 (o_getf 13 47 (o_ld rx_isI 5 (o_ald 3 (o_c1 rx_eq (vX13_bridges_64 j) (vX13_bridges_198 j)))))
set_option maxRecDepth 20000 in
theorem wX13_bridges_54 (hZ : zO b e D A X) (j : Nat → rx_K) (hj : ∀ k pc, [12, 73][k]? = some pc → rx_OK (zV b e D A X) mX13_bridges 5 pc (j k)) : rx_OK (zV b e D A X) mX13_bridges 5 54 (vX13_bridges_54 j) := by
  unfold vX13_bridges_54
  refine s_aload_n hZ.1 dX13_bridges_54 rfl ?_
  refine yg13_47 dX13_bridges_55 zw4168 ?_
  refine s_iload hZ.1 dX13_bridges_58 ?_
  refine s_zald (tt := 3) rfl dX13_bridges_60 ?_
  exact s_if_ne dX13_bridges_61 (by decide) (wX13_bridges_198 hZ j hj) (wX13_bridges_64 hZ j hj)
noncomputable def vX13_bridges_45 (j : Nat → rx_K) : rx_K := o_ld rx_isR 0 (o_ld rx_isI 5 (o_callV 1 13 FX13_isFree (o_c1 rx_eq (vX13_bridges_198 j) (vX13_bridges_54 j))))
set_option maxRecDepth 20000 in
theorem wX13_bridges_45 (hZ : zO b e D A X) (j : Nat → rx_K) (hj : ∀ k pc, [12, 73][k]? = some pc → rx_OK (zV b e D A X) mX13_bridges 5 pc (j k)) : rx_OK (zV b e D A X) mX13_bridges 5 45 (vX13_bridges_45 j) := by
  unfold vX13_bridges_45
  refine s_aload_n hZ.1 dX13_bridges_45 rfl ?_
  refine s_iload hZ.1 dX13_bridges_46 ?_
  refine s_callV hZ.1 (Met_X13_isFree hZ) (Nat.le_of_ble_eq_true rfl) vy_X13_isFree zcl13 zw3291 zw249 (Or.inl zw3289) dX13_bridges_48 ?_
  exact s_if_eq dX13_bridges_51 (by decide) (wX13_bridges_198 hZ j hj) (wX13_bridges_54 hZ j hj)
noncomputable def vX13_bridges_25 (j : Nat → rx_K) : rx_K := o_ld rx_isI 1 (o_const 272 (o_bi (fun x y => x * y) (o_ld rx_isI 4 (o_bi (fun x y => x + y) (o_st rx_isI 5 (o_ld rx_isR 0 (o_getf 13 42 (o_ld rx_isI 5 (o_ald 0 (o_const 8 (o_c2 rx_eq (vX13_bridges_45 j) (vX13_bridges_198 j))))))))))))
set_option maxRecDepth 20000 in
theorem wX13_bridges_25 (hZ : zO b e D A X) (j : Nat → rx_K) (hj : ∀ k pc, [12, 73][k]? = some pc → rx_OK (zV b e D A X) mX13_bridges 5 pc (j k)) : rx_OK (zV b e D A X) mX13_bridges 5 25 (vX13_bridges_25 j) := by
  unfold vX13_bridges_25
  refine s_iload_n hZ.1 dX13_bridges_25 rfl ?_
  refine s_bipush dX13_bridges_26 (by decide +kernel) ?_
  refine s_imul dX13_bridges_28 ?_
  refine s_iload hZ.1 dX13_bridges_29 ?_
  refine s_iadd dX13_bridges_31 ?_
  refine s_istore hZ.1 dX13_bridges_32 (Nat.le_of_ble_eq_true rfl) ?_
  refine s_aload_n hZ.1 dX13_bridges_34 rfl ?_
  refine yg13_42 dX13_bridges_35 zw4163 ?_
  refine s_iload hZ.1 dX13_bridges_38 ?_
  refine s_iald (tt := 0) rfl dX13_bridges_40 ?_
  refine s_iconst dX13_bridges_41 (by decide +kernel) ?_
  exact s_icmp_ne dX13_bridges_42 (by decide) (wX13_bridges_198 hZ j hj) (wX13_bridges_45 hZ j hj)
noncomputable def vX13_bridges_18 (j : Nat → rx_K) : rx_K := o_ld rx_isR 0 (o_getf 13 20 (o_c1 rx_eq (vX13_bridges_25 j) (vX13_bridges_204 j)))
set_option maxRecDepth 20000 in
theorem wX13_bridges_18 (hZ : zO b e D A X) (j : Nat → rx_K) (hj : ∀ k pc, [12, 73][k]? = some pc → rx_OK (zV b e D A X) mX13_bridges 5 pc (j k)) : rx_OK (zV b e D A X) mX13_bridges 5 18 (vX13_bridges_18 j) := by
  unfold vX13_bridges_18
  refine s_aload_n hZ.1 dX13_bridges_18 rfl ?_
  refine yg13_20 dX13_bridges_19 zw4141 ?_
  exact s_if_ne dX13_bridges_22 (by decide) (wX13_bridges_204 hZ j hj) (wX13_bridges_25 hZ j hj)
noncomputable def vX13_bridges_12 (j : Nat → rx_K) : rx_K := o_ld rx_isI 4 (o_ld rx_isI 2 (o_c2 rx_lt (vX13_bridges_18 j) (vX13_bridges_204 j)))
set_option maxRecDepth 20000 in
theorem wX13_bridges_12 (hZ : zO b e D A X) (j : Nat → rx_K) (hj : ∀ k pc, [12, 73][k]? = some pc → rx_OK (zV b e D A X) mX13_bridges 5 pc (j k)) : rx_OK (zV b e D A X) mX13_bridges 5 12 (vX13_bridges_12 j) := by
  unfold vX13_bridges_12
  refine s_iload hZ.1 dX13_bridges_12 ?_
  refine s_iload_n hZ.1 dX13_bridges_14 rfl ?_
  exact s_icmp_ge dX13_bridges_15 (by decide) (wX13_bridges_204 hZ j hj) (wX13_bridges_18 hZ j hj)
noncomputable def vX13_bridges_0 (j : Nat → rx_K) : rx_K := o_ld rx_isR 0 (o_getf 13 41 (o_ld rx_isI 1 (o_ald 0 (o_st rx_isI 2 (o_const 0 (o_st rx_isI 3 (o_const 0 (o_st rx_isI 4 ((vX13_bridges_12 j))))))))))
set_option maxRecDepth 20000 in
theorem wX13_bridges_0 (hZ : zO b e D A X) (j : Nat → rx_K) (hj : ∀ k pc, [12, 73][k]? = some pc → rx_OK (zV b e D A X) mX13_bridges 5 pc (j k)) : rx_OK (zV b e D A X) mX13_bridges 5 0 (vX13_bridges_0 j) := by
  unfold vX13_bridges_0
  refine s_aload_n hZ.1 dX13_bridges_0 rfl ?_
  refine yg13_41 dX13_bridges_1 zw4162 ?_
  refine s_iload_n hZ.1 dX13_bridges_4 rfl ?_
  refine s_iald (tt := 0) rfl dX13_bridges_5 ?_
  refine s_istore_n hZ.1 dX13_bridges_6 rfl (Nat.le_of_ble_eq_true rfl) ?_
  refine s_iconst dX13_bridges_7 (by decide +kernel) ?_
  refine s_istore_n hZ.1 dX13_bridges_8 rfl (Nat.le_of_ble_eq_true rfl) ?_
  refine s_iconst dX13_bridges_9 (by decide +kernel) ?_
  refine s_istore hZ.1 dX13_bridges_10 (Nat.le_of_ble_eq_true rfl) ?_
  exact (wX13_bridges_12 hZ j hj)
noncomputable def vhX13_bridges (j : Nat → rx_K) : List rx_K := [vX13_bridges_12 j, vX13_bridges_73 j]
theorem vlX13_bridges (hZ : zO b e D A X) : ∀ n k pc, [12, 73][k]? = some pc → rx_OK (zV b e D A X) mX13_bridges 5 pc (rx_J (vhX13_bridges) n k) := rx_loop fun j hj k pc h => by
  match k, h with
  | 0, h =>
    have e9 := Option.some.inj (show some 12 = some pc from h)
    subst e9
    exact wX13_bridges_12 hZ j hj
  | 1, h =>
    have e9 := Option.some.inj (show some 73 = some pc from h)
    subst e9
    exact wX13_bridges_73 hZ j hj
  | _ + 2, h => exact absurd h (by simp)
noncomputable def FX13_bridges : List Nat → rx_H → Option (Nat × rx_H) := rx_ent 9 (vX13_bridges_0 (rx_J (vhX13_bridges) 4000000000))
theorem Met_X13_bridges (hZ : zO b e D A X) : rx_Met (zV b e D A X) 5 yX13_bridges mX13_bridges (FX13_bridges) := rx_entry hZ.1 (wX13_bridges_0 hZ _ (vlX13_bridges hZ 4000000000)) (by decide +kernel) rfl (fun h => by cases h)
abbrev mX13_makersAndBridges : rx_M := (RX13, cX13_makersAndBridges, 5, none, false)
theorem vy_X13_makersAndBridges : rx_Y (zV b e D A X) yX13_makersAndBridges mX13_makersAndBridges 0 := ⟨zw3284, zw431, by decide, by decide +kernel, by decide +kernel, by decide +kernel⟩
noncomputable def vX13_makersAndBridges_223 (j : Nat → rx_K) : rx_K := o_ret0
set_option maxRecDepth 20000 in
theorem wX13_makersAndBridges_223 (hZ : zO b e D A X) (j : Nat → rx_K) (hj : ∀ k pc, [2, 34, 184][k]? = some pc → rx_OK (zV b e D A X) mX13_makersAndBridges 6 pc (j k)) : rx_OK (zV b e D A X) mX13_makersAndBridges 6 223 (vX13_makersAndBridges_223 j) := by
  unfold vX13_makersAndBridges_223
  exact s_vret rfl dX13_makersAndBridges_223
noncomputable def vX13_makersAndBridges_204 (j : Nat → rx_K) : rx_K := o_ld rx_isR 0 (o_ld rx_isR 0 (o_getf 13 19 (o_const 96 (o_bi (fun x y => x * y) (o_ld rx_isI 1 (o_bi (fun x y => x + y) (o_callV 1 13 FX13_bridges (o_inc 1 (1) ((j 2))))))))))
set_option maxRecDepth 20000 in
theorem wX13_makersAndBridges_204 (hZ : zO b e D A X) (j : Nat → rx_K) (hj : ∀ k pc, [2, 34, 184][k]? = some pc → rx_OK (zV b e D A X) mX13_makersAndBridges 6 pc (j k)) : rx_OK (zV b e D A X) mX13_makersAndBridges 6 204 (vX13_makersAndBridges_204 j) := by
  unfold vX13_makersAndBridges_204
  refine s_aload_n hZ.1 dX13_makersAndBridges_204 rfl ?_
  refine s_aload_n hZ.1 dX13_makersAndBridges_205 rfl ?_
  refine yg13_19 dX13_makersAndBridges_206 zw4140 ?_
  refine s_bipush dX13_makersAndBridges_209 (by decide +kernel) ?_
  refine s_imul dX13_makersAndBridges_211 ?_
  refine s_iload_n hZ.1 dX13_makersAndBridges_212 rfl ?_
  refine s_iadd dX13_makersAndBridges_213 ?_
  refine s_callV hZ.1 (Met_X13_bridges hZ) (Nat.le_of_ble_eq_true rfl) vy_X13_bridges zcl13 zw3287 zw248 (Or.inl zw3285) dX13_makersAndBridges_214 ?_
  refine s_iinc hZ.1 dX13_makersAndBridges_217 (Nat.le_of_ble_eq_true rfl) ?_
  exact s_goto dX13_makersAndBridges_220 (by decide) (hj 2 184 rfl)
noncomputable def vX13_makersAndBridges_197 (j : Nat → rx_K) : rx_K := o_ld rx_isR 0 (o_getf 13 20 (o_c1 rx_eq (vX13_makersAndBridges_204 j) (vX13_makersAndBridges_223 j)))
set_option maxRecDepth 20000 in
theorem wX13_makersAndBridges_197 (hZ : zO b e D A X) (j : Nat → rx_K) (hj : ∀ k pc, [2, 34, 184][k]? = some pc → rx_OK (zV b e D A X) mX13_makersAndBridges 6 pc (j k)) : rx_OK (zV b e D A X) mX13_makersAndBridges 6 197 (vX13_makersAndBridges_197 j) := by
  unfold vX13_makersAndBridges_197
  refine s_aload_n hZ.1 dX13_makersAndBridges_197 rfl ?_
  refine yg13_20 dX13_makersAndBridges_198 zw4141 ?_
  exact s_if_ne dX13_makersAndBridges_201 (by decide) (wX13_makersAndBridges_223 hZ j hj) (wX13_makersAndBridges_204 hZ j hj)
noncomputable def vX13_makersAndBridges_184 (j : Nat → rx_K) : rx_K := o_ld rx_isI 1 (o_ld rx_isR 0 (o_getf 13 23 (o_ld rx_isR 0 (o_getf 13 19 (o_ald 0 (o_c2 rx_lt (vX13_makersAndBridges_197 j) (vX13_makersAndBridges_223 j)))))))
set_option maxRecDepth 20000 in
theorem wX13_makersAndBridges_184 (hZ : zO b e D A X) (j : Nat → rx_K) (hj : ∀ k pc, [2, 34, 184][k]? = some pc → rx_OK (zV b e D A X) mX13_makersAndBridges 6 pc (j k)) : rx_OK (zV b e D A X) mX13_makersAndBridges 6 184 (vX13_makersAndBridges_184 j) := by
  unfold vX13_makersAndBridges_184
  refine s_iload_n hZ.1 dX13_makersAndBridges_184 rfl ?_
  refine s_aload_n hZ.1 dX13_makersAndBridges_185 rfl ?_
  refine yg13_23 dX13_makersAndBridges_186 zw4144 ?_
  refine s_aload_n hZ.1 dX13_makersAndBridges_189 rfl ?_
  refine yg13_19 dX13_makersAndBridges_190 zw4140 ?_
  refine s_iald (tt := 0) rfl dX13_makersAndBridges_193 ?_
  exact s_icmp_ge dX13_makersAndBridges_194 (by decide) (wX13_makersAndBridges_223 hZ j hj) (wX13_makersAndBridges_197 hZ j hj)
noncomputable def vX13_makersAndBridges_182 (j : Nat → rx_K) : rx_K := o_const 0 (o_st rx_isI 1 ((vX13_makersAndBridges_184 j)))
set_option maxRecDepth 20000 in
theorem wX13_makersAndBridges_182 (hZ : zO b e D A X) (j : Nat → rx_K) (hj : ∀ k pc, [2, 34, 184][k]? = some pc → rx_OK (zV b e D A X) mX13_makersAndBridges 6 pc (j k)) : rx_OK (zV b e D A X) mX13_makersAndBridges 6 182 (vX13_makersAndBridges_182 j) := by
  unfold vX13_makersAndBridges_182
  refine s_iconst dX13_makersAndBridges_182 (by decide +kernel) ?_
  refine s_istore_n hZ.1 dX13_makersAndBridges_183 rfl (Nat.le_of_ble_eq_true rfl) ?_
  exact (wX13_makersAndBridges_184 hZ j hj)
noncomputable def vX13_makersAndBridges_176 (j : Nat → rx_K) : rx_K := o_inc 1 (1) ((j 0))
set_option maxRecDepth 20000 in
theorem wX13_makersAndBridges_176 (hZ : zO b e D A X) (j : Nat → rx_K) (hj : ∀ k pc, [2, 34, 184][k]? = some pc → rx_OK (zV b e D A X) mX13_makersAndBridges 6 pc (j k)) : rx_OK (zV b e D A X) mX13_makersAndBridges 6 176 (vX13_makersAndBridges_176 j) := by
  unfold vX13_makersAndBridges_176
  refine s_iinc hZ.1 dX13_makersAndBridges_176 (Nat.le_of_ble_eq_true rfl) ?_
  exact s_goto dX13_makersAndBridges_179 (by decide) (hj 0 2 rfl)
noncomputable def vX13_makersAndBridges_173 (j : Nat → rx_K) : rx_K := o_const 8 (o_bi (fun x y => x + y) (o_ast 0 (fun v => v) rx_isI ((vX13_makersAndBridges_176 j))))
set_option maxRecDepth 20000 in
theorem wX13_makersAndBridges_173 (hZ : zO b e D A X) (j : Nat → rx_K) (hj : ∀ k pc, [2, 34, 184][k]? = some pc → rx_OK (zV b e D A X) mX13_makersAndBridges 6 pc (j k)) : rx_OK (zV b e D A X) mX13_makersAndBridges 6 173 (vX13_makersAndBridges_173 j) := by
  unfold vX13_makersAndBridges_173
  refine s_iconst dX13_makersAndBridges_173 (by decide +kernel) ?_
  refine s_iadd dX13_makersAndBridges_174 ?_
  refine s_iast hZ.1 (tt := 0) rfl dX13_makersAndBridges_175 ?_
  exact (wX13_makersAndBridges_176 hZ j hj)
noncomputable def vX13_makersAndBridges_136 (j : Nat → rx_K) : rx_K := o_ast 0 (fun v => v) rx_isI (o_ld rx_isR 0 (o_getf 13 47 (o_ld rx_isI 4 (o_const 0 (o_ast 3 (fun v => v) rx_isZ (o_ld rx_isR 0 (o_getf 13 50 (o_ld rx_isI 4 (o_const 8 (o_ast 3 (fun v => v) rx_isZ (o_ld rx_isR 0 (o_getf 13 52 (o_ld rx_isI 4 (o_ld rx_isR 0 (o_getf 13 25 (o_ld rx_isI 2 (o_ald 0 (o_ast 0 (fun v => v) rx_isI (o_ld rx_isR 0 (o_getf 13 41 (o_ld rx_isI 2 (o_dup2 (o_ald 0 ((vX13_makersAndBridges_173 j)))))))))))))))))))))))))
set_option maxRecDepth 20000 in
theorem wX13_makersAndBridges_136 (hZ : zO b e D A X) (j : Nat → rx_K) (hj : ∀ k pc, [2, 34, 184][k]? = some pc → rx_OK (zV b e D A X) mX13_makersAndBridges 6 pc (j k)) : rx_OK (zV b e D A X) mX13_makersAndBridges 6 136 (vX13_makersAndBridges_136 j) := by
  unfold vX13_makersAndBridges_136
  refine s_iast hZ.1 (tt := 0) rfl dX13_makersAndBridges_136 ?_
  refine s_aload_n hZ.1 dX13_makersAndBridges_137 rfl ?_
  refine yg13_47 dX13_makersAndBridges_138 zw4168 ?_
  refine s_iload hZ.1 dX13_makersAndBridges_141 ?_
  refine s_iconst dX13_makersAndBridges_143 (by decide +kernel) ?_
  refine s_zast (tt := 3) rfl dX13_makersAndBridges_144 ?_
  refine s_aload_n hZ.1 dX13_makersAndBridges_145 rfl ?_
  refine yg13_50 dX13_makersAndBridges_146 zw4171 ?_
  refine s_iload hZ.1 dX13_makersAndBridges_149 ?_
  refine s_iconst dX13_makersAndBridges_151 (by decide +kernel) ?_
  refine s_zast (tt := 3) rfl dX13_makersAndBridges_152 ?_
  refine s_aload_n hZ.1 dX13_makersAndBridges_153 rfl ?_
  refine yg13_52 dX13_makersAndBridges_154 zw4173 ?_
  refine s_iload hZ.1 dX13_makersAndBridges_157 ?_
  refine s_aload_n hZ.1 dX13_makersAndBridges_159 rfl ?_
  refine yg13_25 dX13_makersAndBridges_160 zw4146 ?_
  refine s_iload_n hZ.1 dX13_makersAndBridges_163 rfl ?_
  refine s_iald (tt := 0) rfl dX13_makersAndBridges_164 ?_
  refine s_iast hZ.1 (tt := 0) rfl dX13_makersAndBridges_165 ?_
  refine s_aload_n hZ.1 dX13_makersAndBridges_166 rfl ?_
  refine yg13_41 dX13_makersAndBridges_167 zw4162 ?_
  refine s_iload_n hZ.1 dX13_makersAndBridges_170 rfl ?_
  refine s_dup2 hZ.1 dX13_makersAndBridges_171 ?_
  refine s_iald (tt := 0) rfl dX13_makersAndBridges_172 ?_
  exact (wX13_makersAndBridges_173 hZ j hj)
noncomputable def vX13_makersAndBridges_135 (j : Nat → rx_K) : rx_K := o_const 8 ((vX13_makersAndBridges_136 j))
set_option maxRecDepth 20000 in
theorem wX13_makersAndBridges_135 (hZ : zO b e D A X) (j : Nat → rx_K) (hj : ∀ k pc, [2, 34, 184][k]? = some pc → rx_OK (zV b e D A X) mX13_makersAndBridges 6 pc (j k)) : rx_OK (zV b e D A X) mX13_makersAndBridges 6 135 (vX13_makersAndBridges_135 j) := by
  unfold vX13_makersAndBridges_135
  refine s_iconst dX13_makersAndBridges_135 (by decide +kernel) ?_
  exact (wX13_makersAndBridges_136 hZ j hj)
noncomputable def vX13_makersAndBridges_131 (j : Nat → rx_K) : rx_K := o_const 24 ((vX13_makersAndBridges_136 j))
set_option maxRecDepth 20000 in
theorem wX13_makersAndBridges_131 (hZ : zO b e D A X) (j : Nat → rx_K) (hj : ∀ k pc, [2, 34, 184][k]? = some pc → rx_OK (zV b e D A X) mX13_makersAndBridges 6 pc (j k)) : rx_OK (zV b e D A X) mX13_makersAndBridges 6 131 (vX13_makersAndBridges_131 j) := by
  unfold vX13_makersAndBridges_131
  refine s_iconst dX13_makersAndBridges_131 (by decide +kernel) ?_
  exact s_goto dX13_makersAndBridges_132 (by decide) (wX13_makersAndBridges_136 hZ j hj)
noncomputable def vX13_makersAndBridges_120 (j : Nat → rx_K) : rx_K := o_ld rx_isI 4 (o_ld rx_isR 0 (o_getf 13 26 (o_ld rx_isI 2 (o_ald 3 (o_c1 rx_eq (vX13_makersAndBridges_135 j) (vX13_makersAndBridges_131 j))))))
set_option maxRecDepth 20000 in
theorem wX13_makersAndBridges_120 (hZ : zO b e D A X) (j : Nat → rx_K) (hj : ∀ k pc, [2, 34, 184][k]? = some pc → rx_OK (zV b e D A X) mX13_makersAndBridges 6 pc (j k)) : rx_OK (zV b e D A X) mX13_makersAndBridges 6 120 (vX13_makersAndBridges_120 j) := by
  unfold vX13_makersAndBridges_120
  refine s_iload hZ.1 dX13_makersAndBridges_120 ?_
  refine s_aload_n hZ.1 dX13_makersAndBridges_122 rfl ?_
  refine yg13_26 dX13_makersAndBridges_123 zw4147 ?_
  refine s_iload_n hZ.1 dX13_makersAndBridges_126 rfl ?_
  refine s_zald (tt := 3) rfl dX13_makersAndBridges_127 ?_
  exact s_if_eq dX13_makersAndBridges_128 (by decide) (wX13_makersAndBridges_135 hZ j hj) (wX13_makersAndBridges_131 hZ j hj)
noncomputable def vX13_makersAndBridges_81 (j : Nat → rx_K) : rx_K := o_ld rx_isI 2 (o_const 272 (o_bi (fun x y => x * y) (o_ld rx_isR 0 (o_getf 13 41 (o_ld rx_isI 2 (o_ald 0 (o_bi (fun x y => x + y) (o_st rx_isI 4 (o_ld rx_isR 0 (o_ld rx_isI 4 (o_callV 1 13 FX13_newMember (o_ld rx_isR 0 (o_getf 13 42 (o_ld rx_isI 4 (o_const 16 (o_ast 0 (fun v => v) rx_isI (o_ld rx_isR 0 (o_getf 13 43 (o_ld rx_isI 4 (o_const 0 (o_ast 0 (fun v => v) rx_isI (o_ld rx_isR 0 (o_getf 13 44 ((vX13_makersAndBridges_120 j)))))))))))))))))))))))))
set_option maxRecDepth 20000 in
theorem wX13_makersAndBridges_81 (hZ : zO b e D A X) (j : Nat → rx_K) (hj : ∀ k pc, [2, 34, 184][k]? = some pc → rx_OK (zV b e D A X) mX13_makersAndBridges 6 pc (j k)) : rx_OK (zV b e D A X) mX13_makersAndBridges 6 81 (vX13_makersAndBridges_81 j) := by
  unfold vX13_makersAndBridges_81
  refine s_iload_n hZ.1 dX13_makersAndBridges_81 rfl ?_
  refine s_bipush dX13_makersAndBridges_82 (by decide +kernel) ?_
  refine s_imul dX13_makersAndBridges_84 ?_
  refine s_aload_n hZ.1 dX13_makersAndBridges_85 rfl ?_
  refine yg13_41 dX13_makersAndBridges_86 zw4162 ?_
  refine s_iload_n hZ.1 dX13_makersAndBridges_89 rfl ?_
  refine s_iald (tt := 0) rfl dX13_makersAndBridges_90 ?_
  refine s_iadd dX13_makersAndBridges_91 ?_
  refine s_istore hZ.1 dX13_makersAndBridges_92 (Nat.le_of_ble_eq_true rfl) ?_
  refine s_aload_n hZ.1 dX13_makersAndBridges_94 rfl ?_
  refine s_iload hZ.1 dX13_makersAndBridges_95 ?_
  refine s_callV hZ.1 (Met_X13_newMember hZ) (Nat.le_of_ble_eq_true rfl) vy_X13_newMember zcl13 zw3056 zw199 (Or.inl zw3054) dX13_makersAndBridges_97 ?_
  refine s_aload_n hZ.1 dX13_makersAndBridges_100 rfl ?_
  refine yg13_42 dX13_makersAndBridges_101 zw4163 ?_
  refine s_iload hZ.1 dX13_makersAndBridges_104 ?_
  refine s_iconst dX13_makersAndBridges_106 (by decide +kernel) ?_
  refine s_iast hZ.1 (tt := 0) rfl dX13_makersAndBridges_107 ?_
  refine s_aload_n hZ.1 dX13_makersAndBridges_108 rfl ?_
  refine yg13_43 dX13_makersAndBridges_109 zw4164 ?_
  refine s_iload hZ.1 dX13_makersAndBridges_112 ?_
  refine s_iconst dX13_makersAndBridges_114 (by decide +kernel) ?_
  refine s_iast hZ.1 (tt := 0) rfl dX13_makersAndBridges_115 ?_
  refine s_aload_n hZ.1 dX13_makersAndBridges_116 rfl ?_
  refine yg13_44 dX13_makersAndBridges_117 zw4165 ?_
  exact (wX13_makersAndBridges_120 hZ j hj)
noncomputable def vX13_makersAndBridges_77 (j : Nat → rx_K) : rx_K := o_ld rx_isI 3 (o_c1 rx_eq (vX13_makersAndBridges_81 j) (vX13_makersAndBridges_176 j))
set_option maxRecDepth 20000 in
theorem wX13_makersAndBridges_77 (hZ : zO b e D A X) (j : Nat → rx_K) (hj : ∀ k pc, [2, 34, 184][k]? = some pc → rx_OK (zV b e D A X) mX13_makersAndBridges 6 pc (j k)) : rx_OK (zV b e D A X) mX13_makersAndBridges 6 77 (vX13_makersAndBridges_77 j) := by
  unfold vX13_makersAndBridges_77
  refine s_iload_n hZ.1 dX13_makersAndBridges_77 rfl ?_
  exact s_if_ne dX13_makersAndBridges_78 (by decide) (wX13_makersAndBridges_176 hZ j hj) (wX13_makersAndBridges_81 hZ j hj)
noncomputable def vX13_makersAndBridges_70 (j : Nat → rx_K) : rx_K := o_st rx_isI 3 (o_inc 4 (1) ((j 1)))
set_option maxRecDepth 20000 in
theorem wX13_makersAndBridges_70 (hZ : zO b e D A X) (j : Nat → rx_K) (hj : ∀ k pc, [2, 34, 184][k]? = some pc → rx_OK (zV b e D A X) mX13_makersAndBridges 6 pc (j k)) : rx_OK (zV b e D A X) mX13_makersAndBridges 6 70 (vX13_makersAndBridges_70 j) := by
  unfold vX13_makersAndBridges_70
  refine s_istore_n hZ.1 dX13_makersAndBridges_70 rfl (Nat.le_of_ble_eq_true rfl) ?_
  refine s_iinc hZ.1 dX13_makersAndBridges_71 (Nat.le_of_ble_eq_true rfl) ?_
  exact s_goto dX13_makersAndBridges_74 (by decide) (hj 1 34 rfl)
noncomputable def vX13_makersAndBridges_69 (j : Nat → rx_K) : rx_K := o_const 0 ((vX13_makersAndBridges_70 j))
set_option maxRecDepth 20000 in
theorem wX13_makersAndBridges_69 (hZ : zO b e D A X) (j : Nat → rx_K) (hj : ∀ k pc, [2, 34, 184][k]? = some pc → rx_OK (zV b e D A X) mX13_makersAndBridges 6 pc (j k)) : rx_OK (zV b e D A X) mX13_makersAndBridges 6 69 (vX13_makersAndBridges_69 j) := by
  unfold vX13_makersAndBridges_69
  refine s_iconst dX13_makersAndBridges_69 (by decide +kernel) ?_
  exact (wX13_makersAndBridges_70 hZ j hj)
noncomputable def vX13_makersAndBridges_65 (j : Nat → rx_K) : rx_K := o_const 8 ((vX13_makersAndBridges_70 j))
set_option maxRecDepth 20000 in
theorem wX13_makersAndBridges_65 (hZ : zO b e D A X) (j : Nat → rx_K) (hj : ∀ k pc, [2, 34, 184][k]? = some pc → rx_OK (zV b e D A X) mX13_makersAndBridges 6 pc (j k)) : rx_OK (zV b e D A X) mX13_makersAndBridges 6 65 (vX13_makersAndBridges_65 j) := by
  unfold vX13_makersAndBridges_65
  refine s_iconst dX13_makersAndBridges_65 (by decide +kernel) ?_
  exact s_goto dX13_makersAndBridges_66 (by decide) (wX13_makersAndBridges_70 hZ j hj)
noncomputable def vX13_makersAndBridges_49 (j : Nat → rx_K) : rx_K := o_ld rx_isR 0 (o_getf 13 42 (o_ld rx_isI 2 (o_const 272 (o_bi (fun x y => x * y) (o_ld rx_isI 4 (o_bi (fun x y => x + y) (o_ald 0 (o_const 16 (o_c2 rx_eq (vX13_makersAndBridges_65 j) (vX13_makersAndBridges_69 j))))))))))
set_option maxRecDepth 20000 in
theorem wX13_makersAndBridges_49 (hZ : zO b e D A X) (j : Nat → rx_K) (hj : ∀ k pc, [2, 34, 184][k]? = some pc → rx_OK (zV b e D A X) mX13_makersAndBridges 6 pc (j k)) : rx_OK (zV b e D A X) mX13_makersAndBridges 6 49 (vX13_makersAndBridges_49 j) := by
  unfold vX13_makersAndBridges_49
  refine s_aload_n hZ.1 dX13_makersAndBridges_49 rfl ?_
  refine yg13_42 dX13_makersAndBridges_50 zw4163 ?_
  refine s_iload_n hZ.1 dX13_makersAndBridges_53 rfl ?_
  refine s_bipush dX13_makersAndBridges_54 (by decide +kernel) ?_
  refine s_imul dX13_makersAndBridges_56 ?_
  refine s_iload hZ.1 dX13_makersAndBridges_57 ?_
  refine s_iadd dX13_makersAndBridges_59 ?_
  refine s_iald (tt := 0) rfl dX13_makersAndBridges_60 ?_
  refine s_iconst dX13_makersAndBridges_61 (by decide +kernel) ?_
  exact s_icmp_ne dX13_makersAndBridges_62 (by decide) (wX13_makersAndBridges_69 hZ j hj) (wX13_makersAndBridges_65 hZ j hj)
noncomputable def vX13_makersAndBridges_45 (j : Nat → rx_K) : rx_K := o_ld rx_isI 3 (o_c1 rx_eq (vX13_makersAndBridges_49 j) (vX13_makersAndBridges_65 j))
set_option maxRecDepth 20000 in
theorem wX13_makersAndBridges_45 (hZ : zO b e D A X) (j : Nat → rx_K) (hj : ∀ k pc, [2, 34, 184][k]? = some pc → rx_OK (zV b e D A X) mX13_makersAndBridges 6 pc (j k)) : rx_OK (zV b e D A X) mX13_makersAndBridges 6 45 (vX13_makersAndBridges_45 j) := by
  unfold vX13_makersAndBridges_45
  refine s_iload_n hZ.1 dX13_makersAndBridges_45 rfl ?_
  exact s_if_ne dX13_makersAndBridges_46 (by decide) (wX13_makersAndBridges_65 hZ j hj) (wX13_makersAndBridges_49 hZ j hj)
noncomputable def vX13_makersAndBridges_34 (j : Nat → rx_K) : rx_K := o_ld rx_isI 4 (o_ld rx_isR 0 (o_getf 13 41 (o_ld rx_isI 2 (o_ald 0 (o_c2 rx_lt (vX13_makersAndBridges_45 j) (vX13_makersAndBridges_77 j))))))
set_option maxRecDepth 20000 in
theorem wX13_makersAndBridges_34 (hZ : zO b e D A X) (j : Nat → rx_K) (hj : ∀ k pc, [2, 34, 184][k]? = some pc → rx_OK (zV b e D A X) mX13_makersAndBridges 6 pc (j k)) : rx_OK (zV b e D A X) mX13_makersAndBridges 6 34 (vX13_makersAndBridges_34 j) := by
  unfold vX13_makersAndBridges_34
  refine s_iload hZ.1 dX13_makersAndBridges_34 ?_
  refine s_aload_n hZ.1 dX13_makersAndBridges_36 rfl ?_
  refine yg13_41 dX13_makersAndBridges_37 zw4162 ?_
  refine s_iload_n hZ.1 dX13_makersAndBridges_40 rfl ?_
  refine s_iald (tt := 0) rfl dX13_makersAndBridges_41 ?_
  exact s_icmp_ge dX13_makersAndBridges_42 (by decide) (wX13_makersAndBridges_77 hZ j hj) (wX13_makersAndBridges_45 hZ j hj)
noncomputable def vX13_makersAndBridges_15 (j : Nat → rx_K) : rx_K := o_ld rx_isR 0 (o_getf 13 19 (o_const 96 (o_bi (fun x y => x * y) (o_ld rx_isI 1 (o_bi (fun x y => x + y) (o_st rx_isI 2 (o_ld rx_isR 0 (o_ld rx_isI 2 (o_callV 1 13 FX13_isFace (o_st rx_isI 3 (o_const 0 (o_st rx_isI 4 ((vX13_makersAndBridges_34 j))))))))))))))
set_option maxRecDepth 20000 in
theorem wX13_makersAndBridges_15 (hZ : zO b e D A X) (j : Nat → rx_K) (hj : ∀ k pc, [2, 34, 184][k]? = some pc → rx_OK (zV b e D A X) mX13_makersAndBridges 6 pc (j k)) : rx_OK (zV b e D A X) mX13_makersAndBridges 6 15 (vX13_makersAndBridges_15 j) := by
  unfold vX13_makersAndBridges_15
  refine s_aload_n hZ.1 dX13_makersAndBridges_15 rfl ?_
  refine yg13_19 dX13_makersAndBridges_16 zw4140 ?_
  refine s_bipush dX13_makersAndBridges_19 (by decide +kernel) ?_
  refine s_imul dX13_makersAndBridges_21 ?_
  refine s_iload_n hZ.1 dX13_makersAndBridges_22 rfl ?_
  refine s_iadd dX13_makersAndBridges_23 ?_
  refine s_istore_n hZ.1 dX13_makersAndBridges_24 rfl (Nat.le_of_ble_eq_true rfl) ?_
  refine s_aload_n hZ.1 dX13_makersAndBridges_25 rfl ?_
  refine s_iload_n hZ.1 dX13_makersAndBridges_26 rfl ?_
  refine s_callV hZ.1 (Met_X13_isFace hZ) (Nat.le_of_ble_eq_true rfl) vy_X13_isFace zcl13 zw3192 zw227 (Or.inl zw3190) dX13_makersAndBridges_27 ?_
  refine s_istore_n hZ.1 dX13_makersAndBridges_30 rfl (Nat.le_of_ble_eq_true rfl) ?_
  refine s_iconst dX13_makersAndBridges_31 (by decide +kernel) ?_
  refine s_istore hZ.1 dX13_makersAndBridges_32 (Nat.le_of_ble_eq_true rfl) ?_
  exact (wX13_makersAndBridges_34 hZ j hj)
noncomputable def vX13_makersAndBridges_2 (j : Nat → rx_K) : rx_K := o_ld rx_isI 1 (o_ld rx_isR 0 (o_getf 13 23 (o_ld rx_isR 0 (o_getf 13 19 (o_ald 0 (o_c2 rx_lt (vX13_makersAndBridges_15 j) (vX13_makersAndBridges_182 j)))))))
set_option maxRecDepth 20000 in
theorem wX13_makersAndBridges_2 (hZ : zO b e D A X) (j : Nat → rx_K) (hj : ∀ k pc, [2, 34, 184][k]? = some pc → rx_OK (zV b e D A X) mX13_makersAndBridges 6 pc (j k)) : rx_OK (zV b e D A X) mX13_makersAndBridges 6 2 (vX13_makersAndBridges_2 j) := by
  unfold vX13_makersAndBridges_2
  refine s_iload_n hZ.1 dX13_makersAndBridges_2 rfl ?_
  refine s_aload_n hZ.1 dX13_makersAndBridges_3 rfl ?_
  refine yg13_23 dX13_makersAndBridges_4 zw4144 ?_
  refine s_aload_n hZ.1 dX13_makersAndBridges_7 rfl ?_
  refine yg13_19 dX13_makersAndBridges_8 zw4140 ?_
  refine s_iald (tt := 0) rfl dX13_makersAndBridges_11 ?_
  exact s_icmp_ge dX13_makersAndBridges_12 (by decide) (wX13_makersAndBridges_182 hZ j hj) (wX13_makersAndBridges_15 hZ j hj)
noncomputable def vX13_makersAndBridges_0 (j : Nat → rx_K) : rx_K := o_const 0 (o_st rx_isI 1 ((vX13_makersAndBridges_2 j)))
set_option maxRecDepth 20000 in
theorem wX13_makersAndBridges_0 (hZ : zO b e D A X) (j : Nat → rx_K) (hj : ∀ k pc, [2, 34, 184][k]? = some pc → rx_OK (zV b e D A X) mX13_makersAndBridges 6 pc (j k)) : rx_OK (zV b e D A X) mX13_makersAndBridges 6 0 (vX13_makersAndBridges_0 j) := by
  unfold vX13_makersAndBridges_0
  refine s_iconst dX13_makersAndBridges_0 (by decide +kernel) ?_
  refine s_istore_n hZ.1 dX13_makersAndBridges_1 rfl (Nat.le_of_ble_eq_true rfl) ?_
  exact (wX13_makersAndBridges_2 hZ j hj)
noncomputable def vhX13_makersAndBridges (j : Nat → rx_K) : List rx_K := [vX13_makersAndBridges_2 j, vX13_makersAndBridges_34 j, vX13_makersAndBridges_184 j]
theorem vlX13_makersAndBridges (hZ : zO b e D A X) : ∀ n k pc, [2, 34, 184][k]? = some pc → rx_OK (zV b e D A X) mX13_makersAndBridges 6 pc (rx_J (vhX13_makersAndBridges) n k) := rx_loop fun j hj k pc h => by
  match k, h with
  | 0, h =>
    have e9 := Option.some.inj (show some 2 = some pc from h)
    subst e9
    exact wX13_makersAndBridges_2 hZ j hj
  | 1, h =>
    have e9 := Option.some.inj (show some 34 = some pc from h)
    subst e9
    exact wX13_makersAndBridges_34 hZ j hj
  | 2, h =>
    have e9 := Option.some.inj (show some 184 = some pc from h)
    subst e9
    exact wX13_makersAndBridges_184 hZ j hj
  | _ + 3, h => exact absurd h (by simp)
noncomputable def FX13_makersAndBridges : List Nat → rx_H → Option (Nat × rx_H) := rx_ent 5 (vX13_makersAndBridges_0 (rx_J (vhX13_makersAndBridges) 4000000000))
theorem Met_X13_makersAndBridges (hZ : zO b e D A X) : rx_Met (zV b e D A X) 6 yX13_makersAndBridges mX13_makersAndBridges (FX13_makersAndBridges) := rx_entry hZ.1 (wX13_makersAndBridges_0 hZ _ (vlX13_makersAndBridges hZ 4000000000)) (by decide +kernel) rfl (fun h => by cases h)
abbrev mX13_lackingOf : rx_M := (RX13, cX13_lackingOf, 5, none, false)
theorem vy_X13_lackingOf : rx_Y (zV b e D A X) yX13_lackingOf mX13_lackingOf 2 := ⟨zw3312, zw431, by decide, by decide +kernel, by decide +kernel, by decide +kernel⟩
noncomputable def vX13_lackingOf_78 (j : Nat → rx_K) : rx_K := o_ret0
set_option maxRecDepth 20000 in
theorem wX13_lackingOf_78 (hZ : zO b e D A X) (j : Nat → rx_K) (hj : ∀ k pc, [2][k]? = some pc → rx_OK (zV b e D A X) mX13_lackingOf 6 pc (j k)) : rx_OK (zV b e D A X) mX13_lackingOf 6 78 (vX13_lackingOf_78 j) := by
  unfold vX13_lackingOf_78
  exact s_vret rfl dX13_lackingOf_78
noncomputable def vX13_lackingOf_72 (j : Nat → rx_K) : rx_K := o_inc 3 (1) ((j 0))
set_option maxRecDepth 20000 in
theorem wX13_lackingOf_72 (hZ : zO b e D A X) (j : Nat → rx_K) (hj : ∀ k pc, [2][k]? = some pc → rx_OK (zV b e D A X) mX13_lackingOf 6 pc (j k)) : rx_OK (zV b e D A X) mX13_lackingOf 6 72 (vX13_lackingOf_72 j) := by
  unfold vX13_lackingOf_72
  refine s_iinc hZ.1 dX13_lackingOf_72 (Nat.le_of_ble_eq_true rfl) ?_
  exact s_goto dX13_lackingOf_75 (by decide) (hj 0 2 rfl)
noncomputable def vX13_lackingOf_60 (j : Nat → rx_K) : rx_K := o_ld rx_isR 0 (o_const 80 (o_ld rx_isR 0 (o_getf 13 25 (o_ld rx_isI 2 (o_ald 0 (o_callV 2 13 FX13_fault ((vX13_lackingOf_72 j))))))))
set_option maxRecDepth 20000 in
theorem wX13_lackingOf_60 (hZ : zO b e D A X) (j : Nat → rx_K) (hj : ∀ k pc, [2][k]? = some pc → rx_OK (zV b e D A X) mX13_lackingOf 6 pc (j k)) : rx_OK (zV b e D A X) mX13_lackingOf 6 60 (vX13_lackingOf_60 j) := by
  unfold vX13_lackingOf_60
  refine s_aload_n hZ.1 dX13_lackingOf_60 rfl ?_
  refine s_bipush dX13_lackingOf_61 (by decide +kernel) ?_
  refine s_aload_n hZ.1 dX13_lackingOf_63 rfl ?_
  refine yg13_25 dX13_lackingOf_64 zw4146 ?_
  refine s_iload_n hZ.1 dX13_lackingOf_67 rfl ?_
  refine s_iald (tt := 0) rfl dX13_lackingOf_68 ?_
  refine s_callV hZ.1 (Met_X13_fault hZ) (Nat.le_of_ble_eq_true rfl) vy_X13_fault zcl13 zw3004 zw190 (Or.inl zw3002) dX13_lackingOf_69 ?_
  exact (wX13_lackingOf_72 hZ j hj)
noncomputable def vX13_lackingOf_50 (j : Nat → rx_K) : rx_K := o_ld rx_isR 0 (o_ld rx_isI 4 (o_ld rx_isI 2 (o_callV 2 13 FX13_selected (o_c1 rx_lt (vX13_lackingOf_60 j) (vX13_lackingOf_72 j)))))
set_option maxRecDepth 20000 in
theorem wX13_lackingOf_50 (hZ : zO b e D A X) (j : Nat → rx_K) (hj : ∀ k pc, [2][k]? = some pc → rx_OK (zV b e D A X) mX13_lackingOf 6 pc (j k)) : rx_OK (zV b e D A X) mX13_lackingOf 6 50 (vX13_lackingOf_50 j) := by
  unfold vX13_lackingOf_50
  refine s_aload_n hZ.1 dX13_lackingOf_50 rfl ?_
  refine s_iload hZ.1 dX13_lackingOf_51 ?_
  refine s_iload_n hZ.1 dX13_lackingOf_53 rfl ?_
  refine s_callV hZ.1 (Met_X13_selected hZ) (Nat.le_of_ble_eq_true rfl) vy_X13_selected zcl13 zw3315 zw255 (Or.inl zw3313) dX13_lackingOf_54 ?_
  exact s_if_ge dX13_lackingOf_57 (by decide) (wX13_lackingOf_72 hZ j hj) (wX13_lackingOf_60 hZ j hj)
noncomputable def vX13_lackingOf_40 (j : Nat → rx_K) : rx_K := o_ld rx_isR 0 (o_getf 13 49 (o_ld rx_isI 4 (o_ald 3 (o_c1 rx_eq (vX13_lackingOf_50 j) (vX13_lackingOf_72 j)))))
set_option maxRecDepth 20000 in
theorem wX13_lackingOf_40 (hZ : zO b e D A X) (j : Nat → rx_K) (hj : ∀ k pc, [2][k]? = some pc → rx_OK (zV b e D A X) mX13_lackingOf 6 pc (j k)) : rx_OK (zV b e D A X) mX13_lackingOf 6 40 (vX13_lackingOf_40 j) := by
  unfold vX13_lackingOf_40
  refine s_aload_n hZ.1 dX13_lackingOf_40 rfl ?_
  refine yg13_49 dX13_lackingOf_41 zw4170 ?_
  refine s_iload hZ.1 dX13_lackingOf_44 ?_
  refine s_zald (tt := 3) rfl dX13_lackingOf_46 ?_
  exact s_if_ne dX13_lackingOf_47 (by decide) (wX13_lackingOf_72 hZ j hj) (wX13_lackingOf_50 hZ j hj)
noncomputable def vX13_lackingOf_31 (j : Nat → rx_K) : rx_K := o_ld rx_isR 0 (o_ld rx_isI 4 (o_callV 1 13 FX13_isFree (o_c1 rx_eq (vX13_lackingOf_72 j) (vX13_lackingOf_40 j))))
set_option maxRecDepth 20000 in
theorem wX13_lackingOf_31 (hZ : zO b e D A X) (j : Nat → rx_K) (hj : ∀ k pc, [2][k]? = some pc → rx_OK (zV b e D A X) mX13_lackingOf 6 pc (j k)) : rx_OK (zV b e D A X) mX13_lackingOf 6 31 (vX13_lackingOf_31 j) := by
  unfold vX13_lackingOf_31
  refine s_aload_n hZ.1 dX13_lackingOf_31 rfl ?_
  refine s_iload hZ.1 dX13_lackingOf_32 ?_
  refine s_callV hZ.1 (Met_X13_isFree hZ) (Nat.le_of_ble_eq_true rfl) vy_X13_isFree zcl13 zw3291 zw249 (Or.inl zw3289) dX13_lackingOf_34 ?_
  exact s_if_eq dX13_lackingOf_37 (by decide) (wX13_lackingOf_72 hZ j hj) (wX13_lackingOf_40 hZ j hj)
noncomputable def vX13_lackingOf_12 (j : Nat → rx_K) : rx_K := o_ld rx_isI 1 (o_const 272 (o_bi (fun x y => x * y) (o_ld rx_isI 3 (o_bi (fun x y => x + y) (o_st rx_isI 4 (o_ld rx_isR 0 (o_getf 13 42 (o_ld rx_isI 4 (o_ald 0 (o_const 8 (o_c2 rx_eq (vX13_lackingOf_31 j) (vX13_lackingOf_72 j))))))))))))
set_option maxRecDepth 20000 in
theorem wX13_lackingOf_12 (hZ : zO b e D A X) (j : Nat → rx_K) (hj : ∀ k pc, [2][k]? = some pc → rx_OK (zV b e D A X) mX13_lackingOf 6 pc (j k)) : rx_OK (zV b e D A X) mX13_lackingOf 6 12 (vX13_lackingOf_12 j) := by
  unfold vX13_lackingOf_12
  refine s_iload_n hZ.1 dX13_lackingOf_12 rfl ?_
  refine s_bipush dX13_lackingOf_13 (by decide +kernel) ?_
  refine s_imul dX13_lackingOf_15 ?_
  refine s_iload_n hZ.1 dX13_lackingOf_16 rfl ?_
  refine s_iadd dX13_lackingOf_17 ?_
  refine s_istore hZ.1 dX13_lackingOf_18 (Nat.le_of_ble_eq_true rfl) ?_
  refine s_aload_n hZ.1 dX13_lackingOf_20 rfl ?_
  refine yg13_42 dX13_lackingOf_21 zw4163 ?_
  refine s_iload hZ.1 dX13_lackingOf_24 ?_
  refine s_iald (tt := 0) rfl dX13_lackingOf_26 ?_
  refine s_iconst dX13_lackingOf_27 (by decide +kernel) ?_
  exact s_icmp_ne dX13_lackingOf_28 (by decide) (wX13_lackingOf_72 hZ j hj) (wX13_lackingOf_31 hZ j hj)
noncomputable def vX13_lackingOf_2 (j : Nat → rx_K) : rx_K := o_ld rx_isI 3 (o_ld rx_isR 0 (o_getf 13 41 (o_ld rx_isI 1 (o_ald 0 (o_c2 rx_lt (vX13_lackingOf_12 j) (vX13_lackingOf_78 j))))))
set_option maxRecDepth 20000 in
theorem wX13_lackingOf_2 (hZ : zO b e D A X) (j : Nat → rx_K) (hj : ∀ k pc, [2][k]? = some pc → rx_OK (zV b e D A X) mX13_lackingOf 6 pc (j k)) : rx_OK (zV b e D A X) mX13_lackingOf 6 2 (vX13_lackingOf_2 j) := by
  unfold vX13_lackingOf_2
  refine s_iload_n hZ.1 dX13_lackingOf_2 rfl ?_
  refine s_aload_n hZ.1 dX13_lackingOf_3 rfl ?_
  refine yg13_41 dX13_lackingOf_4 zw4162 ?_
  refine s_iload_n hZ.1 dX13_lackingOf_7 rfl ?_
  refine s_iald (tt := 0) rfl dX13_lackingOf_8 ?_
  exact s_icmp_ge dX13_lackingOf_9 (by decide) (wX13_lackingOf_78 hZ j hj) (wX13_lackingOf_12 hZ j hj)
noncomputable def vX13_lackingOf_0 (j : Nat → rx_K) : rx_K := o_const 0 (o_st rx_isI 3 ((vX13_lackingOf_2 j)))
set_option maxRecDepth 20000 in
theorem wX13_lackingOf_0 (hZ : zO b e D A X) (j : Nat → rx_K) (hj : ∀ k pc, [2][k]? = some pc → rx_OK (zV b e D A X) mX13_lackingOf 6 pc (j k)) : rx_OK (zV b e D A X) mX13_lackingOf 6 0 (vX13_lackingOf_0 j) := by
  unfold vX13_lackingOf_0
  refine s_iconst dX13_lackingOf_0 (by decide +kernel) ?_
  refine s_istore_n hZ.1 dX13_lackingOf_1 rfl (Nat.le_of_ble_eq_true rfl) ?_
  exact (wX13_lackingOf_2 hZ j hj)
noncomputable def vhX13_lackingOf (j : Nat → rx_K) : List rx_K := [vX13_lackingOf_2 j]
theorem vlX13_lackingOf (hZ : zO b e D A X) : ∀ n k pc, [2][k]? = some pc → rx_OK (zV b e D A X) mX13_lackingOf 6 pc (rx_J (vhX13_lackingOf) n k) := rx_loop fun j hj k pc h => by
  match k, h with
  | 0, h =>
    have e9 := Option.some.inj (show some 2 = some pc from h)
    subst e9
    exact wX13_lackingOf_2 hZ j hj
  | _ + 1, h => exact absurd h (by simp)
noncomputable def FX13_lackingOf : List Nat → rx_H → Option (Nat × rx_H) := rx_ent 5 (vX13_lackingOf_0 (rx_J (vhX13_lackingOf) 4000000000))
theorem Met_X13_lackingOf (hZ : zO b e D A X) : rx_Met (zV b e D A X) 6 yX13_lackingOf mX13_lackingOf (FX13_lackingOf) := rx_entry hZ.1 (wX13_lackingOf_0 hZ _ (vlX13_lackingOf hZ 4000000000)) (by decide +kernel) rfl (fun h => by cases h)
abbrev mX13_lacking : rx_M := (RX13, cX13_lacking, 6, none, false)
theorem vy_X13_lacking : rx_Y (zV b e D A X) yX13_lacking mX13_lacking 0 := ⟨zw3308, zw431, by decide, by decide +kernel, by decide +kernel, by decide +kernel⟩
noncomputable def vX13_lacking_135 (j : Nat → rx_K) : rx_K := o_ret0
set_option maxRecDepth 20000 in
theorem wX13_lacking_135 (hZ : zO b e D A X) (j : Nat → rx_K) (hj : ∀ k pc, [2, 66, 104][k]? = some pc → rx_OK (zV b e D A X) mX13_lacking 7 pc (j k)) : rx_OK (zV b e D A X) mX13_lacking 7 135 (vX13_lacking_135 j) := by
  unfold vX13_lacking_135
  exact s_vret rfl dX13_lacking_135
noncomputable def vX13_lacking_129 (j : Nat → rx_K) : rx_K := o_inc 1 (1) ((j 0))
set_option maxRecDepth 20000 in
theorem wX13_lacking_129 (hZ : zO b e D A X) (j : Nat → rx_K) (hj : ∀ k pc, [2, 66, 104][k]? = some pc → rx_OK (zV b e D A X) mX13_lacking 7 pc (j k)) : rx_OK (zV b e D A X) mX13_lacking 7 129 (vX13_lacking_129 j) := by
  unfold vX13_lacking_129
  refine s_iinc hZ.1 dX13_lacking_129 (Nat.le_of_ble_eq_true rfl) ?_
  exact s_goto dX13_lacking_132 (by decide) (hj 0 2 rfl)
noncomputable def vX13_lacking_111 (j : Nat → rx_K) : rx_K := o_ld rx_isR 0 (o_ld rx_isR 0 (o_getf 13 106 (o_ld rx_isI 5 (o_ald 0 (o_ld rx_isI 2 (o_callV 2 13 FX13_lackingOf (o_inc 5 (1) ((j 2)))))))))
set_option maxRecDepth 20000 in
theorem wX13_lacking_111 (hZ : zO b e D A X) (j : Nat → rx_K) (hj : ∀ k pc, [2, 66, 104][k]? = some pc → rx_OK (zV b e D A X) mX13_lacking 7 pc (j k)) : rx_OK (zV b e D A X) mX13_lacking 7 111 (vX13_lacking_111 j) := by
  unfold vX13_lacking_111
  refine s_aload_n hZ.1 dX13_lacking_111 rfl ?_
  refine s_aload_n hZ.1 dX13_lacking_112 rfl ?_
  refine yg13_106 dX13_lacking_113 zw4226 ?_
  refine s_iload hZ.1 dX13_lacking_116 ?_
  refine s_iald (tt := 0) rfl dX13_lacking_118 ?_
  refine s_iload_n hZ.1 dX13_lacking_119 rfl ?_
  refine s_callV hZ.1 (Met_X13_lackingOf hZ) (Nat.le_of_ble_eq_true rfl) vy_X13_lackingOf zcl13 zw3311 zw254 (Or.inl zw3309) dX13_lacking_120 ?_
  refine s_iinc hZ.1 dX13_lacking_123 (Nat.le_of_ble_eq_true rfl) ?_
  exact s_goto dX13_lacking_126 (by decide) (hj 2 104 rfl)
noncomputable def vX13_lacking_104 (j : Nat → rx_K) : rx_K := o_ld rx_isI 5 (o_ld rx_isI 4 (o_c2 rx_lt (vX13_lacking_111 j) (vX13_lacking_129 j)))
set_option maxRecDepth 20000 in
theorem wX13_lacking_104 (hZ : zO b e D A X) (j : Nat → rx_K) (hj : ∀ k pc, [2, 66, 104][k]? = some pc → rx_OK (zV b e D A X) mX13_lacking 7 pc (j k)) : rx_OK (zV b e D A X) mX13_lacking 7 104 (vX13_lacking_104 j) := by
  unfold vX13_lacking_104
  refine s_iload hZ.1 dX13_lacking_104 ?_
  refine s_iload hZ.1 dX13_lacking_106 ?_
  exact s_icmp_ge dX13_lacking_108 (by decide) (wX13_lacking_129 hZ j hj) (wX13_lacking_111 hZ j hj)
noncomputable def vX13_lacking_90 (j : Nat → rx_K) : rx_K := o_ld rx_isR 0 (o_ld rx_isI 2 (o_ld rx_isR 0 (o_getf 13 106 (o_callV 2 13 FX13_allFaces (o_st rx_isI 4 (o_const 0 (o_st rx_isI 5 ((vX13_lacking_104 j)))))))))
set_option maxRecDepth 20000 in
theorem wX13_lacking_90 (hZ : zO b e D A X) (j : Nat → rx_K) (hj : ∀ k pc, [2, 66, 104][k]? = some pc → rx_OK (zV b e D A X) mX13_lacking 7 pc (j k)) : rx_OK (zV b e D A X) mX13_lacking 7 90 (vX13_lacking_90 j) := by
  unfold vX13_lacking_90
  refine s_aload_n hZ.1 dX13_lacking_90 rfl ?_
  refine s_iload_n hZ.1 dX13_lacking_91 rfl ?_
  refine s_aload_n hZ.1 dX13_lacking_92 rfl ?_
  refine yg13_106 dX13_lacking_93 zw4226 ?_
  refine s_callV hZ.1 (Met_X13_allFaces hZ) (Nat.le_of_ble_eq_true rfl) vy_X13_allFaces zcl13 zw3270 zw244 (Or.inl zw3268) dX13_lacking_96 ?_
  refine s_istore hZ.1 dX13_lacking_99 (Nat.le_of_ble_eq_true rfl) ?_
  refine s_iconst dX13_lacking_101 (by decide +kernel) ?_
  refine s_istore hZ.1 dX13_lacking_102 (Nat.le_of_ble_eq_true rfl) ?_
  exact (wX13_lacking_104 hZ j hj)
noncomputable def vX13_lacking_72 (j : Nat → rx_K) : rx_K := o_ld rx_isR 0 (o_ld rx_isR 0 (o_getf 13 106 (o_ld rx_isI 4 (o_ald 0 (o_ld rx_isI 2 (o_callV 2 13 FX13_lackingOf (o_inc 4 (1) ((j 1)))))))))
set_option maxRecDepth 20000 in
theorem wX13_lacking_72 (hZ : zO b e D A X) (j : Nat → rx_K) (hj : ∀ k pc, [2, 66, 104][k]? = some pc → rx_OK (zV b e D A X) mX13_lacking 7 pc (j k)) : rx_OK (zV b e D A X) mX13_lacking 7 72 (vX13_lacking_72 j) := by
  unfold vX13_lacking_72
  refine s_aload_n hZ.1 dX13_lacking_72 rfl ?_
  refine s_aload_n hZ.1 dX13_lacking_73 rfl ?_
  refine yg13_106 dX13_lacking_74 zw4226 ?_
  refine s_iload hZ.1 dX13_lacking_77 ?_
  refine s_iald (tt := 0) rfl dX13_lacking_79 ?_
  refine s_iload_n hZ.1 dX13_lacking_80 rfl ?_
  refine s_callV hZ.1 (Met_X13_lackingOf hZ) (Nat.le_of_ble_eq_true rfl) vy_X13_lackingOf zcl13 zw3311 zw254 (Or.inl zw3309) dX13_lacking_81 ?_
  refine s_iinc hZ.1 dX13_lacking_84 (Nat.le_of_ble_eq_true rfl) ?_
  exact s_goto dX13_lacking_87 (by decide) (hj 1 66 rfl)
noncomputable def vX13_lacking_66 (j : Nat → rx_K) : rx_K := o_ld rx_isI 4 (o_ld rx_isI 3 (o_c2 rx_lt (vX13_lacking_72 j) (vX13_lacking_90 j)))
set_option maxRecDepth 20000 in
theorem wX13_lacking_66 (hZ : zO b e D A X) (j : Nat → rx_K) (hj : ∀ k pc, [2, 66, 104][k]? = some pc → rx_OK (zV b e D A X) mX13_lacking 7 pc (j k)) : rx_OK (zV b e D A X) mX13_lacking 7 66 (vX13_lacking_66 j) := by
  unfold vX13_lacking_66
  refine s_iload hZ.1 dX13_lacking_66 ?_
  refine s_iload_n hZ.1 dX13_lacking_68 rfl ?_
  exact s_icmp_ge dX13_lacking_69 (by decide) (wX13_lacking_90 hZ j hj) (wX13_lacking_72 hZ j hj)
noncomputable def vX13_lacking_53 (j : Nat → rx_K) : rx_K := o_ld rx_isR 0 (o_ld rx_isI 2 (o_ld rx_isR 0 (o_getf 13 106 (o_callV 2 13 FX13_parents (o_st rx_isI 3 (o_const 8 (o_st rx_isI 4 ((vX13_lacking_66 j)))))))))
set_option maxRecDepth 20000 in
theorem wX13_lacking_53 (hZ : zO b e D A X) (j : Nat → rx_K) (hj : ∀ k pc, [2, 66, 104][k]? = some pc → rx_OK (zV b e D A X) mX13_lacking 7 pc (j k)) : rx_OK (zV b e D A X) mX13_lacking 7 53 (vX13_lacking_53 j) := by
  unfold vX13_lacking_53
  refine s_aload_n hZ.1 dX13_lacking_53 rfl ?_
  refine s_iload_n hZ.1 dX13_lacking_54 rfl ?_
  refine s_aload_n hZ.1 dX13_lacking_55 rfl ?_
  refine yg13_106 dX13_lacking_56 zw4226 ?_
  refine s_callV hZ.1 (Met_X13_parents hZ) (Nat.le_of_ble_eq_true rfl) vy_X13_parents zcl13 zw3259 zw242 (Or.inl zw3257) dX13_lacking_59 ?_
  refine s_istore_n hZ.1 dX13_lacking_62 rfl (Nat.le_of_ble_eq_true rfl) ?_
  refine s_iconst dX13_lacking_63 (by decide +kernel) ?_
  refine s_istore hZ.1 dX13_lacking_64 (Nat.le_of_ble_eq_true rfl) ?_
  exact (wX13_lacking_66 hZ j hj)
noncomputable def vX13_lacking_50 (j : Nat → rx_K) : rx_K := (vX13_lacking_129 j)
set_option maxRecDepth 20000 in
theorem wX13_lacking_50 (hZ : zO b e D A X) (j : Nat → rx_K) (hj : ∀ k pc, [2, 66, 104][k]? = some pc → rx_OK (zV b e D A X) mX13_lacking 7 pc (j k)) : rx_OK (zV b e D A X) mX13_lacking 7 50 (vX13_lacking_50 j) := by
  unfold vX13_lacking_50
  exact s_goto dX13_lacking_50 (by decide) (wX13_lacking_129 hZ j hj)
noncomputable def vX13_lacking_42 (j : Nat → rx_K) : rx_K := o_ld rx_isR 0 (o_ld rx_isI 2 (o_callV 1 13 FX13_isFace (o_c1 rx_eq (vX13_lacking_53 j) (vX13_lacking_50 j))))
set_option maxRecDepth 20000 in
theorem wX13_lacking_42 (hZ : zO b e D A X) (j : Nat → rx_K) (hj : ∀ k pc, [2, 66, 104][k]? = some pc → rx_OK (zV b e D A X) mX13_lacking 7 pc (j k)) : rx_OK (zV b e D A X) mX13_lacking 7 42 (vX13_lacking_42 j) := by
  unfold vX13_lacking_42
  refine s_aload_n hZ.1 dX13_lacking_42 rfl ?_
  refine s_iload_n hZ.1 dX13_lacking_43 rfl ?_
  refine s_callV hZ.1 (Met_X13_isFace hZ) (Nat.le_of_ble_eq_true rfl) vy_X13_isFace zcl13 zw3192 zw227 (Or.inl zw3190) dX13_lacking_44 ?_
  exact s_if_eq dX13_lacking_47 (by decide) (wX13_lacking_53 hZ j hj) (wX13_lacking_50 hZ j hj)
noncomputable def vX13_lacking_22 (j : Nat → rx_K) : rx_K := o_ld rx_isR 0 (o_getf 13 19 (o_const 96 (o_bi (fun x y => x * y) (o_ld rx_isI 1 (o_bi (fun x y => x + y) (o_st rx_isI 2 (o_ld rx_isR 0 (o_getf 13 27 (o_ld rx_isI 2 (o_ald 0 (o_const 16 (o_c2 rx_eq (vX13_lacking_129 j) (vX13_lacking_42 j)))))))))))))
set_option maxRecDepth 20000 in
theorem wX13_lacking_22 (hZ : zO b e D A X) (j : Nat → rx_K) (hj : ∀ k pc, [2, 66, 104][k]? = some pc → rx_OK (zV b e D A X) mX13_lacking 7 pc (j k)) : rx_OK (zV b e D A X) mX13_lacking 7 22 (vX13_lacking_22 j) := by
  unfold vX13_lacking_22
  refine s_aload_n hZ.1 dX13_lacking_22 rfl ?_
  refine yg13_19 dX13_lacking_23 zw4140 ?_
  refine s_bipush dX13_lacking_26 (by decide +kernel) ?_
  refine s_imul dX13_lacking_28 ?_
  refine s_iload_n hZ.1 dX13_lacking_29 rfl ?_
  refine s_iadd dX13_lacking_30 ?_
  refine s_istore_n hZ.1 dX13_lacking_31 rfl (Nat.le_of_ble_eq_true rfl) ?_
  refine s_aload_n hZ.1 dX13_lacking_32 rfl ?_
  refine yg13_27 dX13_lacking_33 zw4148 ?_
  refine s_iload_n hZ.1 dX13_lacking_36 rfl ?_
  refine s_iald (tt := 0) rfl dX13_lacking_37 ?_
  refine s_iconst dX13_lacking_38 (by decide +kernel) ?_
  exact s_icmp_eq dX13_lacking_39 (by decide) (wX13_lacking_129 hZ j hj) (wX13_lacking_42 hZ j hj)
noncomputable def vX13_lacking_15 (j : Nat → rx_K) : rx_K := o_ld rx_isR 0 (o_getf 13 20 (o_c1 rx_eq (vX13_lacking_22 j) (vX13_lacking_135 j)))
set_option maxRecDepth 20000 in
theorem wX13_lacking_15 (hZ : zO b e D A X) (j : Nat → rx_K) (hj : ∀ k pc, [2, 66, 104][k]? = some pc → rx_OK (zV b e D A X) mX13_lacking 7 pc (j k)) : rx_OK (zV b e D A X) mX13_lacking 7 15 (vX13_lacking_15 j) := by
  unfold vX13_lacking_15
  refine s_aload_n hZ.1 dX13_lacking_15 rfl ?_
  refine yg13_20 dX13_lacking_16 zw4141 ?_
  exact s_if_ne dX13_lacking_19 (by decide) (wX13_lacking_135 hZ j hj) (wX13_lacking_22 hZ j hj)
noncomputable def vX13_lacking_2 (j : Nat → rx_K) : rx_K := o_ld rx_isI 1 (o_ld rx_isR 0 (o_getf 13 23 (o_ld rx_isR 0 (o_getf 13 19 (o_ald 0 (o_c2 rx_lt (vX13_lacking_15 j) (vX13_lacking_135 j)))))))
set_option maxRecDepth 20000 in
theorem wX13_lacking_2 (hZ : zO b e D A X) (j : Nat → rx_K) (hj : ∀ k pc, [2, 66, 104][k]? = some pc → rx_OK (zV b e D A X) mX13_lacking 7 pc (j k)) : rx_OK (zV b e D A X) mX13_lacking 7 2 (vX13_lacking_2 j) := by
  unfold vX13_lacking_2
  refine s_iload_n hZ.1 dX13_lacking_2 rfl ?_
  refine s_aload_n hZ.1 dX13_lacking_3 rfl ?_
  refine yg13_23 dX13_lacking_4 zw4144 ?_
  refine s_aload_n hZ.1 dX13_lacking_7 rfl ?_
  refine yg13_19 dX13_lacking_8 zw4140 ?_
  refine s_iald (tt := 0) rfl dX13_lacking_11 ?_
  exact s_icmp_ge dX13_lacking_12 (by decide) (wX13_lacking_135 hZ j hj) (wX13_lacking_15 hZ j hj)
noncomputable def vX13_lacking_0 (j : Nat → rx_K) : rx_K := o_const 0 (o_st rx_isI 1 ((vX13_lacking_2 j)))
set_option maxRecDepth 20000 in
theorem wX13_lacking_0 (hZ : zO b e D A X) (j : Nat → rx_K) (hj : ∀ k pc, [2, 66, 104][k]? = some pc → rx_OK (zV b e D A X) mX13_lacking 7 pc (j k)) : rx_OK (zV b e D A X) mX13_lacking 7 0 (vX13_lacking_0 j) := by
  unfold vX13_lacking_0
  refine s_iconst dX13_lacking_0 (by decide +kernel) ?_
  refine s_istore_n hZ.1 dX13_lacking_1 rfl (Nat.le_of_ble_eq_true rfl) ?_
  exact (wX13_lacking_2 hZ j hj)
noncomputable def vhX13_lacking (j : Nat → rx_K) : List rx_K := [vX13_lacking_2 j, vX13_lacking_66 j, vX13_lacking_104 j]
theorem vlX13_lacking (hZ : zO b e D A X) : ∀ n k pc, [2, 66, 104][k]? = some pc → rx_OK (zV b e D A X) mX13_lacking 7 pc (rx_J (vhX13_lacking) n k) := rx_loop fun j hj k pc h => by
  match k, h with
  | 0, h =>
    have e9 := Option.some.inj (show some 2 = some pc from h)
    subst e9
    exact wX13_lacking_2 hZ j hj
  | 1, h =>
    have e9 := Option.some.inj (show some 66 = some pc from h)
    subst e9
    exact wX13_lacking_66 hZ j hj
  | 2, h =>
    have e9 := Option.some.inj (show some 104 = some pc from h)
    subst e9
    exact wX13_lacking_104 hZ j hj
  | _ + 3, h => exact absurd h (by simp)
noncomputable def FX13_lacking : List Nat → rx_H → Option (Nat × rx_H) := rx_ent 6 (vX13_lacking_0 (rx_J (vhX13_lacking) 4000000000))
theorem Met_X13_lacking (hZ : zO b e D A X) : rx_Met (zV b e D A X) 7 yX13_lacking mX13_lacking (FX13_lacking) := rx_entry hZ.1 (wX13_lacking_0 hZ _ (vlX13_lacking hZ 4000000000)) (by decide +kernel) rfl (fun h => by cases h)
abbrev mX13_isTwo : rx_M := (RX13, cX13_isTwo, 1, (some .boolean), false)
theorem vy_X13_isTwo : rx_Y (zV b e D A X) yX13_isTwo mX13_isTwo 1 := ⟨zw3339, zw431, by decide, by decide +kernel, by decide +kernel, by decide +kernel⟩
noncomputable def vX13_isTwo_17 : rx_K := o_ret1 rx_isZ
set_option maxRecDepth 20000 in
theorem wX13_isTwo_17 (hZ : zO b e D A X) : rx_OK (zV b e D A X) mX13_isTwo 0 17 vX13_isTwo_17 := by
  unfold vX13_isTwo_17
  exact s_zret rx_z_ok rfl dX13_isTwo_17
noncomputable def vX13_isTwo_16 : rx_K := o_const 0 (vX13_isTwo_17)
set_option maxRecDepth 20000 in
theorem wX13_isTwo_16 (hZ : zO b e D A X) : rx_OK (zV b e D A X) mX13_isTwo 0 16 vX13_isTwo_16 := by
  unfold vX13_isTwo_16
  refine s_iconst dX13_isTwo_16 (by decide +kernel) ?_
  exact (wX13_isTwo_17 hZ)
noncomputable def vX13_isTwo_12 : rx_K := o_const 8 (vX13_isTwo_17)
set_option maxRecDepth 20000 in
theorem wX13_isTwo_12 (hZ : zO b e D A X) : rx_OK (zV b e D A X) mX13_isTwo 0 12 vX13_isTwo_12 := by
  unfold vX13_isTwo_12
  refine s_iconst dX13_isTwo_12 (by decide +kernel) ?_
  exact s_goto dX13_isTwo_13 (by decide) (wX13_isTwo_17 hZ)
noncomputable def vX13_isTwo_6 : rx_K := o_ld rx_isI 0 (o_const 152 (o_c2 (fun h x y => rx_lt h y x) vX13_isTwo_16 vX13_isTwo_12))
set_option maxRecDepth 20000 in
theorem wX13_isTwo_6 (hZ : zO b e D A X) : rx_OK (zV b e D A X) mX13_isTwo 0 6 vX13_isTwo_6 := by
  unfold vX13_isTwo_6
  refine s_iload_n hZ.1 dX13_isTwo_6 rfl ?_
  refine s_bipush dX13_isTwo_7 (by decide +kernel) ?_
  exact s_icmp_gt dX13_isTwo_9 (by decide) (wX13_isTwo_16 hZ) (wX13_isTwo_12 hZ)
noncomputable def vX13_isTwo_0 : rx_K := o_ld rx_isI 0 (o_const 120 (o_c2 rx_lt vX13_isTwo_16 vX13_isTwo_6))
set_option maxRecDepth 20000 in
theorem wX13_isTwo_0 (hZ : zO b e D A X) : rx_OK (zV b e D A X) mX13_isTwo 0 0 vX13_isTwo_0 := by
  unfold vX13_isTwo_0
  refine s_iload_n hZ.1 dX13_isTwo_0 rfl ?_
  refine s_bipush dX13_isTwo_1 (by decide +kernel) ?_
  exact s_icmp_lt dX13_isTwo_3 (by decide) (wX13_isTwo_16 hZ) (wX13_isTwo_6 hZ)
noncomputable def FX13_isTwo : List Nat → rx_H → Option (Nat × rx_H) := rx_ent 1 vX13_isTwo_0
theorem Met_X13_isTwo (hZ : zO b e D A X) : rx_Met (zV b e D A X) 0 yX13_isTwo mX13_isTwo (FX13_isTwo) := rx_entry hZ.1 (wX13_isTwo_0 hZ) (by decide +kernel) rfl (fun h => by cases h)
abbrev mX13_act : rx_M := (RX13, cX13_act, 3, (some .int), false)
theorem vy_X13_act : rx_Y (zV b e D A X) yX13_act mX13_act 3 := ⟨zw3387, zw431, by decide, by decide +kernel, by decide +kernel, by decide +kernel⟩
noncomputable def vX13_act_73 : rx_K := o_ret1 rx_isI
set_option maxRecDepth 20000 in
theorem wX13_act_73 (hZ : zO b e D A X) : rx_OK (zV b e D A X) mX13_act 0 73 vX13_act_73 := by
  unfold vX13_act_73
  exact s_iret hZ.1 rfl dX13_act_73
noncomputable def vX13_act_72 : rx_K := o_const 0 (vX13_act_73)
set_option maxRecDepth 20000 in
theorem wX13_act_72 (hZ : zO b e D A X) : rx_OK (zV b e D A X) mX13_act 0 72 vX13_act_72 := by
  unfold vX13_act_72
  refine s_iconst dX13_act_72 (by decide +kernel) ?_
  exact (wX13_act_73 hZ)
noncomputable def vX13_act_68 : rx_K := o_const 8 (vX13_act_73)
set_option maxRecDepth 20000 in
theorem wX13_act_68 (hZ : zO b e D A X) : rx_OK (zV b e D A X) mX13_act 0 68 vX13_act_68 := by
  unfold vX13_act_68
  refine s_iconst dX13_act_68 (by decide +kernel) ?_
  exact s_goto dX13_act_69 (by decide) (wX13_act_73 hZ)
noncomputable def vX13_act_63 : rx_K := o_ld rx_isI 1 (o_ld rx_isI 2 (o_c2 rx_eq vX13_act_68 vX13_act_72))
set_option maxRecDepth 20000 in
theorem wX13_act_63 (hZ : zO b e D A X) : rx_OK (zV b e D A X) mX13_act 0 63 vX13_act_63 := by
  unfold vX13_act_63
  refine s_iload_n hZ.1 dX13_act_63 rfl ?_
  refine s_iload_n hZ.1 dX13_act_64 rfl ?_
  exact s_icmp_ne dX13_act_65 (by decide) (wX13_act_72 hZ) (wX13_act_68 hZ)
noncomputable def vX13_act_59 : rx_K := o_const 0 (vX13_act_73)
set_option maxRecDepth 20000 in
theorem wX13_act_59 (hZ : zO b e D A X) : rx_OK (zV b e D A X) mX13_act 0 59 vX13_act_59 := by
  unfold vX13_act_59
  refine s_iconst dX13_act_59 (by decide +kernel) ?_
  exact s_goto dX13_act_60 (by decide) (wX13_act_73 hZ)
noncomputable def vX13_act_55 : rx_K := o_const 8 (vX13_act_73)
set_option maxRecDepth 20000 in
theorem wX13_act_55 (hZ : zO b e D A X) : rx_OK (zV b e D A X) mX13_act 0 55 vX13_act_55 := by
  unfold vX13_act_55
  refine s_iconst dX13_act_55 (by decide +kernel) ?_
  exact s_goto dX13_act_56 (by decide) (wX13_act_73 hZ)
noncomputable def vX13_act_50 : rx_K := o_ld rx_isI 1 (o_ld rx_isI 2 (o_c2 rx_lt vX13_act_55 vX13_act_59))
set_option maxRecDepth 20000 in
theorem wX13_act_50 (hZ : zO b e D A X) : rx_OK (zV b e D A X) mX13_act 0 50 vX13_act_50 := by
  unfold vX13_act_50
  refine s_iload_n hZ.1 dX13_act_50 rfl ?_
  refine s_iload_n hZ.1 dX13_act_51 rfl ?_
  exact s_icmp_ge dX13_act_52 (by decide) (wX13_act_59 hZ) (wX13_act_55 hZ)
noncomputable def vX13_act_44 : rx_K := o_ld rx_isI 1 (o_ld rx_isI 2 (o_bi (fun x y => x * y) (vX13_act_73)))
set_option maxRecDepth 20000 in
theorem wX13_act_44 (hZ : zO b e D A X) : rx_OK (zV b e D A X) mX13_act 0 44 vX13_act_44 := by
  unfold vX13_act_44
  refine s_iload_n hZ.1 dX13_act_44 rfl ?_
  refine s_iload_n hZ.1 dX13_act_45 rfl ?_
  refine s_imul dX13_act_46 ?_
  exact s_goto dX13_act_47 (by decide) (wX13_act_73 hZ)
noncomputable def vX13_act_38 : rx_K := o_ld rx_isI 1 (o_ld rx_isI 2 (o_bi (fun x y => x - y) (vX13_act_73)))
set_option maxRecDepth 20000 in
theorem wX13_act_38 (hZ : zO b e D A X) : rx_OK (zV b e D A X) mX13_act 0 38 vX13_act_38 := by
  unfold vX13_act_38
  refine s_iload_n hZ.1 dX13_act_38 rfl ?_
  refine s_iload_n hZ.1 dX13_act_39 rfl ?_
  refine s_isub dX13_act_40 ?_
  exact s_goto dX13_act_41 (by decide) (wX13_act_73 hZ)
noncomputable def vX13_act_32 : rx_K := o_ld rx_isI 1 (o_ld rx_isI 2 (o_bi (fun x y => x + y) (vX13_act_73)))
set_option maxRecDepth 20000 in
theorem wX13_act_32 (hZ : zO b e D A X) : rx_OK (zV b e D A X) mX13_act 0 32 vX13_act_32 := by
  unfold vX13_act_32
  refine s_iload_n hZ.1 dX13_act_32 rfl ?_
  refine s_iload_n hZ.1 dX13_act_33 rfl ?_
  refine s_iadd dX13_act_34 ?_
  exact s_goto dX13_act_35 (by decide) (wX13_act_73 hZ)
noncomputable def vX13_act_0 : rx_K := o_ld rx_isI 0 (o_sw 15 [32, 38, 44, 50] 63 (rx_pk [(32, vX13_act_32), (38, vX13_act_38), (44, vX13_act_44), (50, vX13_act_50), (63, vX13_act_63)]))
set_option maxRecDepth 20000 in
theorem wX13_act_0 (hZ : zO b e D A X) : rx_OK (zV b e D A X) mX13_act 0 0 vX13_act_0 := by
  unfold vX13_act_0
  refine s_iload_n hZ.1 dX13_act_0 rfl ?_
  exact s_sw dX13_act_1 (by decide) (by decide) (by decide) (by decide) (by decide) (fun b _ => (rx_pk_ok (List.forall_mem_cons.mpr ⟨(wX13_act_32 hZ), List.forall_mem_cons.mpr ⟨(wX13_act_38 hZ), List.forall_mem_cons.mpr ⟨(wX13_act_44 hZ), List.forall_mem_cons.mpr ⟨(wX13_act_50 hZ), List.forall_mem_cons.mpr ⟨(wX13_act_63 hZ), fun _ h => absurd h List.not_mem_nil⟩⟩⟩⟩⟩)) b)
noncomputable def FX13_act : List Nat → rx_H → Option (Nat × rx_H) := rx_ent 3 vX13_act_0
theorem Met_X13_act (hZ : zO b e D A X) : rx_Met (zV b e D A X) 0 yX13_act mX13_act (FX13_act) := rx_entry hZ.1 (wX13_act_0 hZ) (by decide +kernel) rfl (fun h => by cases h)
abbrev mX13_knownConstant : rx_M := (RX13, cX13_knownConstant, 5, (some .long), false)
theorem vy_X13_knownConstant : rx_Y (zV b e D A X) yX13_knownConstant mX13_knownConstant 2 := ⟨zw3343, zw431, by decide, by decide +kernel, by decide +kernel, by decide +kernel⟩
noncomputable def vX13_knownConstant_110 : rx_K := o_ret1 rx_isL
set_option maxRecDepth 20000 in
theorem wX13_knownConstant_110 (hZ : zO b e D A X) : rx_OK (zV b e D A X) mX13_knownConstant 169 110 vX13_knownConstant_110 := by
  unfold vX13_knownConstant_110
  exact s_lret rfl dX13_knownConstant_110
noncomputable def vX13_knownConstant_107 : rx_K := o_const 73786976294838206465 (vX13_knownConstant_110)
set_option maxRecDepth 20000 in
theorem wX13_knownConstant_107 (hZ : zO b e D A X) : rx_OK (zV b e D A X) mX13_knownConstant 169 107 vX13_knownConstant_107 := by
  unfold vX13_knownConstant_107
  refine s_ldc2 dX13_knownConstant_107 zw3344 (by decide +kernel) ?_
  exact (wX13_knownConstant_110 hZ)
noncomputable def vX13_knownConstant_96 : rx_K := o_ld rx_isR 0 (o_getf 13 65 (o_ld rx_isI 4 (o_ald 0 (o_il (fun x => x.toInt64) (vX13_knownConstant_110)))))
set_option maxRecDepth 20000 in
theorem wX13_knownConstant_96 (hZ : zO b e D A X) : rx_OK (zV b e D A X) mX13_knownConstant 169 96 vX13_knownConstant_96 := by
  unfold vX13_knownConstant_96
  refine s_aload_n hZ.1 dX13_knownConstant_96 rfl ?_
  refine yg13_65 dX13_knownConstant_97 zw4186 ?_
  refine s_iload hZ.1 dX13_knownConstant_100 ?_
  refine s_iald (tt := 0) rfl dX13_knownConstant_102 ?_
  refine s_i2l dX13_knownConstant_103 ?_
  exact s_goto dX13_knownConstant_104 (by decide) (wX13_knownConstant_110 hZ)
noncomputable def vX13_knownConstant_85 : rx_K := o_ld rx_isR 0 (o_ld rx_isI 4 (o_ld rx_isI 3 (o_ld rx_isI 2 (o_callV 3 13 FX13_isLetMember (o_c1 rx_eq vX13_knownConstant_107 vX13_knownConstant_96)))))
set_option maxRecDepth 20000 in
theorem wX13_knownConstant_85 (hZ : zO b e D A X) : rx_OK (zV b e D A X) mX13_knownConstant 169 85 vX13_knownConstant_85 := by
  unfold vX13_knownConstant_85
  refine s_aload_n hZ.1 dX13_knownConstant_85 rfl ?_
  refine s_iload hZ.1 dX13_knownConstant_86 ?_
  refine s_iload_n hZ.1 dX13_knownConstant_88 rfl ?_
  refine s_iload_n hZ.1 dX13_knownConstant_89 rfl ?_
  refine s_callV hZ.1 (Met_X13_isLetMember hZ) (Nat.le_of_ble_eq_true rfl) vy_X13_isLetMember zcl13 zw3355 zw264 (Or.inl zw3353) dX13_knownConstant_90 ?_
  exact s_if_eq dX13_knownConstant_93 (by decide) (wX13_knownConstant_107 hZ) (wX13_knownConstant_96 hZ)
noncomputable def vX13_knownConstant_75 : rx_K := o_ld rx_isR 0 (o_getf 13 64 (o_ld rx_isI 4 (o_ald 3 (o_c1 rx_eq vX13_knownConstant_107 vX13_knownConstant_85))))
set_option maxRecDepth 20000 in
theorem wX13_knownConstant_75 (hZ : zO b e D A X) : rx_OK (zV b e D A X) mX13_knownConstant 169 75 vX13_knownConstant_75 := by
  unfold vX13_knownConstant_75
  refine s_aload_n hZ.1 dX13_knownConstant_75 rfl ?_
  refine yg13_64 dX13_knownConstant_76 zw4185 ?_
  refine s_iload hZ.1 dX13_knownConstant_79 ?_
  refine s_zald (tt := 3) rfl dX13_knownConstant_81 ?_
  exact s_if_eq dX13_knownConstant_82 (by decide) (wX13_knownConstant_107 hZ) (wX13_knownConstant_85 hZ)
noncomputable def vX13_knownConstant_54 : rx_K := o_ld rx_isR 0 (o_ld rx_isI 3 (o_ld rx_isR 0 (o_getf 13 74 (o_ld rx_isI 1 (o_ald 1 (o_const 1 (o_callV 3 13 FX13_theField (o_st rx_isI 4 (o_ld rx_isI 4 (o_const 34359738352 (o_c2 rx_eq vX13_knownConstant_107 vX13_knownConstant_75)))))))))))
set_option maxRecDepth 20000 in
theorem wX13_knownConstant_54 (hZ : zO b e D A X) : rx_OK (zV b e D A X) mX13_knownConstant 169 54 vX13_knownConstant_54 := by
  unfold vX13_knownConstant_54
  refine s_aload_n hZ.1 dX13_knownConstant_54 rfl ?_
  refine s_iload_n hZ.1 dX13_knownConstant_55 rfl ?_
  refine s_aload_n hZ.1 dX13_knownConstant_56 rfl ?_
  refine yg13_74 dX13_knownConstant_57 zw4195 ?_
  refine s_iload_n hZ.1 dX13_knownConstant_60 rfl ?_
  refine s_lald (tt := 1) rfl dX13_knownConstant_61 ?_
  refine s_lconst dX13_knownConstant_62 (by decide +kernel) ?_
  refine s_callV hZ.1 (Met_X13_theField hZ) (Nat.le_of_ble_eq_true rfl) vy_X13_theField zcl13 zw3347 zw262 (Or.inl zw3345) dX13_knownConstant_63 ?_
  refine s_istore hZ.1 dX13_knownConstant_66 (Nat.le_of_ble_eq_true rfl) ?_
  refine s_iload hZ.1 dX13_knownConstant_68 ?_
  refine s_bipush dX13_knownConstant_70 (by decide +kernel) ?_
  exact s_icmp_eq dX13_knownConstant_72 (by decide) (wX13_knownConstant_107 hZ) (wX13_knownConstant_75 hZ)
noncomputable def vX13_knownConstant_50 : rx_K := o_const 73786976294838206465 (o_ret1 rx_isL)
set_option maxRecDepth 20000 in
theorem wX13_knownConstant_50 (hZ : zO b e D A X) : rx_OK (zV b e D A X) mX13_knownConstant 169 50 vX13_knownConstant_50 := by
  unfold vX13_knownConstant_50
  refine s_ldc2 dX13_knownConstant_50 zw3344 (by decide +kernel) ?_
  exact s_lret rfl dX13_knownConstant_53
noncomputable def vX13_knownConstant_41 : rx_K := o_ld rx_isR 0 (o_ld rx_isI 3 (o_ld rx_isI 2 (o_callV 2 13 FX13_isLet (o_c1 rx_eq vX13_knownConstant_50 vX13_knownConstant_54))))
set_option maxRecDepth 20000 in
theorem wX13_knownConstant_41 (hZ : zO b e D A X) : rx_OK (zV b e D A X) mX13_knownConstant 169 41 vX13_knownConstant_41 := by
  unfold vX13_knownConstant_41
  refine s_aload_n hZ.1 dX13_knownConstant_41 rfl ?_
  refine s_iload_n hZ.1 dX13_knownConstant_42 rfl ?_
  refine s_iload_n hZ.1 dX13_knownConstant_43 rfl ?_
  refine s_callV hZ.1 (Met_X13_isLet hZ) (Nat.le_of_ble_eq_true rfl) vy_X13_isLet zcl13 zw3200 zw229 (Or.inl zw3198) dX13_knownConstant_44 ?_
  exact s_if_ne dX13_knownConstant_47 (by decide) (wX13_knownConstant_54 hZ) (wX13_knownConstant_50 hZ)
noncomputable def vX13_knownConstant_31 : rx_K := o_ld rx_isR 0 (o_getf 13 70 (o_ld rx_isI 1 (o_ald 0 (o_const 40 (o_c2 rx_eq vX13_knownConstant_41 vX13_knownConstant_54)))))
set_option maxRecDepth 20000 in
theorem wX13_knownConstant_31 (hZ : zO b e D A X) : rx_OK (zV b e D A X) mX13_knownConstant 169 31 vX13_knownConstant_31 := by
  unfold vX13_knownConstant_31
  refine s_aload_n hZ.1 dX13_knownConstant_31 rfl ?_
  refine yg13_70 dX13_knownConstant_32 zw4191 ?_
  refine s_iload_n hZ.1 dX13_knownConstant_35 rfl ?_
  refine s_iald (tt := 0) rfl dX13_knownConstant_36 ?_
  refine s_iconst dX13_knownConstant_37 (by decide +kernel) ?_
  exact s_icmp_ne dX13_knownConstant_38 (by decide) (wX13_knownConstant_54 hZ) (wX13_knownConstant_41 hZ)
noncomputable def vX13_knownConstant_24 : rx_K := o_st rx_isI 3 (o_ld rx_isI 3 (o_const 34359738352 (o_c2 rx_eq vX13_knownConstant_50 vX13_knownConstant_31)))
set_option maxRecDepth 20000 in
theorem wX13_knownConstant_24 (hZ : zO b e D A X) : rx_OK (zV b e D A X) mX13_knownConstant 169 24 vX13_knownConstant_24 := by
  unfold vX13_knownConstant_24
  refine s_istore_n hZ.1 dX13_knownConstant_24 rfl (Nat.le_of_ble_eq_true rfl) ?_
  refine s_iload_n hZ.1 dX13_knownConstant_25 rfl ?_
  refine s_bipush dX13_knownConstant_26 (by decide +kernel) ?_
  exact s_icmp_eq dX13_knownConstant_28 (by decide) (wX13_knownConstant_50 hZ) (wX13_knownConstant_31 hZ)
noncomputable def vX13_knownConstant_14 : rx_K := o_ld rx_isR 0 (o_ld rx_isR 0 (o_getf 13 75 (o_ld rx_isI 1 (o_ald 1 (o_callV 1 13 FX13_find (vX13_knownConstant_24))))))
set_option maxRecDepth 20000 in
theorem wX13_knownConstant_14 (hZ : zO b e D A X) : rx_OK (zV b e D A X) mX13_knownConstant 169 14 vX13_knownConstant_14 := by
  unfold vX13_knownConstant_14
  refine s_aload_n hZ.1 dX13_knownConstant_14 rfl ?_
  refine s_aload_n hZ.1 dX13_knownConstant_15 rfl ?_
  refine yg13_75 dX13_knownConstant_16 zw4196 ?_
  refine s_iload_n hZ.1 dX13_knownConstant_19 rfl ?_
  refine s_lald (tt := 1) rfl dX13_knownConstant_20 ?_
  refine s_callV hZ.1 (Met_X13_find hZ) (Nat.le_of_ble_eq_true rfl) vy_X13_find zcl13 zw3186 zw226 (Or.inl zw3184) dX13_knownConstant_21 ?_
  exact (wX13_knownConstant_24 hZ)
noncomputable def vX13_knownConstant_10 : rx_K := o_ld rx_isI 2 (vX13_knownConstant_24)
set_option maxRecDepth 20000 in
theorem wX13_knownConstant_10 (hZ : zO b e D A X) : rx_OK (zV b e D A X) mX13_knownConstant 169 10 vX13_knownConstant_10 := by
  unfold vX13_knownConstant_10
  refine s_iload_n hZ.1 dX13_knownConstant_10 rfl ?_
  exact s_goto dX13_knownConstant_11 (by decide) (wX13_knownConstant_24 hZ)
noncomputable def vX13_knownConstant_0 : rx_K := o_ld rx_isR 0 (o_getf 13 70 (o_ld rx_isI 1 (o_ald 0 (o_const 24 (o_c2 rx_eq vX13_knownConstant_10 vX13_knownConstant_14)))))
set_option maxRecDepth 20000 in
theorem wX13_knownConstant_0 (hZ : zO b e D A X) : rx_OK (zV b e D A X) mX13_knownConstant 169 0 vX13_knownConstant_0 := by
  unfold vX13_knownConstant_0
  refine s_aload_n hZ.1 dX13_knownConstant_0 rfl ?_
  refine yg13_70 dX13_knownConstant_1 zw4191 ?_
  refine s_iload_n hZ.1 dX13_knownConstant_4 rfl ?_
  refine s_iald (tt := 0) rfl dX13_knownConstant_5 ?_
  refine s_iconst dX13_knownConstant_6 (by decide +kernel) ?_
  exact s_icmp_ne dX13_knownConstant_7 (by decide) (wX13_knownConstant_14 hZ) (wX13_knownConstant_10 hZ)
noncomputable def FX13_knownConstant : List Nat → rx_H → Option (Nat × rx_H) := rx_ent 5 vX13_knownConstant_0
theorem Met_X13_knownConstant (hZ : zO b e D A X) : rx_Met (zV b e D A X) 169 yX13_knownConstant mX13_knownConstant (FX13_knownConstant) := rx_entry hZ.1 (wX13_knownConstant_0 hZ) (by decide +kernel) rfl (fun h => by cases h)
abbrev mX13_folded : rx_M := (RX13, cX13_folded, 9, (some .long), false)
theorem vy_X13_folded : rx_Y (zV b e D A X) yX13_folded mX13_folded 2 := ⟨zw3336, zw431, by decide, by decide +kernel, by decide +kernel, by decide +kernel⟩
abbrev vl11 : List (MethodName × rx_M) := [(yX13_folded, mX13_folded)]
end ZM50

section ZM47
variable {b : Nat} {e : Nat → Value} {D : va_G} {A : Nat → ClassId} {X : State → Prop}
abbrev mX13_isFree : rx_M := (RX13, cX13_isFree, 2, (some .boolean), false)
theorem vy_X13_isFree : rx_Y (zV b e D A X) yX13_isFree mX13_isFree 1 := ⟨zw3292, zw431, by decide, by decide +kernel, by decide +kernel, by decide +kernel⟩
noncomputable def vX13_isFree_23 : rx_K := o_ret1 rx_isZ
set_option maxRecDepth 20000 in
theorem wX13_isFree_23 (hZ : zO b e D A X) : rx_OK (zV b e D A X) mX13_isFree 0 23 vX13_isFree_23 := by
  unfold vX13_isFree_23
  exact s_zret rx_z_ok rfl dX13_isFree_23
noncomputable def vX13_isFree_22 : rx_K := o_const 0 (vX13_isFree_23)
set_option maxRecDepth 20000 in
theorem wX13_isFree_22 (hZ : zO b e D A X) : rx_OK (zV b e D A X) mX13_isFree 0 22 vX13_isFree_22 := by
  unfold vX13_isFree_22
  refine s_iconst dX13_isFree_22 (by decide +kernel) ?_
  exact (wX13_isFree_23 hZ)
noncomputable def vX13_isFree_18 : rx_K := o_const 8 (vX13_isFree_23)
set_option maxRecDepth 20000 in
theorem wX13_isFree_18 (hZ : zO b e D A X) : rx_OK (zV b e D A X) mX13_isFree 0 18 vX13_isFree_18 := by
  unfold vX13_isFree_18
  refine s_iconst dX13_isFree_18 (by decide +kernel) ?_
  exact s_goto dX13_isFree_19 (by decide) (wX13_isFree_23 hZ)
noncomputable def vX13_isFree_9 : rx_K := o_ld rx_isR 0 (o_getf 13 44 (o_ld rx_isI 1 (o_ald 0 (o_c1 rx_eq vX13_isFree_22 vX13_isFree_18))))
set_option maxRecDepth 20000 in
theorem wX13_isFree_9 (hZ : zO b e D A X) : rx_OK (zV b e D A X) mX13_isFree 0 9 vX13_isFree_9 := by
  unfold vX13_isFree_9
  refine s_aload_n hZ.1 dX13_isFree_9 rfl ?_
  refine yg13_44 dX13_isFree_10 zw4165 ?_
  refine s_iload_n hZ.1 dX13_isFree_13 rfl ?_
  refine s_iald (tt := 0) rfl dX13_isFree_14 ?_
  exact s_if_eq dX13_isFree_15 (by decide) (wX13_isFree_22 hZ) (wX13_isFree_18 hZ)
noncomputable def vX13_isFree_0 : rx_K := o_ld rx_isR 0 (o_getf 13 45 (o_ld rx_isI 1 (o_ald 3 (o_c1 rx_eq vX13_isFree_9 vX13_isFree_22))))
set_option maxRecDepth 20000 in
theorem wX13_isFree_0 (hZ : zO b e D A X) : rx_OK (zV b e D A X) mX13_isFree 0 0 vX13_isFree_0 := by
  unfold vX13_isFree_0
  refine s_aload_n hZ.1 dX13_isFree_0 rfl ?_
  refine yg13_45 dX13_isFree_1 zw4166 ?_
  refine s_iload_n hZ.1 dX13_isFree_4 rfl ?_
  refine s_zald (tt := 3) rfl dX13_isFree_5 ?_
  exact s_if_ne dX13_isFree_6 (by decide) (wX13_isFree_22 hZ) (wX13_isFree_9 hZ)
noncomputable def FX13_isFree : List Nat → rx_H → Option (Nat × rx_H) := rx_ent 2 vX13_isFree_0
theorem Met_X13_isFree (hZ : zO b e D A X) : rx_Met (zV b e D A X) 0 yX13_isFree mX13_isFree (FX13_isFree) := rx_entry hZ.1 (wX13_isFree_0 hZ) (by decide +kernel) rfl (fun h => by cases h)
abbrev mX13_overrides : rx_M := (RX13, cX13_overrides, 9, (some .boolean), false)
theorem vy_X13_overrides : rx_Y (zV b e D A X) yX13_overrides mX13_overrides 2 := ⟨zw3324, zw431, by decide, by decide +kernel, by decide +kernel, by decide +kernel⟩
noncomputable def vX13_overrides_175 (j : Nat → rx_K) : rx_K := o_const 0 (o_ret1 rx_isZ)
set_option maxRecDepth 20000 in
theorem wX13_overrides_175 (hZ : zO b e D A X) (j : Nat → rx_K) (hj : ∀ k pc, [55][k]? = some pc → rx_OK (zV b e D A X) mX13_overrides 3 pc (j k)) : rx_OK (zV b e D A X) mX13_overrides 3 175 (vX13_overrides_175 j) := by
  unfold vX13_overrides_175
  refine s_iconst dX13_overrides_175 (by decide +kernel) ?_
  exact s_zret rx_z_ok rfl dX13_overrides_176
noncomputable def vX13_overrides_160 (j : Nat → rx_K) : rx_K := o_bl (fun x y => x ||| y) (o_stL 4 (o_ld rx_isR 0 (o_ld rx_isI 3 (o_callV 1 13 FX13_parent (o_st rx_isI 3 (o_inc 6 (1) ((j 0))))))))
set_option maxRecDepth 20000 in
theorem wX13_overrides_160 (hZ : zO b e D A X) (j : Nat → rx_K) (hj : ∀ k pc, [55][k]? = some pc → rx_OK (zV b e D A X) mX13_overrides 3 pc (j k)) : rx_OK (zV b e D A X) mX13_overrides 3 160 (vX13_overrides_160 j) := by
  unfold vX13_overrides_160
  refine s_lor dX13_overrides_160 ?_
  refine s_lstore hZ.1 dX13_overrides_161 (Nat.le_of_ble_eq_true rfl) ?_
  refine s_aload_n hZ.1 dX13_overrides_163 rfl ?_
  refine s_iload_n hZ.1 dX13_overrides_164 rfl ?_
  refine s_callV hZ.1 (Met_X13_parent hZ) (Nat.le_of_ble_eq_true rfl) vy_X13_parent zcl13 zw3220 zw233 (Or.inl zw3218) dX13_overrides_165 ?_
  refine s_istore_n hZ.1 dX13_overrides_168 rfl (Nat.le_of_ble_eq_true rfl) ?_
  refine s_iinc hZ.1 dX13_overrides_169 (Nat.le_of_ble_eq_true rfl) ?_
  exact s_goto dX13_overrides_172 (by decide) (hj 0 55 rfl)
noncomputable def vX13_overrides_159 (j : Nat → rx_K) : rx_K := o_const 1 ((vX13_overrides_160 j))
set_option maxRecDepth 20000 in
theorem wX13_overrides_159 (hZ : zO b e D A X) (j : Nat → rx_K) (hj : ∀ k pc, [55][k]? = some pc → rx_OK (zV b e D A X) mX13_overrides 3 pc (j k)) : rx_OK (zV b e D A X) mX13_overrides 3 159 (vX13_overrides_159 j) := by
  unfold vX13_overrides_159
  refine s_lconst dX13_overrides_159 (by decide +kernel) ?_
  exact (wX13_overrides_160 hZ j hj)
noncomputable def vX13_overrides_145 (j : Nat → rx_K) : rx_K := o_const 9 (o_ld rx_isR 0 (o_getf 13 24 (o_ld rx_isI 3 (o_ald 1 (o_callS 1 FX13_pack (o_bs (fun x y => x <<< (y.toInt64 &&& 63)) ((vX13_overrides_160 j))))))))
set_option maxRecDepth 20000 in
theorem wX13_overrides_145 (hZ : zO b e D A X) (j : Nat → rx_K) (hj : ∀ k pc, [55][k]? = some pc → rx_OK (zV b e D A X) mX13_overrides 3 pc (j k)) : rx_OK (zV b e D A X) mX13_overrides 3 145 (vX13_overrides_145 j) := by
  unfold vX13_overrides_145
  refine s_lconst dX13_overrides_145 (by decide +kernel) ?_
  refine s_aload_n hZ.1 dX13_overrides_146 rfl ?_
  refine yg13_24 dX13_overrides_147 zw4145 ?_
  refine s_iload_n hZ.1 dX13_overrides_150 rfl ?_
  refine s_lald (tt := 1) rfl dX13_overrides_151 ?_
  refine s_callS hZ.1 (Met_X13_pack hZ) (Nat.le_of_ble_eq_true rfl) vy_X13_pack zw3177 (Or.inl zw3176) dX13_overrides_152 ?_
  refine s_lshl dX13_overrides_155 ?_
  exact s_goto dX13_overrides_156 (by decide) (wX13_overrides_160 hZ j hj)
noncomputable def vX13_overrides_138 (j : Nat → rx_K) : rx_K := o_ld rx_isL 4 (o_ld rx_isI 8 (o_c1 rx_eq (vX13_overrides_159 j) (vX13_overrides_145 j)))
set_option maxRecDepth 20000 in
theorem wX13_overrides_138 (hZ : zO b e D A X) (j : Nat → rx_K) (hj : ∀ k pc, [55][k]? = some pc → rx_OK (zV b e D A X) mX13_overrides 3 pc (j k)) : rx_OK (zV b e D A X) mX13_overrides 3 138 (vX13_overrides_138 j) := by
  unfold vX13_overrides_138
  refine s_lload hZ.1 dX13_overrides_138 ?_
  refine s_iload hZ.1 dX13_overrides_140 ?_
  exact s_if_eq dX13_overrides_142 (by decide) (wX13_overrides_159 hZ j hj) (wX13_overrides_145 hZ j hj)
noncomputable def vX13_overrides_135 (j : Nat → rx_K) : rx_K := o_ld rx_isI 8 (o_ret1 rx_isZ)
set_option maxRecDepth 20000 in
theorem wX13_overrides_135 (hZ : zO b e D A X) (j : Nat → rx_K) (hj : ∀ k pc, [55][k]? = some pc → rx_OK (zV b e D A X) mX13_overrides 3 pc (j k)) : rx_OK (zV b e D A X) mX13_overrides 3 135 (vX13_overrides_135 j) := by
  unfold vX13_overrides_135
  refine s_iload hZ.1 dX13_overrides_135 ?_
  exact s_zret rx_z_ok rfl dX13_overrides_137
noncomputable def vX13_overrides_127 (j : Nat → rx_K) : rx_K := o_st rx_isI 8 (o_ld rx_isI 7 (o_ld rx_isI 2 (o_c2 rx_eq (vX13_overrides_135 j) (vX13_overrides_138 j))))
set_option maxRecDepth 20000 in
theorem wX13_overrides_127 (hZ : zO b e D A X) (j : Nat → rx_K) (hj : ∀ k pc, [55][k]? = some pc → rx_OK (zV b e D A X) mX13_overrides 3 pc (j k)) : rx_OK (zV b e D A X) mX13_overrides 3 127 (vX13_overrides_127 j) := by
  unfold vX13_overrides_127
  refine s_istore hZ.1 dX13_overrides_127 (Nat.le_of_ble_eq_true rfl) ?_
  refine s_iload hZ.1 dX13_overrides_129 ?_
  refine s_iload_n hZ.1 dX13_overrides_131 rfl ?_
  exact s_icmp_ne dX13_overrides_132 (by decide) (wX13_overrides_138 hZ j hj) (wX13_overrides_135 hZ j hj)
noncomputable def vX13_overrides_126 (j : Nat → rx_K) : rx_K := o_const 0 ((vX13_overrides_127 j))
set_option maxRecDepth 20000 in
theorem wX13_overrides_126 (hZ : zO b e D A X) (j : Nat → rx_K) (hj : ∀ k pc, [55][k]? = some pc → rx_OK (zV b e D A X) mX13_overrides 3 pc (j k)) : rx_OK (zV b e D A X) mX13_overrides 3 126 (vX13_overrides_126 j) := by
  unfold vX13_overrides_126
  refine s_iconst dX13_overrides_126 (by decide +kernel) ?_
  exact (wX13_overrides_127 hZ j hj)
noncomputable def vX13_overrides_122 (j : Nat → rx_K) : rx_K := o_const 8 ((vX13_overrides_127 j))
set_option maxRecDepth 20000 in
theorem wX13_overrides_122 (hZ : zO b e D A X) (j : Nat → rx_K) (hj : ∀ k pc, [55][k]? = some pc → rx_OK (zV b e D A X) mX13_overrides 3 pc (j k)) : rx_OK (zV b e D A X) mX13_overrides 3 122 (vX13_overrides_122 j) := by
  unfold vX13_overrides_122
  refine s_iconst dX13_overrides_122 (by decide +kernel) ?_
  exact s_goto dX13_overrides_123 (by decide) (wX13_overrides_127 hZ j hj)
noncomputable def vX13_overrides_103 (j : Nat → rx_K) : rx_K := o_ld rx_isL 4 (o_ld rx_isR 0 (o_getf 13 24 (o_ld rx_isI 3 (o_ald 1 (o_callS 1 FX13_pack (o_bs (fun x y => (x.toUInt64 >>> (y.toInt64.toUInt64 &&& Int64.toUInt64 63)).toInt64) (o_const 9 (o_bl (fun x y => x &&& y) (o_const 9 (o_bc (fun x y => lg_cmp x y) (o_c1 rx_eq (vX13_overrides_122 j) (vX13_overrides_126 j))))))))))))
set_option maxRecDepth 20000 in
theorem wX13_overrides_103 (hZ : zO b e D A X) (j : Nat → rx_K) (hj : ∀ k pc, [55][k]? = some pc → rx_OK (zV b e D A X) mX13_overrides 3 pc (j k)) : rx_OK (zV b e D A X) mX13_overrides 3 103 (vX13_overrides_103 j) := by
  unfold vX13_overrides_103
  refine s_lload hZ.1 dX13_overrides_103 ?_
  refine s_aload_n hZ.1 dX13_overrides_105 rfl ?_
  refine yg13_24 dX13_overrides_106 zw4145 ?_
  refine s_iload_n hZ.1 dX13_overrides_109 rfl ?_
  refine s_lald (tt := 1) rfl dX13_overrides_110 ?_
  refine s_callS hZ.1 (Met_X13_pack hZ) (Nat.le_of_ble_eq_true rfl) vy_X13_pack zw3177 (Or.inl zw3176) dX13_overrides_111 ?_
  refine s_lushr dX13_overrides_114 ?_
  refine s_lconst dX13_overrides_115 (by decide +kernel) ?_
  refine s_land dX13_overrides_116 ?_
  refine s_lconst dX13_overrides_117 (by decide +kernel) ?_
  refine s_lcmp dX13_overrides_118 ?_
  exact s_if_ne dX13_overrides_119 (by decide) (wX13_overrides_126 hZ j hj) (wX13_overrides_122 hZ j hj)
noncomputable def vX13_overrides_92 (j : Nat → rx_K) : rx_K := o_ld rx_isR 0 (o_getf 13 44 (o_ld rx_isI 7 (o_ald 0 (o_const 16 (o_c2 rx_lt (vX13_overrides_103 j) (vX13_overrides_122 j))))))
set_option maxRecDepth 20000 in
theorem wX13_overrides_92 (hZ : zO b e D A X) (j : Nat → rx_K) (hj : ∀ k pc, [55][k]? = some pc → rx_OK (zV b e D A X) mX13_overrides 3 pc (j k)) : rx_OK (zV b e D A X) mX13_overrides 3 92 (vX13_overrides_92 j) := by
  unfold vX13_overrides_92
  refine s_aload_n hZ.1 dX13_overrides_92 rfl ?_
  refine yg13_44 dX13_overrides_93 zw4165 ?_
  refine s_iload hZ.1 dX13_overrides_96 ?_
  refine s_iald (tt := 0) rfl dX13_overrides_98 ?_
  refine s_iconst dX13_overrides_99 (by decide +kernel) ?_
  exact s_icmp_ge dX13_overrides_100 (by decide) (wX13_overrides_122 hZ j hj) (wX13_overrides_103 hZ j hj)
noncomputable def vX13_overrides_83 (j : Nat → rx_K) : rx_K := o_ld rx_isR 0 (o_ld rx_isI 7 (o_callV 1 13 FX13_isFree (o_c1 rx_eq (vX13_overrides_126 j) (vX13_overrides_92 j))))
set_option maxRecDepth 20000 in
theorem wX13_overrides_83 (hZ : zO b e D A X) (j : Nat → rx_K) (hj : ∀ k pc, [55][k]? = some pc → rx_OK (zV b e D A X) mX13_overrides 3 pc (j k)) : rx_OK (zV b e D A X) mX13_overrides 3 83 (vX13_overrides_83 j) := by
  unfold vX13_overrides_83
  refine s_aload_n hZ.1 dX13_overrides_83 rfl ?_
  refine s_iload hZ.1 dX13_overrides_84 ?_
  refine s_callV hZ.1 (Met_X13_isFree hZ) (Nat.le_of_ble_eq_true rfl) vy_X13_isFree zcl13 zw3291 zw249 (Or.inl zw3289) dX13_overrides_86 ?_
  exact s_if_eq dX13_overrides_89 (by decide) (wX13_overrides_126 hZ j hj) (wX13_overrides_92 hZ j hj)
noncomputable def vX13_overrides_68 (j : Nat → rx_K) : rx_K := o_ld rx_isR 0 (o_ld rx_isI 3 (o_ld rx_isI 2 (o_callV 2 13 FX13_ownMethod (o_st rx_isI 7 (o_ld rx_isI 7 (o_const 34359738352 (o_c2 rx_eq (vX13_overrides_126 j) (vX13_overrides_83 j))))))))
set_option maxRecDepth 20000 in
theorem wX13_overrides_68 (hZ : zO b e D A X) (j : Nat → rx_K) (hj : ∀ k pc, [55][k]? = some pc → rx_OK (zV b e D A X) mX13_overrides 3 pc (j k)) : rx_OK (zV b e D A X) mX13_overrides 3 68 (vX13_overrides_68 j) := by
  unfold vX13_overrides_68
  refine s_aload_n hZ.1 dX13_overrides_68 rfl ?_
  refine s_iload_n hZ.1 dX13_overrides_69 rfl ?_
  refine s_iload_n hZ.1 dX13_overrides_70 rfl ?_
  refine s_callV hZ.1 (Met_X13_ownMethod hZ) (Nat.le_of_ble_eq_true rfl) vy_X13_ownMethod zcl13 zw3319 zw256 (Or.inl zw3317) dX13_overrides_71 ?_
  refine s_istore hZ.1 dX13_overrides_74 (Nat.le_of_ble_eq_true rfl) ?_
  refine s_iload hZ.1 dX13_overrides_76 ?_
  refine s_bipush dX13_overrides_78 (by decide +kernel) ?_
  exact s_icmp_eq dX13_overrides_80 (by decide) (wX13_overrides_126 hZ j hj) (wX13_overrides_83 hZ j hj)
noncomputable def vX13_overrides_61 (j : Nat → rx_K) : rx_K := o_ld rx_isI 6 (o_const 640 (o_c2 rx_lt (vX13_overrides_68 j) (vX13_overrides_175 j)))
set_option maxRecDepth 20000 in
theorem wX13_overrides_61 (hZ : zO b e D A X) (j : Nat → rx_K) (hj : ∀ k pc, [55][k]? = some pc → rx_OK (zV b e D A X) mX13_overrides 3 pc (j k)) : rx_OK (zV b e D A X) mX13_overrides 3 61 (vX13_overrides_61 j) := by
  unfold vX13_overrides_61
  refine s_iload hZ.1 dX13_overrides_61 ?_
  refine s_bipush dX13_overrides_63 (by decide +kernel) ?_
  exact s_icmp_ge dX13_overrides_65 (by decide) (wX13_overrides_175 hZ j hj) (wX13_overrides_68 hZ j hj)
noncomputable def vX13_overrides_55 (j : Nat → rx_K) : rx_K := o_ld rx_isI 3 (o_const 34359738352 (o_c2 rx_eq (vX13_overrides_175 j) (vX13_overrides_61 j)))
set_option maxRecDepth 20000 in
theorem wX13_overrides_55 (hZ : zO b e D A X) (j : Nat → rx_K) (hj : ∀ k pc, [55][k]? = some pc → rx_OK (zV b e D A X) mX13_overrides 3 pc (j k)) : rx_OK (zV b e D A X) mX13_overrides 3 55 (vX13_overrides_55 j) := by
  unfold vX13_overrides_55
  refine s_iload_n hZ.1 dX13_overrides_55 rfl ?_
  refine s_bipush dX13_overrides_56 (by decide +kernel) ?_
  exact s_icmp_eq dX13_overrides_58 (by decide) (wX13_overrides_175 hZ j hj) (wX13_overrides_61 hZ j hj)
noncomputable def vX13_overrides_27 (j : Nat → rx_K) : rx_K := o_ld rx_isR 0 (o_ld rx_isI 1 (o_callV 1 13 FX13_classOfMember (o_st rx_isI 3 (o_const 9 (o_ld rx_isR 0 (o_getf 13 24 (o_ld rx_isI 3 (o_ald 1 (o_callS 1 FX13_pack (o_bs (fun x y => x <<< (y.toInt64 &&& 63)) (o_stL 4 (o_const 0 (o_st rx_isI 6 (o_ld rx_isR 0 (o_ld rx_isI 3 (o_callV 1 13 FX13_parent (o_st rx_isI 3 ((vX13_overrides_55 j)))))))))))))))))))
set_option maxRecDepth 20000 in
theorem wX13_overrides_27 (hZ : zO b e D A X) (j : Nat → rx_K) (hj : ∀ k pc, [55][k]? = some pc → rx_OK (zV b e D A X) mX13_overrides 3 pc (j k)) : rx_OK (zV b e D A X) mX13_overrides 3 27 (vX13_overrides_27 j) := by
  unfold vX13_overrides_27
  refine s_aload_n hZ.1 dX13_overrides_27 rfl ?_
  refine s_iload_n hZ.1 dX13_overrides_28 rfl ?_
  refine s_callV hZ.1 (Met_X13_classOfMember hZ) (Nat.le_of_ble_eq_true rfl) vy_X13_classOfMember zcl13 zw3255 zw241 (Or.inl zw3253) dX13_overrides_29 ?_
  refine s_istore_n hZ.1 dX13_overrides_32 rfl (Nat.le_of_ble_eq_true rfl) ?_
  refine s_lconst dX13_overrides_33 (by decide +kernel) ?_
  refine s_aload_n hZ.1 dX13_overrides_34 rfl ?_
  refine yg13_24 dX13_overrides_35 zw4145 ?_
  refine s_iload_n hZ.1 dX13_overrides_38 rfl ?_
  refine s_lald (tt := 1) rfl dX13_overrides_39 ?_
  refine s_callS hZ.1 (Met_X13_pack hZ) (Nat.le_of_ble_eq_true rfl) vy_X13_pack zw3177 (Or.inl zw3176) dX13_overrides_40 ?_
  refine s_lshl dX13_overrides_43 ?_
  refine s_lstore hZ.1 dX13_overrides_44 (Nat.le_of_ble_eq_true rfl) ?_
  refine s_iconst dX13_overrides_46 (by decide +kernel) ?_
  refine s_istore hZ.1 dX13_overrides_47 (Nat.le_of_ble_eq_true rfl) ?_
  refine s_aload_n hZ.1 dX13_overrides_49 rfl ?_
  refine s_iload_n hZ.1 dX13_overrides_50 rfl ?_
  refine s_callV hZ.1 (Met_X13_parent hZ) (Nat.le_of_ble_eq_true rfl) vy_X13_parent zcl13 zw3220 zw233 (Or.inl zw3218) dX13_overrides_51 ?_
  refine s_istore_n hZ.1 dX13_overrides_54 rfl (Nat.le_of_ble_eq_true rfl) ?_
  exact (wX13_overrides_55 hZ j hj)
noncomputable def vX13_overrides_25 (j : Nat → rx_K) : rx_K := o_const 0 (o_ret1 rx_isZ)
set_option maxRecDepth 20000 in
theorem wX13_overrides_25 (hZ : zO b e D A X) (j : Nat → rx_K) (hj : ∀ k pc, [55][k]? = some pc → rx_OK (zV b e D A X) mX13_overrides 3 pc (j k)) : rx_OK (zV b e D A X) mX13_overrides 3 25 (vX13_overrides_25 j) := by
  unfold vX13_overrides_25
  refine s_iconst dX13_overrides_25 (by decide +kernel) ?_
  exact s_zret rx_z_ok rfl dX13_overrides_26
noncomputable def vX13_overrides_16 (j : Nat → rx_K) : rx_K := o_ld rx_isR 0 (o_ld rx_isI 1 (o_ld rx_isI 2 (o_callV 2 13 FX13_sameSign (o_c1 rx_eq (vX13_overrides_25 j) (vX13_overrides_27 j)))))
set_option maxRecDepth 20000 in
theorem wX13_overrides_16 (hZ : zO b e D A X) (j : Nat → rx_K) (hj : ∀ k pc, [55][k]? = some pc → rx_OK (zV b e D A X) mX13_overrides 3 pc (j k)) : rx_OK (zV b e D A X) mX13_overrides 3 16 (vX13_overrides_16 j) := by
  unfold vX13_overrides_16
  refine s_aload_n hZ.1 dX13_overrides_16 rfl ?_
  refine s_iload_n hZ.1 dX13_overrides_17 rfl ?_
  refine s_iload_n hZ.1 dX13_overrides_18 rfl ?_
  refine s_callV hZ.1 (Met_X13_sameSign hZ) (Nat.le_of_ble_eq_true rfl) vy_X13_sameSign zcl13 zw3299 zw251 (Or.inl zw3297) dX13_overrides_19 ?_
  exact s_if_ne dX13_overrides_22 (by decide) (wX13_overrides_27 hZ j hj) (wX13_overrides_25 hZ j hj)
noncomputable def vX13_overrides_8 (j : Nat → rx_K) : rx_K := o_ld rx_isR 0 (o_ld rx_isI 2 (o_callV 1 13 FX13_isFree (o_c1 rx_eq (vX13_overrides_25 j) (vX13_overrides_16 j))))
set_option maxRecDepth 20000 in
theorem wX13_overrides_8 (hZ : zO b e D A X) (j : Nat → rx_K) (hj : ∀ k pc, [55][k]? = some pc → rx_OK (zV b e D A X) mX13_overrides 3 pc (j k)) : rx_OK (zV b e D A X) mX13_overrides 3 8 (vX13_overrides_8 j) := by
  unfold vX13_overrides_8
  refine s_aload_n hZ.1 dX13_overrides_8 rfl ?_
  refine s_iload_n hZ.1 dX13_overrides_9 rfl ?_
  refine s_callV hZ.1 (Met_X13_isFree hZ) (Nat.le_of_ble_eq_true rfl) vy_X13_isFree zcl13 zw3291 zw249 (Or.inl zw3289) dX13_overrides_10 ?_
  exact s_if_eq dX13_overrides_13 (by decide) (wX13_overrides_25 hZ j hj) (wX13_overrides_16 hZ j hj)
noncomputable def vX13_overrides_0 (j : Nat → rx_K) : rx_K := o_ld rx_isR 0 (o_ld rx_isI 1 (o_callV 1 13 FX13_isFree (o_c1 rx_eq (vX13_overrides_25 j) (vX13_overrides_8 j))))
set_option maxRecDepth 20000 in
theorem wX13_overrides_0 (hZ : zO b e D A X) (j : Nat → rx_K) (hj : ∀ k pc, [55][k]? = some pc → rx_OK (zV b e D A X) mX13_overrides 3 pc (j k)) : rx_OK (zV b e D A X) mX13_overrides 3 0 (vX13_overrides_0 j) := by
  unfold vX13_overrides_0
  refine s_aload_n hZ.1 dX13_overrides_0 rfl ?_
  refine s_iload_n hZ.1 dX13_overrides_1 rfl ?_
  refine s_callV hZ.1 (Met_X13_isFree hZ) (Nat.le_of_ble_eq_true rfl) vy_X13_isFree zcl13 zw3291 zw249 (Or.inl zw3289) dX13_overrides_2 ?_
  exact s_if_eq dX13_overrides_5 (by decide) (wX13_overrides_25 hZ j hj) (wX13_overrides_8 hZ j hj)
noncomputable def vhX13_overrides (j : Nat → rx_K) : List rx_K := [vX13_overrides_55 j]
theorem vlX13_overrides (hZ : zO b e D A X) : ∀ n k pc, [55][k]? = some pc → rx_OK (zV b e D A X) mX13_overrides 3 pc (rx_J (vhX13_overrides) n k) := rx_loop fun j hj k pc h => by
  match k, h with
  | 0, h =>
    have e9 := Option.some.inj (show some 55 = some pc from h)
    subst e9
    exact wX13_overrides_55 hZ j hj
  | _ + 1, h => exact absurd h (by simp)
noncomputable def FX13_overrides : List Nat → rx_H → Option (Nat × rx_H) := rx_ent 9 (vX13_overrides_0 (rx_J (vhX13_overrides) 4000000000))
theorem Met_X13_overrides (hZ : zO b e D A X) : rx_Met (zV b e D A X) 3 yX13_overrides mX13_overrides (FX13_overrides) := rx_entry hZ.1 (wX13_overrides_0 hZ _ (vlX13_overrides hZ 4000000000)) (by decide +kernel) rfl (fun h => by cases h)
abbrev mX13_mostSpecial : rx_M := (RX13, cX13_mostSpecial, 9, (some .int), false)
theorem vy_X13_mostSpecial : rx_Y (zV b e D A X) yX13_mostSpecial mX13_mostSpecial 2 := ⟨zw3328, zw431, by decide, by decide +kernel, by decide +kernel, by decide +kernel⟩
noncomputable def vX13_mostSpecial_256 (j : Nat → rx_K) : rx_K := o_ld rx_isI 5 (o_ret1 rx_isI)
set_option maxRecDepth 20000 in
theorem wX13_mostSpecial_256 (hZ : zO b e D A X) (j : Nat → rx_K) (hj : ∀ k pc, [60, 142, 155][k]? = some pc → rx_OK (zV b e D A X) mX13_mostSpecial 4 pc (j k)) : rx_OK (zV b e D A X) mX13_mostSpecial 4 256 (vX13_mostSpecial_256 j) := by
  unfold vX13_mostSpecial_256
  refine s_iload hZ.1 dX13_mostSpecial_256 ?_
  exact s_iret hZ.1 rfl dX13_mostSpecial_258
noncomputable def vX13_mostSpecial_250 (j : Nat → rx_K) : rx_K := o_inc 6 (1) ((j 1))
set_option maxRecDepth 20000 in
theorem wX13_mostSpecial_250 (hZ : zO b e D A X) (j : Nat → rx_K) (hj : ∀ k pc, [60, 142, 155][k]? = some pc → rx_OK (zV b e D A X) mX13_mostSpecial 4 pc (j k)) : rx_OK (zV b e D A X) mX13_mostSpecial 4 250 (vX13_mostSpecial_250 j) := by
  unfold vX13_mostSpecial_250
  refine s_iinc hZ.1 dX13_mostSpecial_250 (Nat.le_of_ble_eq_true rfl) ?_
  exact s_goto dX13_mostSpecial_253 (by decide) (hj 1 142 rfl)
noncomputable def vX13_mostSpecial_236 (j : Nat → rx_K) : rx_K := o_ld rx_isR 0 (o_ld rx_isR 0 (o_getf 13 99 (o_ld rx_isI 6 (o_ald 0 (o_putf rx_isI 13 102 (o_inc 5 (1) ((vX13_mostSpecial_250 j))))))))
set_option maxRecDepth 20000 in
theorem wX13_mostSpecial_236 (hZ : zO b e D A X) (j : Nat → rx_K) (hj : ∀ k pc, [60, 142, 155][k]? = some pc → rx_OK (zV b e D A X) mX13_mostSpecial 4 pc (j k)) : rx_OK (zV b e D A X) mX13_mostSpecial 4 236 (vX13_mostSpecial_236 j) := by
  unfold vX13_mostSpecial_236
  refine s_aload_n hZ.1 dX13_mostSpecial_236 rfl ?_
  refine s_aload_n hZ.1 dX13_mostSpecial_237 rfl ?_
  refine yg13_99 dX13_mostSpecial_238 zw4220 ?_
  refine s_iload hZ.1 dX13_mostSpecial_241 ?_
  refine s_iald (tt := 0) rfl dX13_mostSpecial_243 ?_
  refine yp13_102 hZ.1 dX13_mostSpecial_244 zw4222 ?_
  refine s_iinc hZ.1 dX13_mostSpecial_247 (Nat.le_of_ble_eq_true rfl) ?_
  exact (wX13_mostSpecial_250 hZ j hj)
noncomputable def vX13_mostSpecial_221 (j : Nat → rx_K) : rx_K := o_ld rx_isR 0 (o_getf 13 47 (o_ld rx_isR 0 (o_getf 13 99 (o_ld rx_isI 6 (o_ald 0 (o_ald 3 (o_c1 rx_eq (vX13_mostSpecial_236 j) (vX13_mostSpecial_250 j))))))))
set_option maxRecDepth 20000 in
theorem wX13_mostSpecial_221 (hZ : zO b e D A X) (j : Nat → rx_K) (hj : ∀ k pc, [60, 142, 155][k]? = some pc → rx_OK (zV b e D A X) mX13_mostSpecial 4 pc (j k)) : rx_OK (zV b e D A X) mX13_mostSpecial 4 221 (vX13_mostSpecial_221 j) := by
  unfold vX13_mostSpecial_221
  refine s_aload_n hZ.1 dX13_mostSpecial_221 rfl ?_
  refine yg13_47 dX13_mostSpecial_222 zw4168 ?_
  refine s_aload_n hZ.1 dX13_mostSpecial_225 rfl ?_
  refine yg13_99 dX13_mostSpecial_226 zw4220 ?_
  refine s_iload hZ.1 dX13_mostSpecial_229 ?_
  refine s_iald (tt := 0) rfl dX13_mostSpecial_231 ?_
  refine s_zald (tt := 3) rfl dX13_mostSpecial_232 ?_
  exact s_if_ne dX13_mostSpecial_233 (by decide) (wX13_mostSpecial_250 hZ j hj) (wX13_mostSpecial_236 hZ j hj)
noncomputable def vX13_mostSpecial_216 (j : Nat → rx_K) : rx_K := o_ld rx_isI 7 (o_c1 rx_eq (vX13_mostSpecial_250 j) (vX13_mostSpecial_221 j))
set_option maxRecDepth 20000 in
theorem wX13_mostSpecial_216 (hZ : zO b e D A X) (j : Nat → rx_K) (hj : ∀ k pc, [60, 142, 155][k]? = some pc → rx_OK (zV b e D A X) mX13_mostSpecial 4 pc (j k)) : rx_OK (zV b e D A X) mX13_mostSpecial 4 216 (vX13_mostSpecial_216 j) := by
  unfold vX13_mostSpecial_216
  refine s_iload hZ.1 dX13_mostSpecial_216 ?_
  exact s_if_eq dX13_mostSpecial_218 (by decide) (wX13_mostSpecial_250 hZ j hj) (wX13_mostSpecial_221 hZ j hj)
noncomputable def vX13_mostSpecial_208 (j : Nat → rx_K) : rx_K := o_st rx_isI 7 (o_inc 8 (1) ((j 2)))
set_option maxRecDepth 20000 in
theorem wX13_mostSpecial_208 (hZ : zO b e D A X) (j : Nat → rx_K) (hj : ∀ k pc, [60, 142, 155][k]? = some pc → rx_OK (zV b e D A X) mX13_mostSpecial 4 pc (j k)) : rx_OK (zV b e D A X) mX13_mostSpecial 4 208 (vX13_mostSpecial_208 j) := by
  unfold vX13_mostSpecial_208
  refine s_istore hZ.1 dX13_mostSpecial_208 (Nat.le_of_ble_eq_true rfl) ?_
  refine s_iinc hZ.1 dX13_mostSpecial_210 (Nat.le_of_ble_eq_true rfl) ?_
  exact s_goto dX13_mostSpecial_213 (by decide) (hj 2 155 rfl)
noncomputable def vX13_mostSpecial_207 (j : Nat → rx_K) : rx_K := o_const 0 ((vX13_mostSpecial_208 j))
set_option maxRecDepth 20000 in
theorem wX13_mostSpecial_207 (hZ : zO b e D A X) (j : Nat → rx_K) (hj : ∀ k pc, [60, 142, 155][k]? = some pc → rx_OK (zV b e D A X) mX13_mostSpecial 4 pc (j k)) : rx_OK (zV b e D A X) mX13_mostSpecial 4 207 (vX13_mostSpecial_207 j) := by
  unfold vX13_mostSpecial_207
  refine s_iconst dX13_mostSpecial_207 (by decide +kernel) ?_
  exact (wX13_mostSpecial_208 hZ j hj)
noncomputable def vX13_mostSpecial_203 (j : Nat → rx_K) : rx_K := o_const 8 ((vX13_mostSpecial_208 j))
set_option maxRecDepth 20000 in
theorem wX13_mostSpecial_203 (hZ : zO b e D A X) (j : Nat → rx_K) (hj : ∀ k pc, [60, 142, 155][k]? = some pc → rx_OK (zV b e D A X) mX13_mostSpecial 4 pc (j k)) : rx_OK (zV b e D A X) mX13_mostSpecial 4 203 (vX13_mostSpecial_203 j) := by
  unfold vX13_mostSpecial_203
  refine s_iconst dX13_mostSpecial_203 (by decide +kernel) ?_
  exact s_goto dX13_mostSpecial_204 (by decide) (wX13_mostSpecial_208 hZ j hj)
noncomputable def vX13_mostSpecial_174 (j : Nat → rx_K) : rx_K := o_ld rx_isR 0 (o_ld rx_isR 0 (o_ld rx_isR 0 (o_getf 13 99 (o_ld rx_isI 8 (o_ald 0 (o_callV 1 13 FX13_classOfMember (o_ld rx_isR 0 (o_ld rx_isR 0 (o_getf 13 99 (o_ld rx_isI 6 (o_ald 0 (o_callV 1 13 FX13_classOfMember (o_callV 2 13 FX13_isHeir (o_c1 rx_eq (vX13_mostSpecial_203 j) (vX13_mostSpecial_207 j)))))))))))))))
set_option maxRecDepth 20000 in
theorem wX13_mostSpecial_174 (hZ : zO b e D A X) (j : Nat → rx_K) (hj : ∀ k pc, [60, 142, 155][k]? = some pc → rx_OK (zV b e D A X) mX13_mostSpecial 4 pc (j k)) : rx_OK (zV b e D A X) mX13_mostSpecial 4 174 (vX13_mostSpecial_174 j) := by
  unfold vX13_mostSpecial_174
  refine s_aload_n hZ.1 dX13_mostSpecial_174 rfl ?_
  refine s_aload_n hZ.1 dX13_mostSpecial_175 rfl ?_
  refine s_aload_n hZ.1 dX13_mostSpecial_176 rfl ?_
  refine yg13_99 dX13_mostSpecial_177 zw4220 ?_
  refine s_iload hZ.1 dX13_mostSpecial_180 ?_
  refine s_iald (tt := 0) rfl dX13_mostSpecial_182 ?_
  refine s_callV hZ.1 (Met_X13_classOfMember hZ) (Nat.le_of_ble_eq_true rfl) vy_X13_classOfMember zcl13 zw3255 zw241 (Or.inl zw3253) dX13_mostSpecial_183 ?_
  refine s_aload_n hZ.1 dX13_mostSpecial_186 rfl ?_
  refine s_aload_n hZ.1 dX13_mostSpecial_187 rfl ?_
  refine yg13_99 dX13_mostSpecial_188 zw4220 ?_
  refine s_iload hZ.1 dX13_mostSpecial_191 ?_
  refine s_iald (tt := 0) rfl dX13_mostSpecial_193 ?_
  refine s_callV hZ.1 (Met_X13_classOfMember hZ) (Nat.le_of_ble_eq_true rfl) vy_X13_classOfMember zcl13 zw3255 zw241 (Or.inl zw3253) dX13_mostSpecial_194 ?_
  refine s_callV hZ.1 (Met_X13_isHeir hZ) (Nat.le_of_ble_eq_true rfl) vy_X13_isHeir zcl13 zw3211 zw231 (Or.inl zw3209) dX13_mostSpecial_197 ?_
  exact s_if_ne dX13_mostSpecial_200 (by decide) (wX13_mostSpecial_207 hZ j hj) (wX13_mostSpecial_203 hZ j hj)
noncomputable def vX13_mostSpecial_167 (j : Nat → rx_K) : rx_K := o_ld rx_isI 6 (o_ld rx_isI 8 (o_c2 rx_eq (vX13_mostSpecial_203 j) (vX13_mostSpecial_174 j)))
set_option maxRecDepth 20000 in
theorem wX13_mostSpecial_167 (hZ : zO b e D A X) (j : Nat → rx_K) (hj : ∀ k pc, [60, 142, 155][k]? = some pc → rx_OK (zV b e D A X) mX13_mostSpecial 4 pc (j k)) : rx_OK (zV b e D A X) mX13_mostSpecial 4 167 (vX13_mostSpecial_167 j) := by
  unfold vX13_mostSpecial_167
  refine s_iload hZ.1 dX13_mostSpecial_167 ?_
  refine s_iload hZ.1 dX13_mostSpecial_169 ?_
  exact s_icmp_eq dX13_mostSpecial_171 (by decide) (wX13_mostSpecial_203 hZ j hj) (wX13_mostSpecial_174 hZ j hj)
noncomputable def vX13_mostSpecial_162 (j : Nat → rx_K) : rx_K := o_ld rx_isI 7 (o_c1 rx_eq (vX13_mostSpecial_216 j) (vX13_mostSpecial_167 j))
set_option maxRecDepth 20000 in
theorem wX13_mostSpecial_162 (hZ : zO b e D A X) (j : Nat → rx_K) (hj : ∀ k pc, [60, 142, 155][k]? = some pc → rx_OK (zV b e D A X) mX13_mostSpecial 4 pc (j k)) : rx_OK (zV b e D A X) mX13_mostSpecial 4 162 (vX13_mostSpecial_162 j) := by
  unfold vX13_mostSpecial_162
  refine s_iload hZ.1 dX13_mostSpecial_162 ?_
  exact s_if_eq dX13_mostSpecial_164 (by decide) (wX13_mostSpecial_216 hZ j hj) (wX13_mostSpecial_167 hZ j hj)
noncomputable def vX13_mostSpecial_155 (j : Nat → rx_K) : rx_K := o_ld rx_isI 8 (o_ld rx_isI 4 (o_c2 rx_lt (vX13_mostSpecial_162 j) (vX13_mostSpecial_216 j)))
set_option maxRecDepth 20000 in
theorem wX13_mostSpecial_155 (hZ : zO b e D A X) (j : Nat → rx_K) (hj : ∀ k pc, [60, 142, 155][k]? = some pc → rx_OK (zV b e D A X) mX13_mostSpecial 4 pc (j k)) : rx_OK (zV b e D A X) mX13_mostSpecial 4 155 (vX13_mostSpecial_155 j) := by
  unfold vX13_mostSpecial_155
  refine s_iload hZ.1 dX13_mostSpecial_155 ?_
  refine s_iload hZ.1 dX13_mostSpecial_157 ?_
  exact s_icmp_ge dX13_mostSpecial_159 (by decide) (wX13_mostSpecial_216 hZ j hj) (wX13_mostSpecial_162 hZ j hj)
noncomputable def vX13_mostSpecial_149 (j : Nat → rx_K) : rx_K := o_const 8 (o_st rx_isI 7 (o_const 0 (o_st rx_isI 8 ((vX13_mostSpecial_155 j)))))
set_option maxRecDepth 20000 in
theorem wX13_mostSpecial_149 (hZ : zO b e D A X) (j : Nat → rx_K) (hj : ∀ k pc, [60, 142, 155][k]? = some pc → rx_OK (zV b e D A X) mX13_mostSpecial 4 pc (j k)) : rx_OK (zV b e D A X) mX13_mostSpecial 4 149 (vX13_mostSpecial_149 j) := by
  unfold vX13_mostSpecial_149
  refine s_iconst dX13_mostSpecial_149 (by decide +kernel) ?_
  refine s_istore hZ.1 dX13_mostSpecial_150 (Nat.le_of_ble_eq_true rfl) ?_
  refine s_iconst dX13_mostSpecial_152 (by decide +kernel) ?_
  refine s_istore hZ.1 dX13_mostSpecial_153 (Nat.le_of_ble_eq_true rfl) ?_
  exact (wX13_mostSpecial_155 hZ j hj)
noncomputable def vX13_mostSpecial_142 (j : Nat → rx_K) : rx_K := o_ld rx_isI 6 (o_ld rx_isI 4 (o_c2 rx_lt (vX13_mostSpecial_149 j) (vX13_mostSpecial_256 j)))
set_option maxRecDepth 20000 in
theorem wX13_mostSpecial_142 (hZ : zO b e D A X) (j : Nat → rx_K) (hj : ∀ k pc, [60, 142, 155][k]? = some pc → rx_OK (zV b e D A X) mX13_mostSpecial 4 pc (j k)) : rx_OK (zV b e D A X) mX13_mostSpecial 4 142 (vX13_mostSpecial_142 j) := by
  unfold vX13_mostSpecial_142
  refine s_iload hZ.1 dX13_mostSpecial_142 ?_
  refine s_iload hZ.1 dX13_mostSpecial_144 ?_
  exact s_icmp_ge dX13_mostSpecial_146 (by decide) (wX13_mostSpecial_256 hZ j hj) (wX13_mostSpecial_149 hZ j hj)
noncomputable def vX13_mostSpecial_130 (j : Nat → rx_K) : rx_K := o_ld rx_isR 0 (o_const 34359738352 (o_putf rx_isI 13 102 (o_const 0 (o_st rx_isI 5 (o_const 0 (o_st rx_isI 6 ((vX13_mostSpecial_142 j))))))))
set_option maxRecDepth 20000 in
theorem wX13_mostSpecial_130 (hZ : zO b e D A X) (j : Nat → rx_K) (hj : ∀ k pc, [60, 142, 155][k]? = some pc → rx_OK (zV b e D A X) mX13_mostSpecial 4 pc (j k)) : rx_OK (zV b e D A X) mX13_mostSpecial 4 130 (vX13_mostSpecial_130 j) := by
  unfold vX13_mostSpecial_130
  refine s_aload_n hZ.1 dX13_mostSpecial_130 rfl ?_
  refine s_bipush dX13_mostSpecial_131 (by decide +kernel) ?_
  refine yp13_102 hZ.1 dX13_mostSpecial_133 zw4222 ?_
  refine s_iconst dX13_mostSpecial_136 (by decide +kernel) ?_
  refine s_istore hZ.1 dX13_mostSpecial_137 (Nat.le_of_ble_eq_true rfl) ?_
  refine s_iconst dX13_mostSpecial_139 (by decide +kernel) ?_
  refine s_istore hZ.1 dX13_mostSpecial_140 (Nat.le_of_ble_eq_true rfl) ?_
  exact (wX13_mostSpecial_142 hZ j hj)
noncomputable def vX13_mostSpecial_124 (j : Nat → rx_K) : rx_K := o_inc 5 (1) ((j 0))
set_option maxRecDepth 20000 in
theorem wX13_mostSpecial_124 (hZ : zO b e D A X) (j : Nat → rx_K) (hj : ∀ k pc, [60, 142, 155][k]? = some pc → rx_OK (zV b e D A X) mX13_mostSpecial 4 pc (j k)) : rx_OK (zV b e D A X) mX13_mostSpecial 4 124 (vX13_mostSpecial_124 j) := by
  unfold vX13_mostSpecial_124
  refine s_iinc hZ.1 dX13_mostSpecial_124 (Nat.le_of_ble_eq_true rfl) ?_
  exact s_goto dX13_mostSpecial_127 (by decide) (hj 0 60 rfl)
noncomputable def vX13_mostSpecial_112 (j : Nat → rx_K) : rx_K := o_ld rx_isR 0 (o_getf 13 99 (o_ld rx_isI 4 (o_inc 4 (1) (o_ld rx_isI 6 (o_ast 0 (fun v => v) rx_isI ((vX13_mostSpecial_124 j)))))))
set_option maxRecDepth 20000 in
theorem wX13_mostSpecial_112 (hZ : zO b e D A X) (j : Nat → rx_K) (hj : ∀ k pc, [60, 142, 155][k]? = some pc → rx_OK (zV b e D A X) mX13_mostSpecial 4 pc (j k)) : rx_OK (zV b e D A X) mX13_mostSpecial 4 112 (vX13_mostSpecial_112 j) := by
  unfold vX13_mostSpecial_112
  refine s_aload_n hZ.1 dX13_mostSpecial_112 rfl ?_
  refine yg13_99 dX13_mostSpecial_113 zw4220 ?_
  refine s_iload hZ.1 dX13_mostSpecial_116 ?_
  refine s_iinc hZ.1 dX13_mostSpecial_118 (Nat.le_of_ble_eq_true rfl) ?_
  refine s_iload hZ.1 dX13_mostSpecial_121 ?_
  refine s_iast hZ.1 (tt := 0) rfl dX13_mostSpecial_123 ?_
  exact (wX13_mostSpecial_124 hZ j hj)
noncomputable def vX13_mostSpecial_103 (j : Nat → rx_K) : rx_K := o_ld rx_isR 0 (o_ld rx_isI 6 (o_callV 1 13 FX13_isFree (o_c1 rx_eq (vX13_mostSpecial_124 j) (vX13_mostSpecial_112 j))))
set_option maxRecDepth 20000 in
theorem wX13_mostSpecial_103 (hZ : zO b e D A X) (j : Nat → rx_K) (hj : ∀ k pc, [60, 142, 155][k]? = some pc → rx_OK (zV b e D A X) mX13_mostSpecial 4 pc (j k)) : rx_OK (zV b e D A X) mX13_mostSpecial 4 103 (vX13_mostSpecial_103 j) := by
  unfold vX13_mostSpecial_103
  refine s_aload_n hZ.1 dX13_mostSpecial_103 rfl ?_
  refine s_iload hZ.1 dX13_mostSpecial_104 ?_
  refine s_callV hZ.1 (Met_X13_isFree hZ) (Nat.le_of_ble_eq_true rfl) vy_X13_isFree zcl13 zw3291 zw249 (Or.inl zw3289) dX13_mostSpecial_106 ?_
  exact s_if_eq dX13_mostSpecial_109 (by decide) (wX13_mostSpecial_124 hZ j hj) (wX13_mostSpecial_112 hZ j hj)
noncomputable def vX13_mostSpecial_94 (j : Nat → rx_K) : rx_K := o_st rx_isI 6 (o_ld rx_isI 6 (o_const 34359738352 (o_c2 rx_eq (vX13_mostSpecial_124 j) (vX13_mostSpecial_103 j))))
set_option maxRecDepth 20000 in
theorem wX13_mostSpecial_94 (hZ : zO b e D A X) (j : Nat → rx_K) (hj : ∀ k pc, [60, 142, 155][k]? = some pc → rx_OK (zV b e D A X) mX13_mostSpecial 4 pc (j k)) : rx_OK (zV b e D A X) mX13_mostSpecial 4 94 (vX13_mostSpecial_94 j) := by
  unfold vX13_mostSpecial_94
  refine s_istore hZ.1 dX13_mostSpecial_94 (Nat.le_of_ble_eq_true rfl) ?_
  refine s_iload hZ.1 dX13_mostSpecial_96 ?_
  refine s_bipush dX13_mostSpecial_98 (by decide +kernel) ?_
  exact s_icmp_eq dX13_mostSpecial_100 (by decide) (wX13_mostSpecial_124 hZ j hj) (wX13_mostSpecial_103 hZ j hj)
noncomputable def vX13_mostSpecial_82 (j : Nat → rx_K) : rx_K := o_ld rx_isR 0 (o_ld rx_isR 0 (o_getf 13 100 (o_ld rx_isI 5 (o_ald 0 (o_ld rx_isI 2 (o_callV 2 13 FX13_ownMethod ((vX13_mostSpecial_94 j))))))))
set_option maxRecDepth 20000 in
theorem wX13_mostSpecial_82 (hZ : zO b e D A X) (j : Nat → rx_K) (hj : ∀ k pc, [60, 142, 155][k]? = some pc → rx_OK (zV b e D A X) mX13_mostSpecial 4 pc (j k)) : rx_OK (zV b e D A X) mX13_mostSpecial 4 82 (vX13_mostSpecial_82 j) := by
  unfold vX13_mostSpecial_82
  refine s_aload_n hZ.1 dX13_mostSpecial_82 rfl ?_
  refine s_aload_n hZ.1 dX13_mostSpecial_83 rfl ?_
  refine yg13_100 dX13_mostSpecial_84 zw4221 ?_
  refine s_iload hZ.1 dX13_mostSpecial_87 ?_
  refine s_iald (tt := 0) rfl dX13_mostSpecial_89 ?_
  refine s_iload_n hZ.1 dX13_mostSpecial_90 rfl ?_
  refine s_callV hZ.1 (Met_X13_ownMethod hZ) (Nat.le_of_ble_eq_true rfl) vy_X13_ownMethod zcl13 zw3319 zw256 (Or.inl zw3317) dX13_mostSpecial_91 ?_
  exact (wX13_mostSpecial_94 hZ j hj)
noncomputable def vX13_mostSpecial_77 (j : Nat → rx_K) : rx_K := o_const 34359738352 ((vX13_mostSpecial_94 j))
set_option maxRecDepth 20000 in
theorem wX13_mostSpecial_77 (hZ : zO b e D A X) (j : Nat → rx_K) (hj : ∀ k pc, [60, 142, 155][k]? = some pc → rx_OK (zV b e D A X) mX13_mostSpecial 4 pc (j k)) : rx_OK (zV b e D A X) mX13_mostSpecial 4 77 (vX13_mostSpecial_77 j) := by
  unfold vX13_mostSpecial_77
  refine s_bipush dX13_mostSpecial_77 (by decide +kernel) ?_
  exact s_goto dX13_mostSpecial_79 (by decide) (wX13_mostSpecial_94 hZ j hj)
noncomputable def vX13_mostSpecial_66 (j : Nat → rx_K) : rx_K := o_ld rx_isR 0 (o_getf 13 100 (o_ld rx_isI 5 (o_ald 0 (o_ld rx_isI 1 (o_c2 rx_eq (vX13_mostSpecial_77 j) (vX13_mostSpecial_82 j))))))
set_option maxRecDepth 20000 in
theorem wX13_mostSpecial_66 (hZ : zO b e D A X) (j : Nat → rx_K) (hj : ∀ k pc, [60, 142, 155][k]? = some pc → rx_OK (zV b e D A X) mX13_mostSpecial 4 pc (j k)) : rx_OK (zV b e D A X) mX13_mostSpecial 4 66 (vX13_mostSpecial_66 j) := by
  unfold vX13_mostSpecial_66
  refine s_aload_n hZ.1 dX13_mostSpecial_66 rfl ?_
  refine yg13_100 dX13_mostSpecial_67 zw4221 ?_
  refine s_iload hZ.1 dX13_mostSpecial_70 ?_
  refine s_iald (tt := 0) rfl dX13_mostSpecial_72 ?_
  refine s_iload_n hZ.1 dX13_mostSpecial_73 rfl ?_
  exact s_icmp_ne dX13_mostSpecial_74 (by decide) (wX13_mostSpecial_82 hZ j hj) (wX13_mostSpecial_77 hZ j hj)
noncomputable def vX13_mostSpecial_60 (j : Nat → rx_K) : rx_K := o_ld rx_isI 5 (o_ld rx_isI 3 (o_c2 rx_lt (vX13_mostSpecial_66 j) (vX13_mostSpecial_130 j)))
set_option maxRecDepth 20000 in
theorem wX13_mostSpecial_60 (hZ : zO b e D A X) (j : Nat → rx_K) (hj : ∀ k pc, [60, 142, 155][k]? = some pc → rx_OK (zV b e D A X) mX13_mostSpecial 4 pc (j k)) : rx_OK (zV b e D A X) mX13_mostSpecial 4 60 (vX13_mostSpecial_60 j) := by
  unfold vX13_mostSpecial_60
  refine s_iload hZ.1 dX13_mostSpecial_60 ?_
  refine s_iload_n hZ.1 dX13_mostSpecial_62 rfl ?_
  exact s_icmp_ge dX13_mostSpecial_63 (by decide) (wX13_mostSpecial_130 hZ j hj) (wX13_mostSpecial_66 hZ j hj)
noncomputable def vX13_mostSpecial_57 (j : Nat → rx_K) : rx_K := o_const 0 (o_st rx_isI 5 ((vX13_mostSpecial_60 j)))
set_option maxRecDepth 20000 in
theorem wX13_mostSpecial_57 (hZ : zO b e D A X) (j : Nat → rx_K) (hj : ∀ k pc, [60, 142, 155][k]? = some pc → rx_OK (zV b e D A X) mX13_mostSpecial 4 pc (j k)) : rx_OK (zV b e D A X) mX13_mostSpecial 4 57 (vX13_mostSpecial_57 j) := by
  unfold vX13_mostSpecial_57
  refine s_iconst dX13_mostSpecial_57 (by decide +kernel) ?_
  refine s_istore hZ.1 dX13_mostSpecial_58 (Nat.le_of_ble_eq_true rfl) ?_
  exact (wX13_mostSpecial_60 hZ j hj)
noncomputable def vX13_mostSpecial_45 (j : Nat → rx_K) : rx_K := o_ld rx_isR 0 (o_getf 13 99 (o_ld rx_isI 4 (o_inc 4 (1) (o_ld rx_isI 5 (o_ast 0 (fun v => v) rx_isI ((vX13_mostSpecial_57 j)))))))
set_option maxRecDepth 20000 in
theorem wX13_mostSpecial_45 (hZ : zO b e D A X) (j : Nat → rx_K) (hj : ∀ k pc, [60, 142, 155][k]? = some pc → rx_OK (zV b e D A X) mX13_mostSpecial 4 pc (j k)) : rx_OK (zV b e D A X) mX13_mostSpecial 4 45 (vX13_mostSpecial_45 j) := by
  unfold vX13_mostSpecial_45
  refine s_aload_n hZ.1 dX13_mostSpecial_45 rfl ?_
  refine yg13_99 dX13_mostSpecial_46 zw4220 ?_
  refine s_iload hZ.1 dX13_mostSpecial_49 ?_
  refine s_iinc hZ.1 dX13_mostSpecial_51 (Nat.le_of_ble_eq_true rfl) ?_
  refine s_iload hZ.1 dX13_mostSpecial_54 ?_
  refine s_iast hZ.1 (tt := 0) rfl dX13_mostSpecial_56 ?_
  exact (wX13_mostSpecial_57 hZ j hj)
noncomputable def vX13_mostSpecial_36 (j : Nat → rx_K) : rx_K := o_ld rx_isR 0 (o_ld rx_isI 5 (o_callV 1 13 FX13_isFree (o_c1 rx_eq (vX13_mostSpecial_57 j) (vX13_mostSpecial_45 j))))
set_option maxRecDepth 20000 in
theorem wX13_mostSpecial_36 (hZ : zO b e D A X) (j : Nat → rx_K) (hj : ∀ k pc, [60, 142, 155][k]? = some pc → rx_OK (zV b e D A X) mX13_mostSpecial 4 pc (j k)) : rx_OK (zV b e D A X) mX13_mostSpecial 4 36 (vX13_mostSpecial_36 j) := by
  unfold vX13_mostSpecial_36
  refine s_aload_n hZ.1 dX13_mostSpecial_36 rfl ?_
  refine s_iload hZ.1 dX13_mostSpecial_37 ?_
  refine s_callV hZ.1 (Met_X13_isFree hZ) (Nat.le_of_ble_eq_true rfl) vy_X13_isFree zcl13 zw3291 zw249 (Or.inl zw3289) dX13_mostSpecial_39 ?_
  exact s_if_eq dX13_mostSpecial_42 (by decide) (wX13_mostSpecial_57 hZ j hj) (wX13_mostSpecial_45 hZ j hj)
noncomputable def vX13_mostSpecial_21 (j : Nat → rx_K) : rx_K := o_ld rx_isR 0 (o_ld rx_isI 1 (o_ld rx_isI 2 (o_callV 2 13 FX13_ownMethod (o_st rx_isI 5 (o_ld rx_isI 5 (o_const 34359738352 (o_c2 rx_eq (vX13_mostSpecial_57 j) (vX13_mostSpecial_36 j))))))))
set_option maxRecDepth 20000 in
theorem wX13_mostSpecial_21 (hZ : zO b e D A X) (j : Nat → rx_K) (hj : ∀ k pc, [60, 142, 155][k]? = some pc → rx_OK (zV b e D A X) mX13_mostSpecial 4 pc (j k)) : rx_OK (zV b e D A X) mX13_mostSpecial 4 21 (vX13_mostSpecial_21 j) := by
  unfold vX13_mostSpecial_21
  refine s_aload_n hZ.1 dX13_mostSpecial_21 rfl ?_
  refine s_iload_n hZ.1 dX13_mostSpecial_22 rfl ?_
  refine s_iload_n hZ.1 dX13_mostSpecial_23 rfl ?_
  refine s_callV hZ.1 (Met_X13_ownMethod hZ) (Nat.le_of_ble_eq_true rfl) vy_X13_ownMethod zcl13 zw3319 zw256 (Or.inl zw3317) dX13_mostSpecial_24 ?_
  refine s_istore hZ.1 dX13_mostSpecial_27 (Nat.le_of_ble_eq_true rfl) ?_
  refine s_iload hZ.1 dX13_mostSpecial_29 ?_
  refine s_bipush dX13_mostSpecial_31 (by decide +kernel) ?_
  exact s_icmp_eq dX13_mostSpecial_33 (by decide) (wX13_mostSpecial_57 hZ j hj) (wX13_mostSpecial_36 hZ j hj)
noncomputable def vX13_mostSpecial_0 (j : Nat → rx_K) : rx_K := o_ld rx_isR 0 (o_ld rx_isI 1 (o_ld rx_isR 0 (o_getf 13 100 (o_callV 2 13 FX13_allFaces (o_st rx_isI 3 (o_const 0 (o_st rx_isI 4 (o_ld rx_isR 0 (o_ld rx_isI 1 (o_callV 1 13 FX13_isFace (o_c1 rx_eq (vX13_mostSpecial_57 j) (vX13_mostSpecial_21 j))))))))))))
set_option maxRecDepth 20000 in
theorem wX13_mostSpecial_0 (hZ : zO b e D A X) (j : Nat → rx_K) (hj : ∀ k pc, [60, 142, 155][k]? = some pc → rx_OK (zV b e D A X) mX13_mostSpecial 4 pc (j k)) : rx_OK (zV b e D A X) mX13_mostSpecial 4 0 (vX13_mostSpecial_0 j) := by
  unfold vX13_mostSpecial_0
  refine s_aload_n hZ.1 dX13_mostSpecial_0 rfl ?_
  refine s_iload_n hZ.1 dX13_mostSpecial_1 rfl ?_
  refine s_aload_n hZ.1 dX13_mostSpecial_2 rfl ?_
  refine yg13_100 dX13_mostSpecial_3 zw4221 ?_
  refine s_callV hZ.1 (Met_X13_allFaces hZ) (Nat.le_of_ble_eq_true rfl) vy_X13_allFaces zcl13 zw3270 zw244 (Or.inl zw3268) dX13_mostSpecial_6 ?_
  refine s_istore_n hZ.1 dX13_mostSpecial_9 rfl (Nat.le_of_ble_eq_true rfl) ?_
  refine s_iconst dX13_mostSpecial_10 (by decide +kernel) ?_
  refine s_istore hZ.1 dX13_mostSpecial_11 (Nat.le_of_ble_eq_true rfl) ?_
  refine s_aload_n hZ.1 dX13_mostSpecial_13 rfl ?_
  refine s_iload_n hZ.1 dX13_mostSpecial_14 rfl ?_
  refine s_callV hZ.1 (Met_X13_isFace hZ) (Nat.le_of_ble_eq_true rfl) vy_X13_isFace zcl13 zw3192 zw227 (Or.inl zw3190) dX13_mostSpecial_15 ?_
  exact s_if_eq dX13_mostSpecial_18 (by decide) (wX13_mostSpecial_57 hZ j hj) (wX13_mostSpecial_21 hZ j hj)
noncomputable def vhX13_mostSpecial (j : Nat → rx_K) : List rx_K := [vX13_mostSpecial_60 j, vX13_mostSpecial_142 j, vX13_mostSpecial_155 j]
theorem vlX13_mostSpecial (hZ : zO b e D A X) : ∀ n k pc, [60, 142, 155][k]? = some pc → rx_OK (zV b e D A X) mX13_mostSpecial 4 pc (rx_J (vhX13_mostSpecial) n k) := rx_loop fun j hj k pc h => by
  match k, h with
  | 0, h =>
    have e9 := Option.some.inj (show some 60 = some pc from h)
    subst e9
    exact wX13_mostSpecial_60 hZ j hj
  | 1, h =>
    have e9 := Option.some.inj (show some 142 = some pc from h)
    subst e9
    exact wX13_mostSpecial_142 hZ j hj
  | 2, h =>
    have e9 := Option.some.inj (show some 155 = some pc from h)
    subst e9
    exact wX13_mostSpecial_155 hZ j hj
  | _ + 3, h => exact absurd h (by simp)
noncomputable def FX13_mostSpecial : List Nat → rx_H → Option (Nat × rx_H) := rx_ent 9 (vX13_mostSpecial_0 (rx_J (vhX13_mostSpecial) 4000000000))
theorem Met_X13_mostSpecial (hZ : zO b e D A X) : rx_Met (zV b e D A X) 4 yX13_mostSpecial mX13_mostSpecial (FX13_mostSpecial) := rx_entry hZ.1 (wX13_mostSpecial_0 hZ _ (vlX13_mostSpecial hZ 4000000000)) (by decide +kernel) rfl (fun h => by cases h)
abbrev mX13_selected : rx_M := (RX13, cX13_selected, 7, (some .int), false)
theorem vy_X13_selected : rx_Y (zV b e D A X) yX13_selected mX13_selected 2 := ⟨zw3316, zw431, by decide, by decide +kernel, by decide +kernel, by decide +kernel⟩
noncomputable def vX13_selected_166 (j : Nat → rx_K) : rx_K := o_ret1 rx_isI
set_option maxRecDepth 20000 in
theorem wX13_selected_166 (hZ : zO b e D A X) (j : Nat → rx_K) (hj : ∀ k pc, [41][k]? = some pc → rx_OK (zV b e D A X) mX13_selected 5 pc (j k)) : rx_OK (zV b e D A X) mX13_selected 5 166 (vX13_selected_166 j) := by
  unfold vX13_selected_166
  exact s_iret hZ.1 rfl dX13_selected_166
noncomputable def vX13_selected_164 (j : Nat → rx_K) : rx_K := o_const 34359738320 ((vX13_selected_166 j))
set_option maxRecDepth 20000 in
theorem wX13_selected_164 (hZ : zO b e D A X) (j : Nat → rx_K) (hj : ∀ k pc, [41][k]? = some pc → rx_OK (zV b e D A X) mX13_selected 5 pc (j k)) : rx_OK (zV b e D A X) mX13_selected 5 164 (vX13_selected_164 j) := by
  unfold vX13_selected_164
  refine s_bipush dX13_selected_164 (by decide +kernel) ?_
  exact (wX13_selected_166 hZ j hj)
noncomputable def vX13_selected_159 (j : Nat → rx_K) : rx_K := o_const 34359738344 ((vX13_selected_166 j))
set_option maxRecDepth 20000 in
theorem wX13_selected_159 (hZ : zO b e D A X) (j : Nat → rx_K) (hj : ∀ k pc, [41][k]? = some pc → rx_OK (zV b e D A X) mX13_selected 5 pc (j k)) : rx_OK (zV b e D A X) mX13_selected 5 159 (vX13_selected_159 j) := by
  unfold vX13_selected_159
  refine s_bipush dX13_selected_159 (by decide +kernel) ?_
  exact s_goto dX13_selected_161 (by decide) (wX13_selected_166 hZ j hj)
noncomputable def vX13_selected_153 (j : Nat → rx_K) : rx_K := o_ld rx_isI 6 (o_const 8 (o_c2 (fun h x y => rx_lt h y x) (vX13_selected_159 j) (vX13_selected_164 j)))
set_option maxRecDepth 20000 in
theorem wX13_selected_153 (hZ : zO b e D A X) (j : Nat → rx_K) (hj : ∀ k pc, [41][k]? = some pc → rx_OK (zV b e D A X) mX13_selected 5 pc (j k)) : rx_OK (zV b e D A X) mX13_selected 5 153 (vX13_selected_153 j) := by
  unfold vX13_selected_153
  refine s_iload hZ.1 dX13_selected_153 ?_
  refine s_iconst dX13_selected_155 (by decide +kernel) ?_
  exact s_icmp_le dX13_selected_156 (by decide) (wX13_selected_164 hZ j hj) (wX13_selected_159 hZ j hj)
noncomputable def vX13_selected_146 (j : Nat → rx_K) : rx_K := o_ld rx_isR 0 (o_getf 13 102 ((vX13_selected_166 j)))
set_option maxRecDepth 20000 in
theorem wX13_selected_146 (hZ : zO b e D A X) (j : Nat → rx_K) (hj : ∀ k pc, [41][k]? = some pc → rx_OK (zV b e D A X) mX13_selected 5 pc (j k)) : rx_OK (zV b e D A X) mX13_selected 5 146 (vX13_selected_146 j) := by
  unfold vX13_selected_146
  refine s_aload_n hZ.1 dX13_selected_146 rfl ?_
  refine yg13_102 dX13_selected_147 zw4222 ?_
  exact s_goto dX13_selected_150 (by decide) (wX13_selected_166 hZ j hj)
noncomputable def vX13_selected_132 (j : Nat → rx_K) : rx_K := o_ld rx_isR 0 (o_ld rx_isI 2 (o_ld rx_isI 1 (o_callV 2 13 FX13_mostSpecial (o_st rx_isI 6 (o_ld rx_isI 6 (o_const 8 (o_c2 rx_eq (vX13_selected_146 j) (vX13_selected_153 j))))))))
set_option maxRecDepth 20000 in
theorem wX13_selected_132 (hZ : zO b e D A X) (j : Nat → rx_K) (hj : ∀ k pc, [41][k]? = some pc → rx_OK (zV b e D A X) mX13_selected 5 pc (j k)) : rx_OK (zV b e D A X) mX13_selected 5 132 (vX13_selected_132 j) := by
  unfold vX13_selected_132
  refine s_aload_n hZ.1 dX13_selected_132 rfl ?_
  refine s_iload_n hZ.1 dX13_selected_133 rfl ?_
  refine s_iload_n hZ.1 dX13_selected_134 rfl ?_
  refine s_callV hZ.1 (Met_X13_mostSpecial hZ) (Nat.le_of_ble_eq_true rfl) vy_X13_mostSpecial zcl13 zw3327 zw258 (Or.inl zw3325) dX13_selected_135 ?_
  refine s_istore hZ.1 dX13_selected_138 (Nat.le_of_ble_eq_true rfl) ?_
  refine s_iload hZ.1 dX13_selected_140 ?_
  refine s_iconst dX13_selected_142 (by decide +kernel) ?_
  exact s_icmp_ne dX13_selected_143 (by decide) (wX13_selected_153 hZ j hj) (wX13_selected_146 hZ j hj)
noncomputable def vX13_selected_118 (j : Nat → rx_K) : rx_K := o_ld rx_isR 0 (o_ld rx_isI 4 (o_callV 1 13 FX13_parent (o_st rx_isI 4 (o_inc 5 (1) ((j 0))))))
set_option maxRecDepth 20000 in
theorem wX13_selected_118 (hZ : zO b e D A X) (j : Nat → rx_K) (hj : ∀ k pc, [41][k]? = some pc → rx_OK (zV b e D A X) mX13_selected 5 pc (j k)) : rx_OK (zV b e D A X) mX13_selected 5 118 (vX13_selected_118 j) := by
  unfold vX13_selected_118
  refine s_aload_n hZ.1 dX13_selected_118 rfl ?_
  refine s_iload hZ.1 dX13_selected_119 ?_
  refine s_callV hZ.1 (Met_X13_parent hZ) (Nat.le_of_ble_eq_true rfl) vy_X13_parent zcl13 zw3220 zw233 (Or.inl zw3218) dX13_selected_121 ?_
  refine s_istore hZ.1 dX13_selected_124 (Nat.le_of_ble_eq_true rfl) ?_
  refine s_iinc hZ.1 dX13_selected_126 (Nat.le_of_ble_eq_true rfl) ?_
  exact s_goto dX13_selected_129 (by decide) (hj 0 41 rfl)
noncomputable def vX13_selected_117 (j : Nat → rx_K) : rx_K := o_ret1 rx_isI
set_option maxRecDepth 20000 in
theorem wX13_selected_117 (hZ : zO b e D A X) (j : Nat → rx_K) (hj : ∀ k pc, [41][k]? = some pc → rx_OK (zV b e D A X) mX13_selected 5 pc (j k)) : rx_OK (zV b e D A X) mX13_selected 5 117 (vX13_selected_117 j) := by
  unfold vX13_selected_117
  exact s_iret hZ.1 rfl dX13_selected_117
noncomputable def vX13_selected_115 (j : Nat → rx_K) : rx_K := o_ld rx_isI 6 ((vX13_selected_117 j))
set_option maxRecDepth 20000 in
theorem wX13_selected_115 (hZ : zO b e D A X) (j : Nat → rx_K) (hj : ∀ k pc, [41][k]? = some pc → rx_OK (zV b e D A X) mX13_selected 5 pc (j k)) : rx_OK (zV b e D A X) mX13_selected 5 115 (vX13_selected_115 j) := by
  unfold vX13_selected_115
  refine s_iload hZ.1 dX13_selected_115 ?_
  exact (wX13_selected_117 hZ j hj)
noncomputable def vX13_selected_110 (j : Nat → rx_K) : rx_K := o_const 34359738320 ((vX13_selected_117 j))
set_option maxRecDepth 20000 in
theorem wX13_selected_110 (hZ : zO b e D A X) (j : Nat → rx_K) (hj : ∀ k pc, [41][k]? = some pc → rx_OK (zV b e D A X) mX13_selected 5 pc (j k)) : rx_OK (zV b e D A X) mX13_selected 5 110 (vX13_selected_110 j) := by
  unfold vX13_selected_110
  refine s_bipush dX13_selected_110 (by decide +kernel) ?_
  exact s_goto dX13_selected_112 (by decide) (wX13_selected_117 hZ j hj)
noncomputable def vX13_selected_100 (j : Nat → rx_K) : rx_K := o_ld rx_isR 0 (o_getf 13 47 (o_ld rx_isI 6 (o_ald 3 (o_c1 rx_eq (vX13_selected_115 j) (vX13_selected_110 j)))))
set_option maxRecDepth 20000 in
theorem wX13_selected_100 (hZ : zO b e D A X) (j : Nat → rx_K) (hj : ∀ k pc, [41][k]? = some pc → rx_OK (zV b e D A X) mX13_selected 5 pc (j k)) : rx_OK (zV b e D A X) mX13_selected 5 100 (vX13_selected_100 j) := by
  unfold vX13_selected_100
  refine s_aload_n hZ.1 dX13_selected_100 rfl ?_
  refine yg13_47 dX13_selected_101 zw4168 ?_
  refine s_iload hZ.1 dX13_selected_104 ?_
  refine s_zald (tt := 3) rfl dX13_selected_106 ?_
  exact s_if_eq dX13_selected_107 (by decide) (wX13_selected_115 hZ j hj) (wX13_selected_110 hZ j hj)
noncomputable def vX13_selected_90 (j : Nat → rx_K) : rx_K := o_ld rx_isR 0 (o_ld rx_isI 6 (o_ld rx_isI 1 (o_callV 2 13 FX13_overrides (o_c1 rx_eq (vX13_selected_118 j) (vX13_selected_100 j)))))
set_option maxRecDepth 20000 in
theorem wX13_selected_90 (hZ : zO b e D A X) (j : Nat → rx_K) (hj : ∀ k pc, [41][k]? = some pc → rx_OK (zV b e D A X) mX13_selected 5 pc (j k)) : rx_OK (zV b e D A X) mX13_selected 5 90 (vX13_selected_90 j) := by
  unfold vX13_selected_90
  refine s_aload_n hZ.1 dX13_selected_90 rfl ?_
  refine s_iload hZ.1 dX13_selected_91 ?_
  refine s_iload_n hZ.1 dX13_selected_93 rfl ?_
  refine s_callV hZ.1 (Met_X13_overrides hZ) (Nat.le_of_ble_eq_true rfl) vy_X13_overrides zcl13 zw3323 zw257 (Or.inl zw3321) dX13_selected_94 ?_
  exact s_if_eq dX13_selected_97 (by decide) (wX13_selected_118 hZ j hj) (wX13_selected_100 hZ j hj)
noncomputable def vX13_selected_86 (j : Nat → rx_K) : rx_K := o_ld rx_isI 3 (o_c1 rx_eq (vX13_selected_90 j) (vX13_selected_100 j))
set_option maxRecDepth 20000 in
theorem wX13_selected_86 (hZ : zO b e D A X) (j : Nat → rx_K) (hj : ∀ k pc, [41][k]? = some pc → rx_OK (zV b e D A X) mX13_selected 5 pc (j k)) : rx_OK (zV b e D A X) mX13_selected 5 86 (vX13_selected_86 j) := by
  unfold vX13_selected_86
  refine s_iload_n hZ.1 dX13_selected_86 rfl ?_
  exact s_if_ne dX13_selected_87 (by decide) (wX13_selected_100 hZ j hj) (wX13_selected_90 hZ j hj)
noncomputable def vX13_selected_80 (j : Nat → rx_K) : rx_K := o_ld rx_isI 6 (o_ld rx_isI 1 (o_c2 rx_eq (vX13_selected_100 j) (vX13_selected_86 j)))
set_option maxRecDepth 20000 in
theorem wX13_selected_80 (hZ : zO b e D A X) (j : Nat → rx_K) (hj : ∀ k pc, [41][k]? = some pc → rx_OK (zV b e D A X) mX13_selected 5 pc (j k)) : rx_OK (zV b e D A X) mX13_selected 5 80 (vX13_selected_80 j) := by
  unfold vX13_selected_80
  refine s_iload hZ.1 dX13_selected_80 ?_
  refine s_iload_n hZ.1 dX13_selected_82 rfl ?_
  exact s_icmp_eq dX13_selected_83 (by decide) (wX13_selected_100 hZ j hj) (wX13_selected_86 hZ j hj)
noncomputable def vX13_selected_71 (j : Nat → rx_K) : rx_K := o_ld rx_isR 0 (o_ld rx_isI 6 (o_callV 1 13 FX13_isFree (o_c1 rx_eq (vX13_selected_118 j) (vX13_selected_80 j))))
set_option maxRecDepth 20000 in
theorem wX13_selected_71 (hZ : zO b e D A X) (j : Nat → rx_K) (hj : ∀ k pc, [41][k]? = some pc → rx_OK (zV b e D A X) mX13_selected 5 pc (j k)) : rx_OK (zV b e D A X) mX13_selected 5 71 (vX13_selected_71 j) := by
  unfold vX13_selected_71
  refine s_aload_n hZ.1 dX13_selected_71 rfl ?_
  refine s_iload hZ.1 dX13_selected_72 ?_
  refine s_callV hZ.1 (Met_X13_isFree hZ) (Nat.le_of_ble_eq_true rfl) vy_X13_isFree zcl13 zw3291 zw249 (Or.inl zw3289) dX13_selected_74 ?_
  exact s_if_eq dX13_selected_77 (by decide) (wX13_selected_118 hZ j hj) (wX13_selected_80 hZ j hj)
noncomputable def vX13_selected_55 (j : Nat → rx_K) : rx_K := o_ld rx_isR 0 (o_ld rx_isI 4 (o_ld rx_isI 1 (o_callV 2 13 FX13_ownMethod (o_st rx_isI 6 (o_ld rx_isI 6 (o_const 34359738352 (o_c2 rx_eq (vX13_selected_118 j) (vX13_selected_71 j))))))))
set_option maxRecDepth 20000 in
theorem wX13_selected_55 (hZ : zO b e D A X) (j : Nat → rx_K) (hj : ∀ k pc, [41][k]? = some pc → rx_OK (zV b e D A X) mX13_selected 5 pc (j k)) : rx_OK (zV b e D A X) mX13_selected 5 55 (vX13_selected_55 j) := by
  unfold vX13_selected_55
  refine s_aload_n hZ.1 dX13_selected_55 rfl ?_
  refine s_iload hZ.1 dX13_selected_56 ?_
  refine s_iload_n hZ.1 dX13_selected_58 rfl ?_
  refine s_callV hZ.1 (Met_X13_ownMethod hZ) (Nat.le_of_ble_eq_true rfl) vy_X13_ownMethod zcl13 zw3319 zw256 (Or.inl zw3317) dX13_selected_59 ?_
  refine s_istore hZ.1 dX13_selected_62 (Nat.le_of_ble_eq_true rfl) ?_
  refine s_iload hZ.1 dX13_selected_64 ?_
  refine s_bipush dX13_selected_66 (by decide +kernel) ?_
  exact s_icmp_eq dX13_selected_68 (by decide) (wX13_selected_118 hZ j hj) (wX13_selected_71 hZ j hj)
noncomputable def vX13_selected_48 (j : Nat → rx_K) : rx_K := o_ld rx_isI 5 (o_const 640 (o_c2 rx_lt (vX13_selected_55 j) (vX13_selected_132 j)))
set_option maxRecDepth 20000 in
theorem wX13_selected_48 (hZ : zO b e D A X) (j : Nat → rx_K) (hj : ∀ k pc, [41][k]? = some pc → rx_OK (zV b e D A X) mX13_selected 5 pc (j k)) : rx_OK (zV b e D A X) mX13_selected 5 48 (vX13_selected_48 j) := by
  unfold vX13_selected_48
  refine s_iload hZ.1 dX13_selected_48 ?_
  refine s_bipush dX13_selected_50 (by decide +kernel) ?_
  exact s_icmp_ge dX13_selected_52 (by decide) (wX13_selected_132 hZ j hj) (wX13_selected_55 hZ j hj)
noncomputable def vX13_selected_41 (j : Nat → rx_K) : rx_K := o_ld rx_isI 4 (o_const 34359738352 (o_c2 rx_eq (vX13_selected_132 j) (vX13_selected_48 j)))
set_option maxRecDepth 20000 in
theorem wX13_selected_41 (hZ : zO b e D A X) (j : Nat → rx_K) (hj : ∀ k pc, [41][k]? = some pc → rx_OK (zV b e D A X) mX13_selected 5 pc (j k)) : rx_OK (zV b e D A X) mX13_selected 5 41 (vX13_selected_41 j) := by
  unfold vX13_selected_41
  refine s_iload hZ.1 dX13_selected_41 ?_
  refine s_bipush dX13_selected_43 (by decide +kernel) ?_
  exact s_icmp_eq dX13_selected_45 (by decide) (wX13_selected_132 hZ j hj) (wX13_selected_48 hZ j hj)
noncomputable def vX13_selected_25 (j : Nat → rx_K) : rx_K := o_ld rx_isR 0 (o_ld rx_isR 0 (o_ld rx_isI 1 (o_callV 1 13 FX13_classOfMember (o_callV 1 13 FX13_isFace (o_st rx_isI 3 (o_ld rx_isI 2 (o_st rx_isI 4 (o_const 0 (o_st rx_isI 5 ((vX13_selected_41 j)))))))))))
set_option maxRecDepth 20000 in
theorem wX13_selected_25 (hZ : zO b e D A X) (j : Nat → rx_K) (hj : ∀ k pc, [41][k]? = some pc → rx_OK (zV b e D A X) mX13_selected 5 pc (j k)) : rx_OK (zV b e D A X) mX13_selected 5 25 (vX13_selected_25 j) := by
  unfold vX13_selected_25
  refine s_aload_n hZ.1 dX13_selected_25 rfl ?_
  refine s_aload_n hZ.1 dX13_selected_26 rfl ?_
  refine s_iload_n hZ.1 dX13_selected_27 rfl ?_
  refine s_callV hZ.1 (Met_X13_classOfMember hZ) (Nat.le_of_ble_eq_true rfl) vy_X13_classOfMember zcl13 zw3255 zw241 (Or.inl zw3253) dX13_selected_28 ?_
  refine s_callV hZ.1 (Met_X13_isFace hZ) (Nat.le_of_ble_eq_true rfl) vy_X13_isFace zcl13 zw3192 zw227 (Or.inl zw3190) dX13_selected_31 ?_
  refine s_istore_n hZ.1 dX13_selected_34 rfl (Nat.le_of_ble_eq_true rfl) ?_
  refine s_iload_n hZ.1 dX13_selected_35 rfl ?_
  refine s_istore hZ.1 dX13_selected_36 (Nat.le_of_ble_eq_true rfl) ?_
  refine s_iconst dX13_selected_38 (by decide +kernel) ?_
  refine s_istore hZ.1 dX13_selected_39 (Nat.le_of_ble_eq_true rfl) ?_
  exact (wX13_selected_41 hZ j hj)
noncomputable def vX13_selected_24 (j : Nat → rx_K) : rx_K := o_ret1 rx_isI
set_option maxRecDepth 20000 in
theorem wX13_selected_24 (hZ : zO b e D A X) (j : Nat → rx_K) (hj : ∀ k pc, [41][k]? = some pc → rx_OK (zV b e D A X) mX13_selected 5 pc (j k)) : rx_OK (zV b e D A X) mX13_selected 5 24 (vX13_selected_24 j) := by
  unfold vX13_selected_24
  exact s_iret hZ.1 rfl dX13_selected_24
noncomputable def vX13_selected_23 (j : Nat → rx_K) : rx_K := o_ld rx_isI 1 ((vX13_selected_24 j))
set_option maxRecDepth 20000 in
theorem wX13_selected_23 (hZ : zO b e D A X) (j : Nat → rx_K) (hj : ∀ k pc, [41][k]? = some pc → rx_OK (zV b e D A X) mX13_selected 5 pc (j k)) : rx_OK (zV b e D A X) mX13_selected 5 23 (vX13_selected_23 j) := by
  unfold vX13_selected_23
  refine s_iload_n hZ.1 dX13_selected_23 rfl ?_
  exact (wX13_selected_24 hZ j hj)
noncomputable def vX13_selected_18 (j : Nat → rx_K) : rx_K := o_const 34359738320 ((vX13_selected_24 j))
set_option maxRecDepth 20000 in
theorem wX13_selected_18 (hZ : zO b e D A X) (j : Nat → rx_K) (hj : ∀ k pc, [41][k]? = some pc → rx_OK (zV b e D A X) mX13_selected 5 pc (j k)) : rx_OK (zV b e D A X) mX13_selected 5 18 (vX13_selected_18 j) := by
  unfold vX13_selected_18
  refine s_bipush dX13_selected_18 (by decide +kernel) ?_
  exact s_goto dX13_selected_20 (by decide) (wX13_selected_24 hZ j hj)
noncomputable def vX13_selected_9 (j : Nat → rx_K) : rx_K := o_ld rx_isR 0 (o_getf 13 47 (o_ld rx_isI 1 (o_ald 3 (o_c1 rx_eq (vX13_selected_23 j) (vX13_selected_18 j)))))
set_option maxRecDepth 20000 in
theorem wX13_selected_9 (hZ : zO b e D A X) (j : Nat → rx_K) (hj : ∀ k pc, [41][k]? = some pc → rx_OK (zV b e D A X) mX13_selected 5 pc (j k)) : rx_OK (zV b e D A X) mX13_selected 5 9 (vX13_selected_9 j) := by
  unfold vX13_selected_9
  refine s_aload_n hZ.1 dX13_selected_9 rfl ?_
  refine yg13_47 dX13_selected_10 zw4168 ?_
  refine s_iload_n hZ.1 dX13_selected_13 rfl ?_
  refine s_zald (tt := 3) rfl dX13_selected_14 ?_
  exact s_if_eq dX13_selected_15 (by decide) (wX13_selected_23 hZ j hj) (wX13_selected_18 hZ j hj)
noncomputable def vX13_selected_0 (j : Nat → rx_K) : rx_K := o_ld rx_isR 0 (o_getf 13 44 (o_ld rx_isI 1 (o_ald 0 (o_c1 rx_eq (vX13_selected_9 j) (vX13_selected_25 j)))))
set_option maxRecDepth 20000 in
theorem wX13_selected_0 (hZ : zO b e D A X) (j : Nat → rx_K) (hj : ∀ k pc, [41][k]? = some pc → rx_OK (zV b e D A X) mX13_selected 5 pc (j k)) : rx_OK (zV b e D A X) mX13_selected 5 0 (vX13_selected_0 j) := by
  unfold vX13_selected_0
  refine s_aload_n hZ.1 dX13_selected_0 rfl ?_
  refine yg13_44 dX13_selected_1 zw4165 ?_
  refine s_iload_n hZ.1 dX13_selected_4 rfl ?_
  refine s_iald (tt := 0) rfl dX13_selected_5 ?_
  exact s_if_ne dX13_selected_6 (by decide) (wX13_selected_25 hZ j hj) (wX13_selected_9 hZ j hj)
noncomputable def vhX13_selected (j : Nat → rx_K) : List rx_K := [vX13_selected_41 j]
theorem vlX13_selected (hZ : zO b e D A X) : ∀ n k pc, [41][k]? = some pc → rx_OK (zV b e D A X) mX13_selected 5 pc (rx_J (vhX13_selected) n k) := rx_loop fun j hj k pc h => by
  match k, h with
  | 0, h =>
    have e9 := Option.some.inj (show some 41 = some pc from h)
    subst e9
    exact wX13_selected_41 hZ j hj
  | _ + 1, h => exact absurd h (by simp)
noncomputable def FX13_selected : List Nat → rx_H → Option (Nat × rx_H) := rx_ent 7 (vX13_selected_0 (rx_J (vhX13_selected) 4000000000))
theorem Met_X13_selected (hZ : zO b e D A X) : rx_Met (zV b e D A X) 5 yX13_selected mX13_selected (FX13_selected) := rx_entry hZ.1 (wX13_selected_0 hZ _ (vlX13_selected hZ 4000000000)) (by decide +kernel) rfl (fun h => by cases h)
end ZM47

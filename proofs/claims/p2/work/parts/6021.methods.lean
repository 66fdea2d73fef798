section ZM21
variable {b : Nat} {e : Nat → Value} {D : va_G} {A : Nat → ClassId} {X : State → Prop}
abbrev mX6_useOne : rx_M := (RX6, cX6_useOne, 7, (some .boolean), false)
theorem vy_X6_useOne : rx_Y (zV b e D A X) yX6_useOne mX6_useOne 3 := ⟨zw2844, zw430, by decide, by decide +kernel, by decide +kernel, by decide +kernel⟩
noncomputable def vX6_useOne_201 : rx_K := o_bi (fun x y => x + y) (o_const 8 (o_callV 4 6 FX6_call (o_const 0 (o_ret1 rx_isZ))))
set_option maxRecDepth 20000 in
theorem wX6_useOne_201 (hZ : zO b e D A X) : rx_OK (zV b e D A X) mX6_useOne 4 201 vX6_useOne_201 := by
  unfold vX6_useOne_201
  refine s_iadd dX6_useOne_201 ?_
  refine s_iconst dX6_useOne_202 (by decide +kernel) ?_
  refine s_callV hZ.1 (Met_X6_call hZ) (Nat.le_of_ble_eq_true rfl) vy_X6_call zcl6 zw2859 zw2860 (Or.inl zw2858) dX6_useOne_203 ?_
  refine s_iconst dX6_useOne_206 (by decide +kernel) ?_
  exact s_zret rx_z_ok rfl dX6_useOne_207
noncomputable def vX6_useOne_200 : rx_K := o_const 8 (vX6_useOne_201)
set_option maxRecDepth 20000 in
theorem wX6_useOne_200 (hZ : zO b e D A X) : rx_OK (zV b e D A X) mX6_useOne 4 200 vX6_useOne_200 := by
  unfold vX6_useOne_200
  refine s_iconst dX6_useOne_200 (by decide +kernel) ?_
  exact (wX6_useOne_201 hZ)
noncomputable def vX6_useOne_196 : rx_K := o_const 0 (vX6_useOne_201)
set_option maxRecDepth 20000 in
theorem wX6_useOne_196 (hZ : zO b e D A X) : rx_OK (zV b e D A X) mX6_useOne 4 196 vX6_useOne_196 := by
  unfold vX6_useOne_196
  refine s_iconst dX6_useOne_196 (by decide +kernel) ?_
  exact s_goto dX6_useOne_197 (by decide) (wX6_useOne_201 hZ)
noncomputable def vX6_useOne_171 : rx_K := o_ld rx_isR 1 (o_const 8 (o_dup2 (o_ald 0 (o_const 16 (o_bi (fun x y => x + y) (o_ast 0 (fun v => v) rx_isI (o_ld rx_isR 0 (o_ld rx_isI 5 (o_ld rx_isR 6 (o_ld rx_isR 6 (o_getf 7 9 (o_ld rx_isR 6 (o_getf 7 2 (o_c1 rx_eq vX6_useOne_200 vX6_useOne_196))))))))))))))
set_option maxRecDepth 20000 in
theorem wX6_useOne_171 (hZ : zO b e D A X) : rx_OK (zV b e D A X) mX6_useOne 4 171 vX6_useOne_171 := by
  unfold vX6_useOne_171
  refine s_aload_n hZ.1 dX6_useOne_171 rfl ?_
  refine s_iconst dX6_useOne_172 (by decide +kernel) ?_
  refine s_dup2 hZ.1 dX6_useOne_173 ?_
  refine s_iald (tt := 0) rfl dX6_useOne_174 ?_
  refine s_iconst dX6_useOne_175 (by decide +kernel) ?_
  refine s_iadd dX6_useOne_176 ?_
  refine s_iast hZ.1 (tt := 0) rfl dX6_useOne_177 ?_
  refine s_aload_n hZ.1 dX6_useOne_178 rfl ?_
  refine s_iload hZ.1 dX6_useOne_179 ?_
  refine s_aload hZ.1 dX6_useOne_181 ?_
  refine s_aload hZ.1 dX6_useOne_183 ?_
  refine yg7_9 dX6_useOne_185 zw1026 ?_
  refine s_aload hZ.1 dX6_useOne_188 ?_
  refine yg7_2 dX6_useOne_190 zw965 ?_
  exact s_if_eq dX6_useOne_193 (by decide) (wX6_useOne_200 hZ) (wX6_useOne_196 hZ)
noncomputable def vX6_useOne_157 : rx_K := o_ld rx_isR 0 (o_ld rx_isR 1 (o_ld rx_isI 3 (o_ld rx_isI 4 (o_ld rx_isI 5 (o_ld rx_isR 6 (o_callV 5 6 FX6_selectOne (o_const 0 (o_ret1 rx_isZ))))))))
set_option maxRecDepth 20000 in
theorem wX6_useOne_157 (hZ : zO b e D A X) : rx_OK (zV b e D A X) mX6_useOne 4 157 vX6_useOne_157 := by
  unfold vX6_useOne_157
  refine s_aload_n hZ.1 dX6_useOne_157 rfl ?_
  refine s_aload_n hZ.1 dX6_useOne_158 rfl ?_
  refine s_iload_n hZ.1 dX6_useOne_159 rfl ?_
  refine s_iload hZ.1 dX6_useOne_160 ?_
  refine s_iload hZ.1 dX6_useOne_162 ?_
  refine s_aload hZ.1 dX6_useOne_164 ?_
  refine s_callV hZ.1 (Met_X6_selectOne hZ) (Nat.le_of_ble_eq_true rfl) vy_X6_selectOne zcl6 zw2864 zw174 (Or.inl zw2862) dX6_useOne_166 ?_
  refine s_iconst dX6_useOne_169 (by decide +kernel) ?_
  exact s_zret rx_z_ok rfl dX6_useOne_170
noncomputable def vX6_useOne_151 : rx_K := o_ld rx_isI 3 (o_const 64 (o_c2 rx_eq vX6_useOne_157 vX6_useOne_171))
set_option maxRecDepth 20000 in
theorem wX6_useOne_151 (hZ : zO b e D A X) : rx_OK (zV b e D A X) mX6_useOne 4 151 vX6_useOne_151 := by
  unfold vX6_useOne_151
  refine s_iload_n hZ.1 dX6_useOne_151 rfl ?_
  refine s_bipush dX6_useOne_152 (by decide +kernel) ?_
  exact s_icmp_ne dX6_useOne_154 (by decide) (wX6_useOne_171 hZ) (wX6_useOne_157 hZ)
noncomputable def vX6_useOne_145 : rx_K := o_ld rx_isI 3 (o_const 56 (o_c2 rx_eq vX6_useOne_157 vX6_useOne_151))
set_option maxRecDepth 20000 in
theorem wX6_useOne_145 (hZ : zO b e D A X) : rx_OK (zV b e D A X) mX6_useOne 4 145 vX6_useOne_145 := by
  unfold vX6_useOne_145
  refine s_iload_n hZ.1 dX6_useOne_145 rfl ?_
  refine s_bipush dX6_useOne_146 (by decide +kernel) ?_
  exact s_icmp_eq dX6_useOne_148 (by decide) (wX6_useOne_157 hZ) (wX6_useOne_151 hZ)
noncomputable def vX6_useOne_135 : rx_K := o_ld rx_isR 0 (o_ld rx_isR 1 (o_ld rx_isI 5 (o_ld rx_isR 6 (o_callV 3 6 FX6_makerOne (o_ret1 rx_isZ)))))
set_option maxRecDepth 20000 in
theorem wX6_useOne_135 (hZ : zO b e D A X) : rx_OK (zV b e D A X) mX6_useOne 4 135 vX6_useOne_135 := by
  unfold vX6_useOne_135
  refine s_aload_n hZ.1 dX6_useOne_135 rfl ?_
  refine s_aload_n hZ.1 dX6_useOne_136 rfl ?_
  refine s_iload hZ.1 dX6_useOne_137 ?_
  refine s_aload hZ.1 dX6_useOne_139 ?_
  refine s_callV hZ.1 (Met_X6_makerOne hZ) (Nat.le_of_ble_eq_true rfl) vy_X6_makerOne zcl6 zw2856 zw173 (Or.inl zw2854) dX6_useOne_141 ?_
  exact s_zret rx_z_ok rfl dX6_useOne_144
noncomputable def vX6_useOne_129 : rx_K := o_ld rx_isI 2 (o_const 288 (o_c2 rx_eq vX6_useOne_135 vX6_useOne_145))
set_option maxRecDepth 20000 in
theorem wX6_useOne_129 (hZ : zO b e D A X) : rx_OK (zV b e D A X) mX6_useOne 4 129 vX6_useOne_129 := by
  unfold vX6_useOne_129
  refine s_iload_n hZ.1 dX6_useOne_129 rfl ?_
  refine s_bipush dX6_useOne_130 (by decide +kernel) ?_
  exact s_icmp_ne dX6_useOne_132 (by decide) (wX6_useOne_145 hZ) (wX6_useOne_135 hZ)
noncomputable def vX6_useOne_118 : rx_K := o_ld rx_isI 5 (o_ld rx_isR 6 (o_getf 7 17 (o_callV 3 6 FX6_staticOne (o_ret1 rx_isZ))))
set_option maxRecDepth 20000 in
theorem wX6_useOne_118 (hZ : zO b e D A X) : rx_OK (zV b e D A X) mX6_useOne 4 118 vX6_useOne_118 := by
  unfold vX6_useOne_118
  refine s_iload hZ.1 dX6_useOne_118 ?_
  refine s_aload hZ.1 dX6_useOne_120 ?_
  refine yg7_17 dX6_useOne_122 zw1067 ?_
  refine s_callV hZ.1 (Met_X6_staticOne hZ) (Nat.le_of_ble_eq_true rfl) vy_X6_staticOne zcl6 zw2826 zw168 (Or.inl zw2824) dX6_useOne_125 ?_
  exact s_zret rx_z_ok rfl dX6_useOne_128
noncomputable def vX6_useOne_117 : rx_K := o_const 0 (vX6_useOne_118)
set_option maxRecDepth 20000 in
theorem wX6_useOne_117 (hZ : zO b e D A X) : rx_OK (zV b e D A X) mX6_useOne 4 117 vX6_useOne_117 := by
  unfold vX6_useOne_117
  refine s_iconst dX6_useOne_117 (by decide +kernel) ?_
  exact (wX6_useOne_118 hZ)
noncomputable def vX6_useOne_113 : rx_K := o_const 8 (vX6_useOne_118)
set_option maxRecDepth 20000 in
theorem wX6_useOne_113 (hZ : zO b e D A X) : rx_OK (zV b e D A X) mX6_useOne 4 113 vX6_useOne_113 := by
  unfold vX6_useOne_113
  refine s_iconst dX6_useOne_113 (by decide +kernel) ?_
  exact s_goto dX6_useOne_114 (by decide) (wX6_useOne_118 hZ)
noncomputable def vX6_useOne_106 : rx_K := o_ld rx_isR 0 (o_ld rx_isI 2 (o_const 264 (o_c2 rx_eq vX6_useOne_113 vX6_useOne_117)))
set_option maxRecDepth 20000 in
theorem wX6_useOne_106 (hZ : zO b e D A X) : rx_OK (zV b e D A X) mX6_useOne 4 106 vX6_useOne_106 := by
  unfold vX6_useOne_106
  refine s_aload_n hZ.1 dX6_useOne_106 rfl ?_
  refine s_iload_n hZ.1 dX6_useOne_107 rfl ?_
  refine s_bipush dX6_useOne_108 (by decide +kernel) ?_
  exact s_icmp_ne dX6_useOne_110 (by decide) (wX6_useOne_117 hZ) (wX6_useOne_113 hZ)
noncomputable def vX6_useOne_100 : rx_K := o_ld rx_isI 2 (o_const 264 (o_c2 (fun h x y => rx_lt h y x) vX6_useOne_129 vX6_useOne_106))
set_option maxRecDepth 20000 in
theorem wX6_useOne_100 (hZ : zO b e D A X) : rx_OK (zV b e D A X) mX6_useOne 4 100 vX6_useOne_100 := by
  unfold vX6_useOne_100
  refine s_iload_n hZ.1 dX6_useOne_100 rfl ?_
  refine s_bipush dX6_useOne_101 (by decide +kernel) ?_
  exact s_icmp_gt dX6_useOne_103 (by decide) (wX6_useOne_129 hZ) (wX6_useOne_106 hZ)
noncomputable def vX6_useOne_89 : rx_K := o_ld rx_isI 5 (o_ld rx_isR 6 (o_getf 7 17 (o_callV 3 6 FX6_fieldOne (o_ret1 rx_isZ))))
set_option maxRecDepth 20000 in
theorem wX6_useOne_89 (hZ : zO b e D A X) : rx_OK (zV b e D A X) mX6_useOne 4 89 vX6_useOne_89 := by
  unfold vX6_useOne_89
  refine s_iload hZ.1 dX6_useOne_89 ?_
  refine s_aload hZ.1 dX6_useOne_91 ?_
  refine yg7_17 dX6_useOne_93 zw1067 ?_
  refine s_callV hZ.1 (Met_X6_fieldOne hZ) (Nat.le_of_ble_eq_true rfl) vy_X6_fieldOne zcl6 zw2818 zw167 (Or.inl zw2816) dX6_useOne_96 ?_
  exact s_zret rx_z_ok rfl dX6_useOne_99
noncomputable def vX6_useOne_88 : rx_K := o_const 0 (vX6_useOne_89)
set_option maxRecDepth 20000 in
theorem wX6_useOne_88 (hZ : zO b e D A X) : rx_OK (zV b e D A X) mX6_useOne 4 88 vX6_useOne_88 := by
  unfold vX6_useOne_88
  refine s_iconst dX6_useOne_88 (by decide +kernel) ?_
  exact (wX6_useOne_89 hZ)
noncomputable def vX6_useOne_84 : rx_K := o_const 8 (vX6_useOne_89)
set_option maxRecDepth 20000 in
theorem wX6_useOne_84 (hZ : zO b e D A X) : rx_OK (zV b e D A X) mX6_useOne 4 84 vX6_useOne_84 := by
  unfold vX6_useOne_84
  refine s_iconst dX6_useOne_84 (by decide +kernel) ?_
  exact s_goto dX6_useOne_85 (by decide) (wX6_useOne_89 hZ)
noncomputable def vX6_useOne_77 : rx_K := o_ld rx_isR 0 (o_ld rx_isI 2 (o_const 248 (o_c2 rx_eq vX6_useOne_84 vX6_useOne_88)))
set_option maxRecDepth 20000 in
theorem wX6_useOne_77 (hZ : zO b e D A X) : rx_OK (zV b e D A X) mX6_useOne 4 77 vX6_useOne_77 := by
  unfold vX6_useOne_77
  refine s_aload_n hZ.1 dX6_useOne_77 rfl ?_
  refine s_iload_n hZ.1 dX6_useOne_78 rfl ?_
  refine s_bipush dX6_useOne_79 (by decide +kernel) ?_
  exact s_icmp_ne dX6_useOne_81 (by decide) (wX6_useOne_88 hZ) (wX6_useOne_84 hZ)
noncomputable def vX6_useOne_71 : rx_K := o_ld rx_isI 2 (o_const 248 (o_c2 (fun h x y => rx_lt h y x) vX6_useOne_100 vX6_useOne_77))
set_option maxRecDepth 20000 in
theorem wX6_useOne_71 (hZ : zO b e D A X) : rx_OK (zV b e D A X) mX6_useOne 4 71 vX6_useOne_71 := by
  unfold vX6_useOne_71
  refine s_iload_n hZ.1 dX6_useOne_71 rfl ?_
  refine s_bipush dX6_useOne_72 (by decide +kernel) ?_
  exact s_icmp_gt dX6_useOne_74 (by decide) (wX6_useOne_100 hZ) (wX6_useOne_77 hZ)
noncomputable def vX6_useOne_64 : rx_K := o_ld rx_isR 0 (o_const 40 (o_callV 1 6 FX6_fail (o_const 0 (o_ret1 rx_isZ))))
set_option maxRecDepth 20000 in
theorem wX6_useOne_64 (hZ : zO b e D A X) : rx_OK (zV b e D A X) mX6_useOne 4 64 vX6_useOne_64 := by
  unfold vX6_useOne_64
  refine s_aload_n hZ.1 dX6_useOne_64 rfl ?_
  refine s_iconst dX6_useOne_65 (by decide +kernel) ?_
  refine s_callV hZ.1 (Met_X6_fail hZ) (Nat.le_of_ble_eq_true rfl) vy_X6_fail zcl6 zw2749 zw2750 (Or.inl zw2748) dX6_useOne_66 ?_
  refine s_iconst dX6_useOne_69 (by decide +kernel) ?_
  exact s_zret rx_z_ok rfl dX6_useOne_70
noncomputable def vX6_useOne_59 : rx_K := o_ld rx_isI 5 (o_c1 rx_lt vX6_useOne_64 vX6_useOne_71)
set_option maxRecDepth 20000 in
theorem wX6_useOne_59 (hZ : zO b e D A X) : rx_OK (zV b e D A X) mX6_useOne 4 59 vX6_useOne_59 := by
  unfold vX6_useOne_59
  refine s_iload hZ.1 dX6_useOne_59 ?_
  exact s_if_ge dX6_useOne_61 (by decide) (wX6_useOne_71 hZ) (wX6_useOne_64 hZ)
noncomputable def vX6_useOne_54 : rx_K := o_ld rx_isR 6 (o_nul vX6_useOne_64 vX6_useOne_59)
set_option maxRecDepth 20000 in
theorem wX6_useOne_54 (hZ : zO b e D A X) : rx_OK (zV b e D A X) mX6_useOne 4 54 vX6_useOne_54 := by
  unfold vX6_useOne_54
  refine s_aload hZ.1 dX6_useOne_54 ?_
  exact s_ifnull dX6_useOne_56 (by decide) (wX6_useOne_64 hZ) (wX6_useOne_59 hZ)
noncomputable def vX6_useOne_46 : rx_K := o_ld rx_isR 0 (o_ld rx_isI 2 (o_ld rx_isI 4 (o_callV 2 6 FX6_isOne (o_ret1 rx_isZ))))
set_option maxRecDepth 20000 in
theorem wX6_useOne_46 (hZ : zO b e D A X) : rx_OK (zV b e D A X) mX6_useOne 4 46 vX6_useOne_46 := by
  unfold vX6_useOne_46
  refine s_aload_n hZ.1 dX6_useOne_46 rfl ?_
  refine s_iload_n hZ.1 dX6_useOne_47 rfl ?_
  refine s_iload hZ.1 dX6_useOne_48 ?_
  refine s_callV hZ.1 (Met_X6_isOne hZ) (Nat.le_of_ble_eq_true rfl) vy_X6_isOne zcl6 zw2851 zw172 (Or.inl zw2849) dX6_useOne_50 ?_
  exact s_zret rx_z_ok rfl dX6_useOne_53
noncomputable def vX6_useOne_40 : rx_K := o_ld rx_isI 2 (o_const 296 (o_c2 rx_lt vX6_useOne_54 vX6_useOne_46))
set_option maxRecDepth 20000 in
theorem wX6_useOne_40 (hZ : zO b e D A X) : rx_OK (zV b e D A X) mX6_useOne 4 40 vX6_useOne_40 := by
  unfold vX6_useOne_40
  refine s_iload_n hZ.1 dX6_useOne_40 rfl ?_
  refine s_bipush dX6_useOne_41 (by decide +kernel) ?_
  exact s_icmp_lt dX6_useOne_43 (by decide) (wX6_useOne_54 hZ) (wX6_useOne_46 hZ)
noncomputable def vX6_useOne_33 : rx_K := o_ld rx_isR 0 (o_ld rx_isI 4 (o_callV 1 6 FX6_newOne (o_ret1 rx_isZ)))
set_option maxRecDepth 20000 in
theorem wX6_useOne_33 (hZ : zO b e D A X) : rx_OK (zV b e D A X) mX6_useOne 4 33 vX6_useOne_33 := by
  unfold vX6_useOne_33
  refine s_aload_n hZ.1 dX6_useOne_33 rfl ?_
  refine s_iload hZ.1 dX6_useOne_34 ?_
  refine s_callV hZ.1 (Met_X6_newOne hZ) (Nat.le_of_ble_eq_true rfl) vy_X6_newOne zcl6 zw2847 zw171 (Or.inl zw2845) dX6_useOne_36 ?_
  exact s_zret rx_z_ok rfl dX6_useOne_39
noncomputable def vX6_useOne_0 : rx_K := o_ld rx_isR 0 (o_getf 6 1 (o_getf 5 14 (o_st rx_isI 4 (o_ld rx_isR 0 (o_getf 6 1 (o_getf 5 12 (o_st rx_isI 5 (o_ld rx_isR 0 (o_getf 6 1 (o_getf 5 11 (o_st rx_isR 6 (o_ld rx_isI 2 (o_const 280 (o_c2 rx_eq vX6_useOne_33 vX6_useOne_40))))))))))))))
set_option maxRecDepth 20000 in
theorem wX6_useOne_0 (hZ : zO b e D A X) : rx_OK (zV b e D A X) mX6_useOne 4 0 vX6_useOne_0 := by
  unfold vX6_useOne_0
  refine s_aload_n hZ.1 dX6_useOne_0 rfl ?_
  refine yg6_1 dX6_useOne_1 zw1474 ?_
  refine yg5_14 dX6_useOne_4 zw1374 ?_
  refine s_istore hZ.1 dX6_useOne_7 (Nat.le_of_ble_eq_true rfl) ?_
  refine s_aload_n hZ.1 dX6_useOne_9 rfl ?_
  refine yg6_1 dX6_useOne_10 zw1474 ?_
  refine yg5_12 dX6_useOne_13 zw1370 ?_
  refine s_istore hZ.1 dX6_useOne_16 (Nat.le_of_ble_eq_true rfl) ?_
  refine s_aload_n hZ.1 dX6_useOne_18 rfl ?_
  refine yg6_1 dX6_useOne_19 zw1474 ?_
  refine yg5_11 dX6_useOne_22 zw1367 ?_
  refine s_astore hZ.1 dX6_useOne_25 (Nat.le_of_ble_eq_true rfl) ?_
  refine s_iload_n hZ.1 dX6_useOne_27 rfl ?_
  refine s_bipush dX6_useOne_28 (by decide +kernel) ?_
  exact s_icmp_ne dX6_useOne_30 (by decide) (wX6_useOne_40 hZ) (wX6_useOne_33 hZ)
noncomputable def FX6_useOne : List Nat → rx_H → Option (Nat × rx_H) := rx_ent 7 vX6_useOne_0
theorem Met_X6_useOne (hZ : zO b e D A X) : rx_Met (zV b e D A X) 4 yX6_useOne mX6_useOne (FX6_useOne) := rx_entry hZ.1 (wX6_useOne_0 hZ) (by decide +kernel) rfl (fun h => by cases h)
abbrev mX6_turn : rx_M := (RX6, cX6_turn, 10, none, false)
theorem vy_X6_turn : rx_Y (zV b e D A X) yX6_turn mX6_turn 0 := ⟨zw2770, zw430, by decide, by decide +kernel, by decide +kernel, by decide +kernel⟩
noncomputable def vX6_turn_350 : rx_K := o_ret0
set_option maxRecDepth 20000 in
theorem wX6_turn_350 (hZ : zO b e D A X) : rx_OK (zV b e D A X) mX6_turn 6 350 vX6_turn_350 := by
  unfold vX6_turn_350
  exact s_vret rfl dX6_turn_350
noncomputable def vX6_turn_343 : rx_K := o_ld rx_isR 1 (o_const 8 (o_ld rx_isI 4 (o_const 16 (o_bi (fun x y => x + y) (o_ast 0 (fun v => v) rx_isI (vX6_turn_350))))))
set_option maxRecDepth 20000 in
theorem wX6_turn_343 (hZ : zO b e D A X) : rx_OK (zV b e D A X) mX6_turn 6 343 vX6_turn_343 := by
  unfold vX6_turn_343
  refine s_aload_n hZ.1 dX6_turn_343 rfl ?_
  refine s_iconst dX6_turn_344 (by decide +kernel) ?_
  refine s_iload hZ.1 dX6_turn_345 ?_
  refine s_iconst dX6_turn_347 (by decide +kernel) ?_
  refine s_iadd dX6_turn_348 ?_
  refine s_iast hZ.1 (tt := 0) rfl dX6_turn_349 ?_
  exact (wX6_turn_350 hZ)
noncomputable def vX6_turn_338 : rx_K := o_ld rx_isI 7 (o_c1 rx_eq vX6_turn_350 vX6_turn_343)
set_option maxRecDepth 20000 in
theorem wX6_turn_338 (hZ : zO b e D A X) : rx_OK (zV b e D A X) mX6_turn 6 338 vX6_turn_338 := by
  unfold vX6_turn_338
  refine s_iload hZ.1 dX6_turn_338 ?_
  exact s_if_eq dX6_turn_340 (by decide) (wX6_turn_350 hZ) (wX6_turn_343 hZ)
noncomputable def vX6_turn_309 : rx_K := o_ld rx_isR 0 (o_ld rx_isR 1 (o_ld rx_isI 5 (o_ld rx_isR 3 (o_getf 1 10 (o_ld rx_isR 0 (o_getf 6 0 (o_getf 11 1 (o_ld rx_isI 2 (o_ald 4 (o_getf 10 16 (o_ld rx_isI 6 (o_bi (fun x y => x + y) (o_ald 0 (o_callV 3 6 FX6_useOne (o_st rx_isI 7 (vX6_turn_338))))))))))))))))
set_option maxRecDepth 20000 in
theorem wX6_turn_309 (hZ : zO b e D A X) : rx_OK (zV b e D A X) mX6_turn 6 309 vX6_turn_309 := by
  unfold vX6_turn_309
  refine s_aload_n hZ.1 dX6_turn_309 rfl ?_
  refine s_aload_n hZ.1 dX6_turn_310 rfl ?_
  refine s_iload hZ.1 dX6_turn_311 ?_
  refine s_aload_n hZ.1 dX6_turn_313 rfl ?_
  refine yg1_10 dX6_turn_314 zw1147 ?_
  refine s_aload_n hZ.1 dX6_turn_317 rfl ?_
  refine yg6_0 dX6_turn_318 zw1473 ?_
  refine yg11_1 dX6_turn_321 zw1255 ?_
  refine s_iload_n hZ.1 dX6_turn_324 rfl ?_
  refine s_aald (tt := 4) rfl rfl dX6_turn_325 ?_
  refine yg10_16 dX6_turn_326 zw877 ?_
  refine s_iload hZ.1 dX6_turn_329 ?_
  refine s_iadd dX6_turn_331 ?_
  refine s_iald (tt := 0) rfl dX6_turn_332 ?_
  refine s_callV hZ.1 (Met_X6_useOne hZ) (Nat.le_of_ble_eq_true rfl) vy_X6_useOne zcl6 zw2843 zw170 (Or.inl zw2841) dX6_turn_333 ?_
  refine s_istore hZ.1 dX6_turn_336 (Nat.le_of_ble_eq_true rfl) ?_
  exact (wX6_turn_338 hZ)
noncomputable def vX6_turn_308 : rx_K := o_ret0
set_option maxRecDepth 20000 in
theorem wX6_turn_308 (hZ : zO b e D A X) : rx_OK (zV b e D A X) mX6_turn 6 308 vX6_turn_308 := by
  unfold vX6_turn_308
  exact s_vret rfl dX6_turn_308
noncomputable def vX6_turn_299 : rx_K := o_ld rx_isR 0 (o_ld rx_isI 9 (o_callV 1 6 FX6_ready (o_c1 rx_eq vX6_turn_308 vX6_turn_309)))
set_option maxRecDepth 20000 in
theorem wX6_turn_299 (hZ : zO b e D A X) : rx_OK (zV b e D A X) mX6_turn 6 299 vX6_turn_299 := by
  unfold vX6_turn_299
  refine s_aload_n hZ.1 dX6_turn_299 rfl ?_
  refine s_iload hZ.1 dX6_turn_300 ?_
  refine s_callV hZ.1 (Met_X6_ready hZ) (Nat.le_of_ble_eq_true rfl) vy_X6_ready zcl6 zw2746 zw155 (Or.inl zw2744) dX6_turn_302 ?_
  exact s_if_ne dX6_turn_305 (by decide) (wX6_turn_309 hZ) (wX6_turn_308 hZ)
noncomputable def vX6_turn_284 : rx_K := o_ld rx_isR 0 (o_getf 6 1 (o_ld rx_isI 2 (o_ld rx_isI 6 (o_callV 2 5 FX5_keep (o_ld rx_isI 9 (o_c1 rx_lt vX6_turn_309 vX6_turn_299))))))
set_option maxRecDepth 20000 in
theorem wX6_turn_284 (hZ : zO b e D A X) : rx_OK (zV b e D A X) mX6_turn 6 284 vX6_turn_284 := by
  unfold vX6_turn_284
  refine s_aload_n hZ.1 dX6_turn_284 rfl ?_
  refine yg6_1 dX6_turn_285 zw1474 ?_
  refine s_iload_n hZ.1 dX6_turn_288 rfl ?_
  refine s_iload hZ.1 dX6_turn_289 ?_
  refine s_callV hZ.1 (Met_X5_keep hZ) (Nat.le_of_ble_eq_true rfl) vy_X5_keep zcl5 zw2838 zw2839 (Or.inl zw2837) dX6_turn_291 ?_
  refine s_iload hZ.1 dX6_turn_294 ?_
  exact s_if_lt dX6_turn_296 (by decide) (wX6_turn_309 hZ) (wX6_turn_299 hZ)
noncomputable def vX6_turn_277 : rx_K := o_ld rx_isR 0 (o_ld rx_isI 8 (o_callV 1 6 FX6_fail (o_ret0)))
set_option maxRecDepth 20000 in
theorem wX6_turn_277 (hZ : zO b e D A X) : rx_OK (zV b e D A X) mX6_turn 6 277 vX6_turn_277 := by
  unfold vX6_turn_277
  refine s_aload_n hZ.1 dX6_turn_277 rfl ?_
  refine s_iload hZ.1 dX6_turn_278 ?_
  refine s_callV hZ.1 (Met_X6_fail hZ) (Nat.le_of_ble_eq_true rfl) vy_X6_fail zcl6 zw2749 zw2750 (Or.inl zw2748) dX6_turn_280 ?_
  exact s_vret rfl dX6_turn_283
noncomputable def vX6_turn_270 : rx_K := o_st rx_isI 9 (o_ld rx_isI 8 (o_c1 rx_eq vX6_turn_284 vX6_turn_277))
set_option maxRecDepth 20000 in
theorem wX6_turn_270 (hZ : zO b e D A X) : rx_OK (zV b e D A X) mX6_turn 6 270 vX6_turn_270 := by
  unfold vX6_turn_270
  refine s_istore hZ.1 dX6_turn_270 (Nat.le_of_ble_eq_true rfl) ?_
  refine s_iload hZ.1 dX6_turn_272 ?_
  exact s_if_eq dX6_turn_274 (by decide) (wX6_turn_284 hZ) (wX6_turn_277 hZ)
noncomputable def vX6_turn_268 : rx_K := o_const 34359738352 (vX6_turn_270)
set_option maxRecDepth 20000 in
theorem wX6_turn_268 (hZ : zO b e D A X) : rx_OK (zV b e D A X) mX6_turn 6 268 vX6_turn_268 := by
  unfold vX6_turn_268
  refine s_bipush dX6_turn_268 (by decide +kernel) ?_
  exact (wX6_turn_270 hZ)
noncomputable def vX6_turn_258 : rx_K := o_ld rx_isR 0 (o_getf 6 1 (o_getf 5 12 (vX6_turn_270)))
set_option maxRecDepth 20000 in
theorem wX6_turn_258 (hZ : zO b e D A X) : rx_OK (zV b e D A X) mX6_turn 6 258 vX6_turn_258 := by
  unfold vX6_turn_258
  refine s_aload_n hZ.1 dX6_turn_258 rfl ?_
  refine yg6_1 dX6_turn_259 zw1474 ?_
  refine yg5_12 dX6_turn_262 zw1370 ?_
  exact s_goto dX6_turn_265 (by decide) (wX6_turn_270 hZ)
noncomputable def vX6_turn_245 : rx_K := o_ld rx_isR 0 (o_getf 6 1 (o_getf 5 11 (o_getf 7 2 (o_c1 rx_eq vX6_turn_268 vX6_turn_258))))
set_option maxRecDepth 20000 in
theorem wX6_turn_245 (hZ : zO b e D A X) : rx_OK (zV b e D A X) mX6_turn 6 245 vX6_turn_245 := by
  unfold vX6_turn_245
  refine s_aload_n hZ.1 dX6_turn_245 rfl ?_
  refine yg6_1 dX6_turn_246 zw1474 ?_
  refine yg5_11 dX6_turn_249 zw1367 ?_
  refine yg7_2 dX6_turn_252 zw965 ?_
  exact s_if_eq dX6_turn_255 (by decide) (wX6_turn_268 hZ) (wX6_turn_258 hZ)
noncomputable def vX6_turn_235 : rx_K := o_ld rx_isR 0 (o_getf 6 1 (o_getf 5 11 (o_nul vX6_turn_268 vX6_turn_245)))
set_option maxRecDepth 20000 in
theorem wX6_turn_235 (hZ : zO b e D A X) : rx_OK (zV b e D A X) mX6_turn 6 235 vX6_turn_235 := by
  unfold vX6_turn_235
  refine s_aload_n hZ.1 dX6_turn_235 rfl ?_
  refine yg6_1 dX6_turn_236 zw1474 ?_
  refine yg5_11 dX6_turn_239 zw1367 ?_
  exact s_ifnull dX6_turn_242 (by decide) (wX6_turn_268 hZ) (wX6_turn_245 hZ)
noncomputable def vX6_turn_228 : rx_K := o_ld rx_isI 5 (o_const 272 (o_c2 rx_eq vX6_turn_235 vX6_turn_268))
set_option maxRecDepth 20000 in
theorem wX6_turn_228 (hZ : zO b e D A X) : rx_OK (zV b e D A X) mX6_turn 6 228 vX6_turn_228 := by
  unfold vX6_turn_228
  refine s_iload hZ.1 dX6_turn_228 ?_
  refine s_bipush dX6_turn_230 (by decide +kernel) ?_
  exact s_icmp_ne dX6_turn_232 (by decide) (wX6_turn_268 hZ) (wX6_turn_235 hZ)
noncomputable def vX6_turn_221 : rx_K := o_ld rx_isI 5 (o_const 264 (o_c2 rx_eq vX6_turn_258 vX6_turn_228))
set_option maxRecDepth 20000 in
theorem wX6_turn_221 (hZ : zO b e D A X) : rx_OK (zV b e D A X) mX6_turn 6 221 vX6_turn_221 := by
  unfold vX6_turn_221
  refine s_iload hZ.1 dX6_turn_221 ?_
  refine s_bipush dX6_turn_223 (by decide +kernel) ?_
  exact s_icmp_eq dX6_turn_225 (by decide) (wX6_turn_258 hZ) (wX6_turn_228 hZ)
noncomputable def vX6_turn_214 : rx_K := o_ld rx_isI 5 (o_const 256 (o_c2 rx_eq vX6_turn_258 vX6_turn_221))
set_option maxRecDepth 20000 in
theorem wX6_turn_214 (hZ : zO b e D A X) : rx_OK (zV b e D A X) mX6_turn 6 214 vX6_turn_214 := by
  unfold vX6_turn_214
  refine s_iload hZ.1 dX6_turn_214 ?_
  refine s_bipush dX6_turn_216 (by decide +kernel) ?_
  exact s_icmp_eq dX6_turn_218 (by decide) (wX6_turn_258 hZ) (wX6_turn_221 hZ)
noncomputable def vX6_turn_204 : rx_K := o_ld rx_isR 0 (o_getf 6 1 (o_getf 5 14 (vX6_turn_270)))
set_option maxRecDepth 20000 in
theorem wX6_turn_204 (hZ : zO b e D A X) : rx_OK (zV b e D A X) mX6_turn 6 204 vX6_turn_204 := by
  unfold vX6_turn_204
  refine s_aload_n hZ.1 dX6_turn_204 rfl ?_
  refine yg6_1 dX6_turn_205 zw1474 ?_
  refine yg5_14 dX6_turn_208 zw1374 ?_
  exact s_goto dX6_turn_211 (by decide) (wX6_turn_270 hZ)
noncomputable def vX6_turn_195 : rx_K := o_st rx_isI 8 (o_ld rx_isI 5 (o_const 280 (o_c2 rx_eq vX6_turn_204 vX6_turn_214)))
set_option maxRecDepth 20000 in
theorem wX6_turn_195 (hZ : zO b e D A X) : rx_OK (zV b e D A X) mX6_turn 6 195 vX6_turn_195 := by
  unfold vX6_turn_195
  refine s_istore hZ.1 dX6_turn_195 (Nat.le_of_ble_eq_true rfl) ?_
  refine s_iload hZ.1 dX6_turn_197 ?_
  refine s_bipush dX6_turn_199 (by decide +kernel) ?_
  exact s_icmp_ne dX6_turn_201 (by decide) (wX6_turn_214 hZ) (wX6_turn_204 hZ)
noncomputable def vX6_turn_185 : rx_K := o_ld rx_isR 0 (o_getf 6 1 (o_ld rx_isI 2 (o_ld rx_isI 6 (o_callV 2 5 FX5_ask (vX6_turn_195)))))
set_option maxRecDepth 20000 in
theorem wX6_turn_185 (hZ : zO b e D A X) : rx_OK (zV b e D A X) mX6_turn 6 185 vX6_turn_185 := by
  unfold vX6_turn_185
  refine s_aload_n hZ.1 dX6_turn_185 rfl ?_
  refine yg6_1 dX6_turn_186 zw1474 ?_
  refine s_iload_n hZ.1 dX6_turn_189 rfl ?_
  refine s_iload hZ.1 dX6_turn_190 ?_
  refine s_callV hZ.1 (Met_X5_ask hZ) (Nat.le_of_ble_eq_true rfl) vy_X5_ask zcl5 zw2481 zw2482 (Or.inl zw2836) dX6_turn_192 ?_
  exact (wX6_turn_195 hZ)
noncomputable def vX6_turn_181 : rx_K := o_const 0 (vX6_turn_195)
set_option maxRecDepth 20000 in
theorem wX6_turn_181 (hZ : zO b e D A X) : rx_OK (zV b e D A X) mX6_turn 6 181 vX6_turn_181 := by
  unfold vX6_turn_181
  refine s_iconst dX6_turn_181 (by decide +kernel) ?_
  exact s_goto dX6_turn_182 (by decide) (wX6_turn_195 hZ)
noncomputable def vX6_turn_168 : rx_K := o_ld rx_isR 0 (o_getf 6 1 (o_ld rx_isI 2 (o_ld rx_isI 6 (o_callV 2 5 FX5_recalls (o_c1 rx_eq vX6_turn_185 vX6_turn_181)))))
set_option maxRecDepth 20000 in
theorem wX6_turn_168 (hZ : zO b e D A X) : rx_OK (zV b e D A X) mX6_turn 6 168 vX6_turn_168 := by
  unfold vX6_turn_168
  refine s_aload_n hZ.1 dX6_turn_168 rfl ?_
  refine yg6_1 dX6_turn_169 zw1474 ?_
  refine s_iload_n hZ.1 dX6_turn_172 rfl ?_
  refine s_iload hZ.1 dX6_turn_173 ?_
  refine s_callV hZ.1 (Met_X5_recalls hZ) (Nat.le_of_ble_eq_true rfl) vy_X5_recalls zcl5 zw2833 zw2834 (Or.inl zw2832) dX6_turn_175 ?_
  exact s_if_eq dX6_turn_178 (by decide) (wX6_turn_185 hZ) (wX6_turn_181 hZ)
noncomputable def vX6_turn_160 : rx_K := o_ld rx_isR 0 (o_const 0 (o_callV 1 6 FX6_peek (o_c1 rx_eq vX6_turn_338 vX6_turn_168)))
set_option maxRecDepth 20000 in
theorem wX6_turn_160 (hZ : zO b e D A X) : rx_OK (zV b e D A X) mX6_turn 6 160 vX6_turn_160 := by
  unfold vX6_turn_160
  refine s_aload_n hZ.1 dX6_turn_160 rfl ?_
  refine s_iconst dX6_turn_161 (by decide +kernel) ?_
  refine s_callV hZ.1 (Met_X6_peek hZ) (Nat.le_of_ble_eq_true rfl) vy_X6_peek zcl6 zw2798 zw163 (Or.inl zw2796) dX6_turn_162 ?_
  exact s_if_eq dX6_turn_165 (by decide) (wX6_turn_338 hZ) (wX6_turn_168 hZ)
noncomputable def vX6_turn_153 : rx_K := o_ld rx_isI 5 (o_const 304 (o_c2 rx_eq vX6_turn_160 vX6_turn_168))
set_option maxRecDepth 20000 in
theorem wX6_turn_153 (hZ : zO b e D A X) : rx_OK (zV b e D A X) mX6_turn 6 153 vX6_turn_153 := by
  unfold vX6_turn_153
  refine s_iload hZ.1 dX6_turn_153 ?_
  refine s_bipush dX6_turn_155 (by decide +kernel) ?_
  exact s_icmp_ne dX6_turn_157 (by decide) (wX6_turn_168 hZ) (wX6_turn_160 hZ)
noncomputable def vX6_turn_146 : rx_K := o_ld rx_isI 5 (o_const 296 (o_c2 rx_eq vX6_turn_160 vX6_turn_153))
set_option maxRecDepth 20000 in
theorem wX6_turn_146 (hZ : zO b e D A X) : rx_OK (zV b e D A X) mX6_turn 6 146 vX6_turn_146 := by
  unfold vX6_turn_146
  refine s_iload hZ.1 dX6_turn_146 ?_
  refine s_bipush dX6_turn_148 (by decide +kernel) ?_
  exact s_icmp_eq dX6_turn_150 (by decide) (wX6_turn_160 hZ) (wX6_turn_153 hZ)
noncomputable def vX6_turn_132 : rx_K := o_ld rx_isR 0 (o_ld rx_isR 1 (o_ld rx_isI 5 (o_ld rx_isI 6 (o_callV 3 6 FX6_goOne (o_st rx_isI 7 (vX6_turn_338))))))
set_option maxRecDepth 20000 in
theorem wX6_turn_132 (hZ : zO b e D A X) : rx_OK (zV b e D A X) mX6_turn 6 132 vX6_turn_132 := by
  unfold vX6_turn_132
  refine s_aload_n hZ.1 dX6_turn_132 rfl ?_
  refine s_aload_n hZ.1 dX6_turn_133 rfl ?_
  refine s_iload hZ.1 dX6_turn_134 ?_
  refine s_iload hZ.1 dX6_turn_136 ?_
  refine s_callV hZ.1 (Met_X6_goOne hZ) (Nat.le_of_ble_eq_true rfl) vy_X6_goOne zcl6 zw2805 zw164 (Or.inl zw2803) dX6_turn_138 ?_
  refine s_istore hZ.1 dX6_turn_141 (Nat.le_of_ble_eq_true rfl) ?_
  exact s_goto dX6_turn_143 (by decide) (wX6_turn_338 hZ)
noncomputable def vX6_turn_125 : rx_K := o_ld rx_isI 5 (o_const 240 (o_c2 rx_lt vX6_turn_132 vX6_turn_146))
set_option maxRecDepth 20000 in
theorem wX6_turn_125 (hZ : zO b e D A X) : rx_OK (zV b e D A X) mX6_turn 6 125 vX6_turn_125 := by
  unfold vX6_turn_125
  refine s_iload hZ.1 dX6_turn_125 ?_
  refine s_bipush dX6_turn_127 (by decide +kernel) ?_
  exact s_icmp_ge dX6_turn_129 (by decide) (wX6_turn_146 hZ) (wX6_turn_132 hZ)
noncomputable def vX6_turn_111 : rx_K := o_ld rx_isR 0 (o_ld rx_isR 1 (o_ld rx_isI 5 (o_ld rx_isI 6 (o_callV 3 6 FX6_plainOne (o_st rx_isI 7 (vX6_turn_338))))))
set_option maxRecDepth 20000 in
theorem wX6_turn_111 (hZ : zO b e D A X) : rx_OK (zV b e D A X) mX6_turn 6 111 vX6_turn_111 := by
  unfold vX6_turn_111
  refine s_aload_n hZ.1 dX6_turn_111 rfl ?_
  refine s_aload_n hZ.1 dX6_turn_112 rfl ?_
  refine s_iload hZ.1 dX6_turn_113 ?_
  refine s_iload hZ.1 dX6_turn_115 ?_
  refine s_callV hZ.1 (Met_X6_plainOne hZ) (Nat.le_of_ble_eq_true rfl) vy_X6_plainOne zcl6 zw2786 zw160 (Or.inl zw2784) dX6_turn_117 ?_
  refine s_istore hZ.1 dX6_turn_120 (Nat.le_of_ble_eq_true rfl) ?_
  exact s_goto dX6_turn_122 (by decide) (wX6_turn_338 hZ)
noncomputable def vX6_turn_81 : rx_K := o_ld rx_isR 3 (o_getf 1 16 (o_ld rx_isI 4 (o_ald 0 (o_st rx_isI 5 (o_ld rx_isR 3 (o_getf 1 16 (o_ld rx_isI 4 (o_const 8 (o_bi (fun x y => x + y) (o_ald 0 (o_st rx_isI 6 (o_const 8 (o_st rx_isI 7 (o_ld rx_isI 5 (o_const 96 (o_c2 rx_lt vX6_turn_111 vX6_turn_125))))))))))))))))
set_option maxRecDepth 20000 in
theorem wX6_turn_81 (hZ : zO b e D A X) : rx_OK (zV b e D A X) mX6_turn 6 81 vX6_turn_81 := by
  unfold vX6_turn_81
  refine s_aload_n hZ.1 dX6_turn_81 rfl ?_
  refine yg1_16 dX6_turn_82 zw1169 ?_
  refine s_iload hZ.1 dX6_turn_85 ?_
  refine s_iald (tt := 0) rfl dX6_turn_87 ?_
  refine s_istore hZ.1 dX6_turn_88 (Nat.le_of_ble_eq_true rfl) ?_
  refine s_aload_n hZ.1 dX6_turn_90 rfl ?_
  refine yg1_16 dX6_turn_91 zw1169 ?_
  refine s_iload hZ.1 dX6_turn_94 ?_
  refine s_iconst dX6_turn_96 (by decide +kernel) ?_
  refine s_iadd dX6_turn_97 ?_
  refine s_iald (tt := 0) rfl dX6_turn_98 ?_
  refine s_istore hZ.1 dX6_turn_99 (Nat.le_of_ble_eq_true rfl) ?_
  refine s_iconst dX6_turn_101 (by decide +kernel) ?_
  refine s_istore hZ.1 dX6_turn_102 (Nat.le_of_ble_eq_true rfl) ?_
  refine s_iload hZ.1 dX6_turn_104 ?_
  refine s_bipush dX6_turn_106 (by decide +kernel) ?_
  exact s_icmp_ge dX6_turn_108 (by decide) (wX6_turn_125 hZ) (wX6_turn_111 hZ)
noncomputable def vX6_turn_74 : rx_K := o_ld rx_isR 0 (o_const 112 (o_callV 1 6 FX6_fail (o_ret0)))
set_option maxRecDepth 20000 in
theorem wX6_turn_74 (hZ : zO b e D A X) : rx_OK (zV b e D A X) mX6_turn 6 74 vX6_turn_74 := by
  unfold vX6_turn_74
  refine s_aload_n hZ.1 dX6_turn_74 rfl ?_
  refine s_bipush dX6_turn_75 (by decide +kernel) ?_
  refine s_callV hZ.1 (Met_X6_fail hZ) (Nat.le_of_ble_eq_true rfl) vy_X6_fail zcl6 zw2749 zw2750 (Or.inl zw2748) dX6_turn_77 ?_
  exact s_vret rfl dX6_turn_80
noncomputable def vX6_turn_63 : rx_K := o_ld rx_isI 4 (o_const 8 (o_bi (fun x y => x + y) (o_ld rx_isR 3 (o_getf 1 17 (o_c2 rx_lt vX6_turn_81 vX6_turn_74)))))
set_option maxRecDepth 20000 in
theorem wX6_turn_63 (hZ : zO b e D A X) : rx_OK (zV b e D A X) mX6_turn 6 63 vX6_turn_63 := by
  unfold vX6_turn_63
  refine s_iload hZ.1 dX6_turn_63 ?_
  refine s_iconst dX6_turn_65 (by decide +kernel) ?_
  refine s_iadd dX6_turn_66 ?_
  refine s_aload_n hZ.1 dX6_turn_67 rfl ?_
  refine yg1_17 dX6_turn_68 zw1173 ?_
  exact s_icmp_lt dX6_turn_71 (by decide) (wX6_turn_81 hZ) (wX6_turn_74 hZ)
noncomputable def vX6_turn_36 : rx_K := o_ld rx_isR 1 (o_const 0 (o_ald 0 (o_st rx_isI 2 (o_ld rx_isR 0 (o_getf 6 0 (o_getf 11 1 (o_ld rx_isI 2 (o_ald 4 (o_getf 10 0 (o_st rx_isR 3 (o_ld rx_isR 1 (o_const 8 (o_ald 0 (o_st rx_isI 4 (o_ld rx_isI 4 (o_c1 rx_lt vX6_turn_74 vX6_turn_63))))))))))))))))
set_option maxRecDepth 20000 in
theorem wX6_turn_36 (hZ : zO b e D A X) : rx_OK (zV b e D A X) mX6_turn 6 36 vX6_turn_36 := by
  unfold vX6_turn_36
  refine s_aload_n hZ.1 dX6_turn_36 rfl ?_
  refine s_iconst dX6_turn_37 (by decide +kernel) ?_
  refine s_iald (tt := 0) rfl dX6_turn_38 ?_
  refine s_istore_n hZ.1 dX6_turn_39 rfl (Nat.le_of_ble_eq_true rfl) ?_
  refine s_aload_n hZ.1 dX6_turn_40 rfl ?_
  refine yg6_0 dX6_turn_41 zw1473 ?_
  refine yg11_1 dX6_turn_44 zw1255 ?_
  refine s_iload_n hZ.1 dX6_turn_47 rfl ?_
  refine s_aald (tt := 4) rfl rfl dX6_turn_48 ?_
  refine yg10_0 dX6_turn_49 zw766 ?_
  refine s_astore_n hZ.1 dX6_turn_52 rfl (Nat.le_of_ble_eq_true rfl) ?_
  refine s_aload_n hZ.1 dX6_turn_53 rfl ?_
  refine s_iconst dX6_turn_54 (by decide +kernel) ?_
  refine s_iald (tt := 0) rfl dX6_turn_55 ?_
  refine s_istore hZ.1 dX6_turn_56 (Nat.le_of_ble_eq_true rfl) ?_
  refine s_iload hZ.1 dX6_turn_58 ?_
  exact s_if_lt dX6_turn_60 (by decide) (wX6_turn_74 hZ) (wX6_turn_63 hZ)
noncomputable def vX6_turn_35 : rx_K := o_ret0
set_option maxRecDepth 20000 in
theorem wX6_turn_35 (hZ : zO b e D A X) : rx_OK (zV b e D A X) mX6_turn 6 35 vX6_turn_35 := by
  unfold vX6_turn_35
  exact s_vret rfl dX6_turn_35
noncomputable def vX6_turn_29 : rx_K := o_ld rx_isR 0 (o_ld rx_isI 2 (o_callV 1 6 FX6_ready (o_pop (vX6_turn_35))))
set_option maxRecDepth 20000 in
theorem wX6_turn_29 (hZ : zO b e D A X) : rx_OK (zV b e D A X) mX6_turn 6 29 vX6_turn_29 := by
  unfold vX6_turn_29
  refine s_aload_n hZ.1 dX6_turn_29 rfl ?_
  refine s_iload_n hZ.1 dX6_turn_30 rfl ?_
  refine s_callV hZ.1 (Met_X6_ready hZ) (Nat.le_of_ble_eq_true rfl) vy_X6_ready zcl6 zw2746 zw155 (Or.inl zw2744) dX6_turn_31 ?_
  refine s_pop hZ.1 dX6_turn_34 ?_
  exact (wX6_turn_35 hZ)
noncomputable def vX6_turn_19 : rx_K := o_ld rx_isR 0 (o_ld rx_isR 1 (o_callV 1 6 FX6_nextStart (o_st rx_isI 2 (o_ld rx_isI 2 (o_c1 rx_lt vX6_turn_35 vX6_turn_29)))))
set_option maxRecDepth 20000 in
theorem wX6_turn_19 (hZ : zO b e D A X) : rx_OK (zV b e D A X) mX6_turn 6 19 vX6_turn_19 := by
  unfold vX6_turn_19
  refine s_aload_n hZ.1 dX6_turn_19 rfl ?_
  refine s_aload_n hZ.1 dX6_turn_20 rfl ?_
  refine s_callV hZ.1 (Met_X6_nextStart hZ) (Nat.le_of_ble_eq_true rfl) vy_X6_nextStart zcl6 zw2773 zw158 (Or.inl zw2771) dX6_turn_21 ?_
  refine s_istore_n hZ.1 dX6_turn_24 rfl (Nat.le_of_ble_eq_true rfl) ?_
  refine s_iload_n hZ.1 dX6_turn_25 rfl ?_
  exact s_if_lt dX6_turn_26 (by decide) (wX6_turn_35 hZ) (wX6_turn_29 hZ)
noncomputable def vX6_turn_0 : rx_K := o_ld rx_isR 0 (o_getf 6 4 (o_ld rx_isR 0 (o_getf 6 5 (o_const 8 (o_bi (fun x y => x - y) (o_ald 8 (o_st rx_isR 1 (o_ld rx_isR 1 (o_const 48 (o_ald 0 (o_c1 rx_lt vX6_turn_36 vX6_turn_19)))))))))))
set_option maxRecDepth 20000 in
theorem wX6_turn_0 (hZ : zO b e D A X) : rx_OK (zV b e D A X) mX6_turn 6 0 vX6_turn_0 := by
  unfold vX6_turn_0
  refine s_aload_n hZ.1 dX6_turn_0 rfl ?_
  refine yg6_4 dX6_turn_1 zw1478 ?_
  refine s_aload_n hZ.1 dX6_turn_4 rfl ?_
  refine yg6_5 dX6_turn_5 zw1479 ?_
  refine s_iconst dX6_turn_8 (by decide +kernel) ?_
  refine s_isub dX6_turn_9 ?_
  refine s_aald (tt := 8) rfl rfl dX6_turn_10 ?_
  refine s_astore_n hZ.1 dX6_turn_11 rfl (Nat.le_of_ble_eq_true rfl) ?_
  refine s_aload_n hZ.1 dX6_turn_12 rfl ?_
  refine s_bipush dX6_turn_13 (by decide +kernel) ?_
  refine s_iald (tt := 0) rfl dX6_turn_15 ?_
  exact s_if_lt dX6_turn_16 (by decide) (wX6_turn_36 hZ) (wX6_turn_19 hZ)
noncomputable def FX6_turn : List Nat → rx_H → Option (Nat × rx_H) := rx_ent 10 vX6_turn_0
theorem Met_X6_turn (hZ : zO b e D A X) : rx_Met (zV b e D A X) 6 yX6_turn mX6_turn (FX6_turn) := rx_entry hZ.1 (wX6_turn_0 hZ) (by decide +kernel) rfl (fun h => by cases h)
abbrev mX8_init : rx_M := (RX8, cX8_init, 1, none, true)
theorem vy_X8_init : rx_Y (zV b e D A X) yX8_init mX8_init 0 := ⟨zw455, zw415, by decide, by decide +kernel, by decide +kernel, by decide +kernel⟩
noncomputable def vX8_init_0 : rx_K := o_ld rx_isR 0 (o_obj (o_ret0))
set_option maxRecDepth 20000 in
theorem wX8_init_0 (hZ : zO b e D A X) : rx_OK (zV b e D A X) mX8_init 1 0 vX8_init_0 := by
  unfold vX8_init_0
  refine s_aload_n hZ.1 dX8_init_0 rfl ?_
  refine s_obj hZ.1 (Nat.le_of_ble_eq_true rfl) zw456 zw440 zw441 dX8_init_1 ?_
  exact s_vret rfl dX8_init_4
noncomputable def FX8_init : List Nat → rx_H → Option (Nat × rx_H) := rx_ent 1 vX8_init_0
theorem Met_X8_init (hZ : zO b e D A X) : rx_Met (zV b e D A X) 1 yX8_init mX8_init (FX8_init) := rx_entry hZ.1 (wX8_init_0 hZ) (by decide +kernel) rfl (fun _ => rfl)
abbrev mX8_clear : rx_M := (RX8, cX8_clear, 3, none, false)
theorem vy_X8_clear : rx_Y (zV b e D A X) yX8_clear mX8_clear 2 := ⟨zw1816, zw415, by decide, by decide +kernel, by decide +kernel, by decide +kernel⟩
noncomputable def vX8_clear_40 : rx_K := o_ld rx_isR 0 (o_const 3 (o_putf rx_isR 8 8 (o_ld rx_isR 0 (o_const 147573952589676412897 (o_putf rx_isL 8 9 (o_ld rx_isR 0 (o_const 147573952589676412897 (o_putf rx_isL 8 10 (o_ld rx_isR 0 (o_const 3 (o_putf rx_isR 8 11 (o_ret0))))))))))))
set_option maxRecDepth 20000 in
theorem wX8_clear_40 (hZ : zO b e D A X) : rx_OK (zV b e D A X) mX8_clear 0 40 vX8_clear_40 := by
  unfold vX8_clear_40
  refine s_aload_n hZ.1 dX8_clear_40 rfl ?_
  refine s_null dX8_clear_41 ?_
  refine yp8_8 hZ.1 dX8_clear_42 zw486 ?_
  refine s_aload_n hZ.1 dX8_clear_45 rfl ?_
  refine s_ldc2 dX8_clear_46 zw1817 (by decide +kernel) ?_
  refine yp8_9 hZ.1 dX8_clear_49 zw490 ?_
  refine s_aload_n hZ.1 dX8_clear_52 rfl ?_
  refine s_ldc2 dX8_clear_53 zw1817 (by decide +kernel) ?_
  refine yp8_10 hZ.1 dX8_clear_56 zw494 ?_
  refine s_aload_n hZ.1 dX8_clear_59 rfl ?_
  refine s_null dX8_clear_60 ?_
  refine yp8_11 hZ.1 dX8_clear_61 zw498 ?_
  exact s_vret rfl dX8_clear_64
noncomputable def vX8_clear_0 : rx_K := o_ld rx_isR 0 (o_ld rx_isI 1 (o_putf rx_isI 8 0 (o_ld rx_isR 0 (o_ld rx_isI 2 (o_putf rx_isI 8 1 (o_ld rx_isR 0 (o_ld rx_isI 2 (o_putf rx_isI 8 2 (o_ld rx_isR 0 (o_const 0 (o_putf rx_isI 8 3 (o_ld rx_isR 0 (o_const 34359738360 (o_putf rx_isI 8 4 (o_ld rx_isR 0 (o_const 3 (o_putf rx_isR 8 5 (o_ld rx_isR 0 (o_const 3 (o_putf rx_isR 8 6 (o_ld rx_isR 0 (o_const 3 (o_putf rx_isR 8 7 (vX8_clear_40))))))))))))))))))))))))
set_option maxRecDepth 20000 in
theorem wX8_clear_0 (hZ : zO b e D A X) : rx_OK (zV b e D A X) mX8_clear 0 0 vX8_clear_0 := by
  unfold vX8_clear_0
  refine s_aload_n hZ.1 dX8_clear_0 rfl ?_
  refine s_iload_n hZ.1 dX8_clear_1 rfl ?_
  refine yp8_0 hZ.1 dX8_clear_2 zw457 ?_
  refine s_aload_n hZ.1 dX8_clear_5 rfl ?_
  refine s_iload_n hZ.1 dX8_clear_6 rfl ?_
  refine yp8_1 hZ.1 dX8_clear_7 zw461 ?_
  refine s_aload_n hZ.1 dX8_clear_10 rfl ?_
  refine s_iload_n hZ.1 dX8_clear_11 rfl ?_
  refine yp8_2 hZ.1 dX8_clear_12 zw464 ?_
  refine s_aload_n hZ.1 dX8_clear_15 rfl ?_
  refine s_iconst dX8_clear_16 (by decide +kernel) ?_
  refine yp8_3 hZ.1 dX8_clear_17 zw467 ?_
  refine s_aload_n hZ.1 dX8_clear_20 rfl ?_
  refine s_iconst dX8_clear_21 (by decide +kernel) ?_
  refine yp8_4 hZ.1 dX8_clear_22 zw471 ?_
  refine s_aload_n hZ.1 dX8_clear_25 rfl ?_
  refine s_null dX8_clear_26 ?_
  refine yp8_5 hZ.1 dX8_clear_27 zw474 ?_
  refine s_aload_n hZ.1 dX8_clear_30 rfl ?_
  refine s_null dX8_clear_31 ?_
  refine yp8_6 hZ.1 dX8_clear_32 zw478 ?_
  refine s_aload_n hZ.1 dX8_clear_35 rfl ?_
  refine s_null dX8_clear_36 ?_
  refine yp8_7 hZ.1 dX8_clear_37 zw482 ?_
  exact (wX8_clear_40 hZ)
noncomputable def FX8_clear : List Nat → rx_H → Option (Nat × rx_H) := rx_ent 3 vX8_clear_0
theorem Met_X8_clear (hZ : zO b e D A X) : rx_Met (zV b e D A X) 0 yX8_clear mX8_clear (FX8_clear) := rx_entry hZ.1 (wX8_clear_0 hZ) (by decide +kernel) rfl (fun h => by cases h)
abbrev mX9_sixBits : rx_M := (RX9, cX9_sixBits, 1, (some .long), false)
theorem vy_X9_sixBits : rx_Y (zV b e D A X) yX9_sixBits mX9_sixBits 1 := ⟨zw580, zw414, by decide, by decide +kernel, by decide +kernel, by decide +kernel⟩
noncomputable def vX9_sixBits_65 : rx_K := o_ret1 rx_isL
set_option maxRecDepth 20000 in
theorem wX9_sixBits_65 (hZ : zO b e D A X) : rx_OK (zV b e D A X) mX9_sixBits 0 65 vX9_sixBits_65 := by
  unfold vX9_sixBits_65
  exact s_lret rfl dX9_sixBits_65
noncomputable def vX9_sixBits_64 : rx_K := o_const 1 (vX9_sixBits_65)
set_option maxRecDepth 20000 in
theorem wX9_sixBits_64 (hZ : zO b e D A X) : rx_OK (zV b e D A X) mX9_sixBits 0 64 vX9_sixBits_64 := by
  unfold vX9_sixBits_64
  refine s_lconst dX9_sixBits_64 (by decide +kernel) ?_
  exact (wX9_sixBits_65 hZ)
noncomputable def vX9_sixBits_53 : rx_K := o_ld rx_isI 0 (o_const 384 (o_bi (fun x y => x - y) (o_const 424 (o_bi (fun x y => x + y) (o_il (fun x => x.toInt64) (vX9_sixBits_65))))))
set_option maxRecDepth 20000 in
theorem wX9_sixBits_53 (hZ : zO b e D A X) : rx_OK (zV b e D A X) mX9_sixBits 0 53 vX9_sixBits_53 := by
  unfold vX9_sixBits_53
  refine s_iload_n hZ.1 dX9_sixBits_53 rfl ?_
  refine s_bipush dX9_sixBits_54 (by decide +kernel) ?_
  refine s_isub dX9_sixBits_56 ?_
  refine s_bipush dX9_sixBits_57 (by decide +kernel) ?_
  refine s_iadd dX9_sixBits_59 ?_
  refine s_i2l dX9_sixBits_60 ?_
  exact s_goto dX9_sixBits_61 (by decide) (wX9_sixBits_65 hZ)
noncomputable def vX9_sixBits_47 : rx_K := o_ld rx_isI 0 (o_const 456 (o_c2 (fun h x y => rx_lt h y x) vX9_sixBits_64 vX9_sixBits_53))
set_option maxRecDepth 20000 in
theorem wX9_sixBits_47 (hZ : zO b e D A X) : rx_OK (zV b e D A X) mX9_sixBits 0 47 vX9_sixBits_47 := by
  unfold vX9_sixBits_47
  refine s_iload_n hZ.1 dX9_sixBits_47 rfl ?_
  refine s_bipush dX9_sixBits_48 (by decide +kernel) ?_
  exact s_icmp_gt dX9_sixBits_50 (by decide) (wX9_sixBits_64 hZ) (wX9_sixBits_53 hZ)
noncomputable def vX9_sixBits_41 : rx_K := o_ld rx_isI 0 (o_const 384 (o_c2 rx_lt vX9_sixBits_64 vX9_sixBits_47))
set_option maxRecDepth 20000 in
theorem wX9_sixBits_41 (hZ : zO b e D A X) : rx_OK (zV b e D A X) mX9_sixBits 0 41 vX9_sixBits_41 := by
  unfold vX9_sixBits_41
  refine s_iload_n hZ.1 dX9_sixBits_41 rfl ?_
  refine s_bipush dX9_sixBits_42 (by decide +kernel) ?_
  exact s_icmp_lt dX9_sixBits_44 (by decide) (wX9_sixBits_64 hZ) (wX9_sixBits_47 hZ)
noncomputable def vX9_sixBits_32 : rx_K := o_ld rx_isI 0 (o_const 520 (o_bi (fun x y => x - y) (o_const 216 (o_bi (fun x y => x + y) (o_il (fun x => x.toInt64) (o_ret1 rx_isL))))))
set_option maxRecDepth 20000 in
theorem wX9_sixBits_32 (hZ : zO b e D A X) : rx_OK (zV b e D A X) mX9_sixBits 0 32 vX9_sixBits_32 := by
  unfold vX9_sixBits_32
  refine s_iload_n hZ.1 dX9_sixBits_32 rfl ?_
  refine s_bipush dX9_sixBits_33 (by decide +kernel) ?_
  refine s_isub dX9_sixBits_35 ?_
  refine s_bipush dX9_sixBits_36 (by decide +kernel) ?_
  refine s_iadd dX9_sixBits_38 ?_
  refine s_i2l dX9_sixBits_39 ?_
  exact s_lret rfl dX9_sixBits_40
noncomputable def vX9_sixBits_26 : rx_K := o_ld rx_isI 0 (o_const 720 (o_c2 (fun h x y => rx_lt h y x) vX9_sixBits_41 vX9_sixBits_32))
set_option maxRecDepth 20000 in
theorem wX9_sixBits_26 (hZ : zO b e D A X) : rx_OK (zV b e D A X) mX9_sixBits 0 26 vX9_sixBits_26 := by
  unfold vX9_sixBits_26
  refine s_iload_n hZ.1 dX9_sixBits_26 rfl ?_
  refine s_bipush dX9_sixBits_27 (by decide +kernel) ?_
  exact s_icmp_gt dX9_sixBits_29 (by decide) (wX9_sixBits_41 hZ) (wX9_sixBits_32 hZ)
noncomputable def vX9_sixBits_20 : rx_K := o_ld rx_isI 0 (o_const 520 (o_c2 rx_lt vX9_sixBits_41 vX9_sixBits_26))
set_option maxRecDepth 20000 in
theorem wX9_sixBits_20 (hZ : zO b e D A X) : rx_OK (zV b e D A X) mX9_sixBits 0 20 vX9_sixBits_20 := by
  unfold vX9_sixBits_20
  refine s_iload_n hZ.1 dX9_sixBits_20 rfl ?_
  refine s_bipush dX9_sixBits_21 (by decide +kernel) ?_
  exact s_icmp_lt dX9_sixBits_23 (by decide) (wX9_sixBits_41 hZ) (wX9_sixBits_26 hZ)
noncomputable def vX9_sixBits_12 : rx_K := o_ld rx_isI 0 (o_const 776 (o_bi (fun x y => x - y) (o_const 8 (o_bi (fun x y => x + y) (o_il (fun x => x.toInt64) (o_ret1 rx_isL))))))
set_option maxRecDepth 20000 in
theorem wX9_sixBits_12 (hZ : zO b e D A X) : rx_OK (zV b e D A X) mX9_sixBits 0 12 vX9_sixBits_12 := by
  unfold vX9_sixBits_12
  refine s_iload_n hZ.1 dX9_sixBits_12 rfl ?_
  refine s_bipush dX9_sixBits_13 (by decide +kernel) ?_
  refine s_isub dX9_sixBits_15 ?_
  refine s_iconst dX9_sixBits_16 (by decide +kernel) ?_
  refine s_iadd dX9_sixBits_17 ?_
  refine s_i2l dX9_sixBits_18 ?_
  exact s_lret rfl dX9_sixBits_19
noncomputable def vX9_sixBits_6 : rx_K := o_ld rx_isI 0 (o_const 976 (o_c2 (fun h x y => rx_lt h y x) vX9_sixBits_20 vX9_sixBits_12))
set_option maxRecDepth 20000 in
theorem wX9_sixBits_6 (hZ : zO b e D A X) : rx_OK (zV b e D A X) mX9_sixBits 0 6 vX9_sixBits_6 := by
  unfold vX9_sixBits_6
  refine s_iload_n hZ.1 dX9_sixBits_6 rfl ?_
  refine s_bipush dX9_sixBits_7 (by decide +kernel) ?_
  exact s_icmp_gt dX9_sixBits_9 (by decide) (wX9_sixBits_20 hZ) (wX9_sixBits_12 hZ)
noncomputable def vX9_sixBits_0 : rx_K := o_ld rx_isI 0 (o_const 776 (o_c2 rx_lt vX9_sixBits_20 vX9_sixBits_6))
set_option maxRecDepth 20000 in
theorem wX9_sixBits_0 (hZ : zO b e D A X) : rx_OK (zV b e D A X) mX9_sixBits 0 0 vX9_sixBits_0 := by
  unfold vX9_sixBits_0
  refine s_iload_n hZ.1 dX9_sixBits_0 rfl ?_
  refine s_bipush dX9_sixBits_1 (by decide +kernel) ?_
  exact s_icmp_lt dX9_sixBits_3 (by decide) (wX9_sixBits_20 hZ) (wX9_sixBits_6 hZ)
noncomputable def FX9_sixBits : List Nat → rx_H → Option (Nat × rx_H) := rx_ent 1 vX9_sixBits_0
theorem Met_X9_sixBits (hZ : zO b e D A X) : rx_Met (zV b e D A X) 0 yX9_sixBits mX9_sixBits (FX9_sixBits) := rx_entry hZ.1 (wX9_sixBits_0 hZ) (by decide +kernel) rfl (fun h => by cases h)
abbrev mJ0_isLatin1_aae02 : rx_M := (RJ0, cJ0_isLatin1_aae02, 1, (some .boolean), false)
theorem vy_J0_isLatin1_aae02 : rx_Y (zV b e D A X) yJ0_isLatin1_aae02 mJ0_isLatin1_aae02 0 := ⟨zw547, zw416, by decide, by decide +kernel, by decide +kernel, by decide +kernel⟩
noncomputable def vJ0_isLatin1_aae02_18 : rx_K := o_ret1 rx_isZ
set_option maxRecDepth 20000 in
theorem wJ0_isLatin1_aae02_18 (hZ : zO b e D A X) : rx_OK (zV b e D A X) mJ0_isLatin1_aae02 0 18 vJ0_isLatin1_aae02_18 := by
  unfold vJ0_isLatin1_aae02_18
  exact s_zret rx_z_ok rfl dJ0_isLatin1_aae02_18
noncomputable def vJ0_isLatin1_aae02_13 : rx_K := o_const 8 (vJ0_isLatin1_aae02_18)
set_option maxRecDepth 20000 in
theorem wJ0_isLatin1_aae02_13 (hZ : zO b e D A X) : rx_OK (zV b e D A X) mJ0_isLatin1_aae02 0 13 vJ0_isLatin1_aae02_13 := by
  unfold vJ0_isLatin1_aae02_13
  refine s_iconst dJ0_isLatin1_aae02_13 (by decide +kernel) ?_
  exact s_goto dJ0_isLatin1_aae02_14 (by decide) (wJ0_isLatin1_aae02_18 hZ)
noncomputable def vJ0_isLatin1_aae02_10 : rx_K := o_c1 rx_eq vJ0_isLatin1_aae02_13 o_none
set_option maxRecDepth 20000 in
theorem wJ0_isLatin1_aae02_10 (hZ : zO b e D A X) : rx_OK (zV b e D A X) mJ0_isLatin1_aae02 0 10 vJ0_isLatin1_aae02_10 := by
  unfold vJ0_isLatin1_aae02_10
  exact s_if_ne dJ0_isLatin1_aae02_10 (by decide) (s_none (pc := 17)) (wJ0_isLatin1_aae02_13 hZ)
noncomputable def vJ0_isLatin1_aae02_6 : rx_K := o_ld rx_isR 0 (o_alt (zq0 6) (o_xv 6 0 (vJ0_isLatin1_aae02_10)) (o_alt (zq0 8) (o_xv 8 0 (vJ0_isLatin1_aae02_10)) (o_alt (zq0 10) (o_xv 10 0 (vJ0_isLatin1_aae02_10)) (o_alt (zq0 12) (o_xv 12 0 (vJ0_isLatin1_aae02_10)) (o_alt (zq0 14) (o_xv 14 0 (vJ0_isLatin1_aae02_10)) (o_alt (zq0 16) (o_xv 16 0 (vJ0_isLatin1_aae02_10)) (o_alt (zq0 18) (o_xv 18 0 (vJ0_isLatin1_aae02_10)) (o_alt (zq0 20) (o_xv 20 0 (vJ0_isLatin1_aae02_10)) (o_alt (zq0 22) (o_xv 22 0 (vJ0_isLatin1_aae02_10)) (o_alt (zq0 24) (o_xv 24 0 (vJ0_isLatin1_aae02_10)) (o_alt (zq0 26) (o_xv 26 0 (vJ0_isLatin1_aae02_10)) (o_alt (zq0 30) (o_xv 30 0 (vJ0_isLatin1_aae02_10)) (o_alt (zq0 32) (o_xv 32 0 (vJ0_isLatin1_aae02_10)) (o_alt (zq0 34) (o_xv 34 0 (vJ0_isLatin1_aae02_10)) (o_alt (zq0 36) (o_xv 36 0 (vJ0_isLatin1_aae02_10)) (o_alt (zq0 38) (o_xv 38 0 (vJ0_isLatin1_aae02_10)) (o_alt (zq0 40) (o_xv 40 0 (vJ0_isLatin1_aae02_10)) (o_alt (zq0 42) (o_xv 42 0 (vJ0_isLatin1_aae02_10)) (o_alt (zq0 44) (o_xv 44 0 (vJ0_isLatin1_aae02_10)) (o_alt (zq0 46) (o_xv 46 0 (vJ0_isLatin1_aae02_10)) (o_alt (zq0 48) (o_xv 48 0 (vJ0_isLatin1_aae02_10)) (o_alt (zq0 50) (o_xv 50 0 (vJ0_isLatin1_aae02_10)) (o_alt (zq0 52) (o_xv 52 0 (vJ0_isLatin1_aae02_10)) (o_alt (zq0 54) (o_xv 54 0 (vJ0_isLatin1_aae02_10)) (o_alt (zq0 56) (o_xv 56 0 (vJ0_isLatin1_aae02_10)) (o_alt (zq0 58) (o_xv 58 0 (vJ0_isLatin1_aae02_10)) (o_alt (zq0 60) (o_xv 60 0 (vJ0_isLatin1_aae02_10)) (o_alt (zq0 62) (o_xv 62 0 (vJ0_isLatin1_aae02_10)) (o_alt (zq0 64) (o_xv 64 0 (vJ0_isLatin1_aae02_10)) (o_alt (zq0 66) (o_xv 66 0 (vJ0_isLatin1_aae02_10)) (o_alt (zq0 68) (o_xv 68 0 (vJ0_isLatin1_aae02_10)) (o_alt (zq0 70) (o_xv 70 0 (vJ0_isLatin1_aae02_10)) (o_alt (zq0 72) (o_xv 72 0 (vJ0_isLatin1_aae02_10)) (o_alt (zq0 74) (o_xv 74 0 (vJ0_isLatin1_aae02_10)) (o_alt (zq0 76) (o_xv 76 0 (vJ0_isLatin1_aae02_10)) (o_alt (zq0 78) (o_xv 78 0 (vJ0_isLatin1_aae02_10)) (o_alt (zq0 80) (o_xv 80 0 (vJ0_isLatin1_aae02_10)) (o_alt (zq0 82) (o_xv 82 0 (vJ0_isLatin1_aae02_10)) (o_alt (zq0 84) (o_xv 84 0 (vJ0_isLatin1_aae02_10)) (o_alt (zq0 86) (o_xv 86 0 (vJ0_isLatin1_aae02_10)) (o_alt (zq0 88) (o_xv 88 0 (vJ0_isLatin1_aae02_10)) (o_alt (zq0 90) (o_xv 90 0 (vJ0_isLatin1_aae02_10)) (o_alt (zq0 92) (o_xv 92 0 (vJ0_isLatin1_aae02_10)) (o_alt (zq0 94) (o_xv 94 0 (vJ0_isLatin1_aae02_10)) (o_alt (zq0 96) (o_xv 96 0 (vJ0_isLatin1_aae02_10)) (o_alt (zq0 98) (o_xv 98 0 (vJ0_isLatin1_aae02_10)) (o_alt (zq0 100) (o_xv 100 0 (vJ0_isLatin1_aae02_10)) (o_alt (zq0 102) (o_xv 102 0 (vJ0_isLatin1_aae02_10)) (o_alt (zq0 104) (o_xv 104 0 (vJ0_isLatin1_aae02_10)) (o_alt (zq0 106) (o_xv 106 0 (vJ0_isLatin1_aae02_10)) (o_alt (zq0 108) (o_xv 108 0 (vJ0_isLatin1_aae02_10)) (o_alt (zq0 110) (o_xv 110 0 (vJ0_isLatin1_aae02_10)) (o_alt (zq0 112) (o_xv 112 0 (vJ0_isLatin1_aae02_10)) (o_alt (zq0 114) (o_xv 114 0 (vJ0_isLatin1_aae02_10)) (o_alt (zq0 116) (o_xv 116 0 (vJ0_isLatin1_aae02_10)) (o_alt (zq0 118) (o_xv 118 0 (vJ0_isLatin1_aae02_10)) (o_alt (zq0 120) (o_xv 120 0 (vJ0_isLatin1_aae02_10)) (o_alt (zq0 122) (o_xv 122 0 (vJ0_isLatin1_aae02_10)) (o_alt (zq0 124) (o_xv 124 0 (vJ0_isLatin1_aae02_10)) (o_alt (zq0 126) (o_xv 126 0 (vJ0_isLatin1_aae02_10)) (o_alt (zq0 128) (o_xv 128 0 (vJ0_isLatin1_aae02_10)) (o_alt (zq0 130) (o_xv 130 0 (vJ0_isLatin1_aae02_10)) (o_alt (zq0 132) (o_xv 132 0 (vJ0_isLatin1_aae02_10)) (o_alt (zq0 134) (o_xv 134 0 (vJ0_isLatin1_aae02_10)) (o_alt (zq0 136) (o_xv 136 0 (vJ0_isLatin1_aae02_10)) (o_alt (zq0 138) (o_xv 138 0 (vJ0_isLatin1_aae02_10)) (o_alt (zq0 140) (o_xv 140 0 (vJ0_isLatin1_aae02_10)) (o_alt (zq0 142) (o_xv 142 0 (vJ0_isLatin1_aae02_10)) (o_alt (zq0 144) (o_xv 144 0 (vJ0_isLatin1_aae02_10)) (o_alt (zq0 148) (o_xv 148 0 (vJ0_isLatin1_aae02_10)) (o_alt (zq0 150) (o_xv 150 0 (vJ0_isLatin1_aae02_10)) (o_alt (zq0 152) (o_xv 152 0 (vJ0_isLatin1_aae02_10)) (o_alt (zq0 154) (o_xv 154 0 (vJ0_isLatin1_aae02_10)) (o_alt (zq0 156) (o_xv 156 0 (vJ0_isLatin1_aae02_10)) (o_alt (zq0 158) (o_xv 158 0 (vJ0_isLatin1_aae02_10)) (o_none))))))))))))))))))))))))))))))))))))))))))))))))))))))))))))))))))))))))))))
set_option maxRecDepth 20000 in
theorem wJ0_isLatin1_aae02_6 (hZ : zO b e D A X) : rx_OK (zV b e D A X) mJ0_isLatin1_aae02 0 6 vJ0_isLatin1_aae02_6 := by
  unfold vJ0_isLatin1_aae02_6
  refine s_aload_n hZ.1 dJ0_isLatin1_aae02_6 rfl ?_
  exact (s_alt (s_xgetf (zo_C6 hZ) (Or.inl rfl) zw4663 dJ0_isLatin1_aae02_7 (wJ0_isLatin1_aae02_10 hZ)) (s_alt (s_xgetf (zo_C8 hZ) (Or.inl rfl) zw4663 dJ0_isLatin1_aae02_7 (wJ0_isLatin1_aae02_10 hZ)) (s_alt (s_xgetf (zo_C10 hZ) (Or.inl rfl) zw4663 dJ0_isLatin1_aae02_7 (wJ0_isLatin1_aae02_10 hZ)) (s_alt (s_xgetf (zo_C12 hZ) (Or.inl rfl) zw4663 dJ0_isLatin1_aae02_7 (wJ0_isLatin1_aae02_10 hZ)) (s_alt (s_xgetf (zo_C14 hZ) (Or.inl rfl) zw4663 dJ0_isLatin1_aae02_7 (wJ0_isLatin1_aae02_10 hZ)) (s_alt (s_xgetf (zo_C16 hZ) (Or.inl rfl) zw4663 dJ0_isLatin1_aae02_7 (wJ0_isLatin1_aae02_10 hZ)) (s_alt (s_xgetf (zo_C18 hZ) (Or.inl rfl) zw4663 dJ0_isLatin1_aae02_7 (wJ0_isLatin1_aae02_10 hZ)) (s_alt (s_xgetf (zo_C20 hZ) (Or.inl rfl) zw4663 dJ0_isLatin1_aae02_7 (wJ0_isLatin1_aae02_10 hZ)) (s_alt (s_xgetf (zo_C22 hZ) (Or.inl rfl) zw4663 dJ0_isLatin1_aae02_7 (wJ0_isLatin1_aae02_10 hZ)) (s_alt (s_xgetf (zo_C24 hZ) (Or.inl rfl) zw4663 dJ0_isLatin1_aae02_7 (wJ0_isLatin1_aae02_10 hZ)) (s_alt (s_xgetf (zo_C26 hZ) (Or.inl rfl) zw4663 dJ0_isLatin1_aae02_7 (wJ0_isLatin1_aae02_10 hZ)) (s_alt (s_xgetf (zo_C30 hZ) (Or.inl rfl) zw4663 dJ0_isLatin1_aae02_7 (wJ0_isLatin1_aae02_10 hZ)) (s_alt (s_xgetf (zo_C32 hZ) (Or.inl rfl) zw4663 dJ0_isLatin1_aae02_7 (wJ0_isLatin1_aae02_10 hZ)) (s_alt (s_xgetf (zo_C34 hZ) (Or.inl rfl) zw4663 dJ0_isLatin1_aae02_7 (wJ0_isLatin1_aae02_10 hZ)) (s_alt (s_xgetf (zo_C36 hZ) (Or.inl rfl) zw4663 dJ0_isLatin1_aae02_7 (wJ0_isLatin1_aae02_10 hZ)) (s_alt (s_xgetf (zo_C38 hZ) (Or.inl rfl) zw4663 dJ0_isLatin1_aae02_7 (wJ0_isLatin1_aae02_10 hZ)) (s_alt (s_xgetf (zo_C40 hZ) (Or.inl rfl) zw4663 dJ0_isLatin1_aae02_7 (wJ0_isLatin1_aae02_10 hZ)) (s_alt (s_xgetf (zo_C42 hZ) (Or.inl rfl) zw4663 dJ0_isLatin1_aae02_7 (wJ0_isLatin1_aae02_10 hZ)) (s_alt (s_xgetf (zo_C44 hZ) (Or.inl rfl) zw4663 dJ0_isLatin1_aae02_7 (wJ0_isLatin1_aae02_10 hZ)) (s_alt (s_xgetf (zo_C46 hZ) (Or.inl rfl) zw4663 dJ0_isLatin1_aae02_7 (wJ0_isLatin1_aae02_10 hZ)) (s_alt (s_xgetf (zo_C48 hZ) (Or.inl rfl) zw4663 dJ0_isLatin1_aae02_7 (wJ0_isLatin1_aae02_10 hZ)) (s_alt (s_xgetf (zo_C50 hZ) (Or.inl rfl) zw4663 dJ0_isLatin1_aae02_7 (wJ0_isLatin1_aae02_10 hZ)) (s_alt (s_xgetf (zo_C52 hZ) (Or.inl rfl) zw4663 dJ0_isLatin1_aae02_7 (wJ0_isLatin1_aae02_10 hZ)) (s_alt (s_xgetf (zo_C54 hZ) (Or.inl rfl) zw4663 dJ0_isLatin1_aae02_7 (wJ0_isLatin1_aae02_10 hZ)) (s_alt (s_xgetf (zo_C56 hZ) (Or.inl rfl) zw4663 dJ0_isLatin1_aae02_7 (wJ0_isLatin1_aae02_10 hZ)) (s_alt (s_xgetf (zo_C58 hZ) (Or.inl rfl) zw4663 dJ0_isLatin1_aae02_7 (wJ0_isLatin1_aae02_10 hZ)) (s_alt (s_xgetf (zo_C60 hZ) (Or.inl rfl) zw4663 dJ0_isLatin1_aae02_7 (wJ0_isLatin1_aae02_10 hZ)) (s_alt (s_xgetf (zo_C62 hZ) (Or.inl rfl) zw4663 dJ0_isLatin1_aae02_7 (wJ0_isLatin1_aae02_10 hZ)) (s_alt (s_xgetf (zo_C64 hZ) (Or.inl rfl) zw4663 dJ0_isLatin1_aae02_7 (wJ0_isLatin1_aae02_10 hZ)) (s_alt (s_xgetf (zo_C66 hZ) (Or.inl rfl) zw4663 dJ0_isLatin1_aae02_7 (wJ0_isLatin1_aae02_10 hZ)) (s_alt (s_xgetf (zo_C68 hZ) (Or.inl rfl) zw4663 dJ0_isLatin1_aae02_7 (wJ0_isLatin1_aae02_10 hZ)) (s_alt (s_xgetf (zo_C70 hZ) (Or.inl rfl) zw4663 dJ0_isLatin1_aae02_7 (wJ0_isLatin1_aae02_10 hZ)) (s_alt (s_xgetf (zo_C72 hZ) (Or.inl rfl) zw4663 dJ0_isLatin1_aae02_7 (wJ0_isLatin1_aae02_10 hZ)) (s_alt (s_xgetf (zo_C74 hZ) (Or.inl rfl) zw4663 dJ0_isLatin1_aae02_7 (wJ0_isLatin1_aae02_10 hZ)) (s_alt (s_xgetf (zo_C76 hZ) (Or.inl rfl) zw4663 dJ0_isLatin1_aae02_7 (wJ0_isLatin1_aae02_10 hZ)) (s_alt (s_xgetf (zo_C78 hZ) (Or.inl rfl) zw4663 dJ0_isLatin1_aae02_7 (wJ0_isLatin1_aae02_10 hZ)) (s_alt (s_xgetf (zo_C80 hZ) (Or.inl rfl) zw4663 dJ0_isLatin1_aae02_7 (wJ0_isLatin1_aae02_10 hZ)) (s_alt (s_xgetf (zo_C82 hZ) (Or.inl rfl) zw4663 dJ0_isLatin1_aae02_7 (wJ0_isLatin1_aae02_10 hZ)) (s_alt (s_xgetf (zo_C84 hZ) (Or.inl rfl) zw4663 dJ0_isLatin1_aae02_7 (wJ0_isLatin1_aae02_10 hZ)) (s_alt (s_xgetf (zo_C86 hZ) (Or.inl rfl) zw4663 dJ0_isLatin1_aae02_7 (wJ0_isLatin1_aae02_10 hZ)) (s_alt (s_xgetf (zo_C88 hZ) (Or.inl rfl) zw4663 dJ0_isLatin1_aae02_7 (wJ0_isLatin1_aae02_10 hZ)) (s_alt (s_xgetf (zo_C90 hZ) (Or.inl rfl) zw4663 dJ0_isLatin1_aae02_7 (wJ0_isLatin1_aae02_10 hZ)) (s_alt (s_xgetf (zo_C92 hZ) (Or.inl rfl) zw4663 dJ0_isLatin1_aae02_7 (wJ0_isLatin1_aae02_10 hZ)) (s_alt (s_xgetf (zo_C94 hZ) (Or.inl rfl) zw4663 dJ0_isLatin1_aae02_7 (wJ0_isLatin1_aae02_10 hZ)) (s_alt (s_xgetf (zo_C96 hZ) (Or.inl rfl) zw4663 dJ0_isLatin1_aae02_7 (wJ0_isLatin1_aae02_10 hZ)) (s_alt (s_xgetf (zo_C98 hZ) (Or.inl rfl) zw4663 dJ0_isLatin1_aae02_7 (wJ0_isLatin1_aae02_10 hZ)) (s_alt (s_xgetf (zo_C100 hZ) (Or.inl rfl) zw4663 dJ0_isLatin1_aae02_7 (wJ0_isLatin1_aae02_10 hZ)) (s_alt (s_xgetf (zo_C102 hZ) (Or.inl rfl) zw4663 dJ0_isLatin1_aae02_7 (wJ0_isLatin1_aae02_10 hZ)) (s_alt (s_xgetf (zo_C104 hZ) (Or.inl rfl) zw4663 dJ0_isLatin1_aae02_7 (wJ0_isLatin1_aae02_10 hZ)) (s_alt (s_xgetf (zo_C106 hZ) (Or.inl rfl) zw4663 dJ0_isLatin1_aae02_7 (wJ0_isLatin1_aae02_10 hZ)) (s_alt (s_xgetf (zo_C108 hZ) (Or.inl rfl) zw4663 dJ0_isLatin1_aae02_7 (wJ0_isLatin1_aae02_10 hZ)) (s_alt (s_xgetf (zo_C110 hZ) (Or.inl rfl) zw4663 dJ0_isLatin1_aae02_7 (wJ0_isLatin1_aae02_10 hZ)) (s_alt (s_xgetf (zo_C112 hZ) (Or.inl rfl) zw4663 dJ0_isLatin1_aae02_7 (wJ0_isLatin1_aae02_10 hZ)) (s_alt (s_xgetf (zo_C114 hZ) (Or.inl rfl) zw4663 dJ0_isLatin1_aae02_7 (wJ0_isLatin1_aae02_10 hZ)) (s_alt (s_xgetf (zo_C116 hZ) (Or.inl rfl) zw4663 dJ0_isLatin1_aae02_7 (wJ0_isLatin1_aae02_10 hZ)) (s_alt (s_xgetf (zo_C118 hZ) (Or.inl rfl) zw4663 dJ0_isLatin1_aae02_7 (wJ0_isLatin1_aae02_10 hZ)) (s_alt (s_xgetf (zo_C120 hZ) (Or.inl rfl) zw4663 dJ0_isLatin1_aae02_7 (wJ0_isLatin1_aae02_10 hZ)) (s_alt (s_xgetf (zo_C122 hZ) (Or.inl rfl) zw4663 dJ0_isLatin1_aae02_7 (wJ0_isLatin1_aae02_10 hZ)) (s_alt (s_xgetf (zo_C124 hZ) (Or.inl rfl) zw4663 dJ0_isLatin1_aae02_7 (wJ0_isLatin1_aae02_10 hZ)) (s_alt (s_xgetf (zo_C126 hZ) (Or.inl rfl) zw4663 dJ0_isLatin1_aae02_7 (wJ0_isLatin1_aae02_10 hZ)) (s_alt (s_xgetf (zo_C128 hZ) (Or.inl rfl) zw4663 dJ0_isLatin1_aae02_7 (wJ0_isLatin1_aae02_10 hZ)) (s_alt (s_xgetf (zo_C130 hZ) (Or.inl rfl) zw4663 dJ0_isLatin1_aae02_7 (wJ0_isLatin1_aae02_10 hZ)) (s_alt (s_xgetf (zo_C132 hZ) (Or.inl rfl) zw4663 dJ0_isLatin1_aae02_7 (wJ0_isLatin1_aae02_10 hZ)) (s_alt (s_xgetf (zo_C134 hZ) (Or.inl rfl) zw4663 dJ0_isLatin1_aae02_7 (wJ0_isLatin1_aae02_10 hZ)) (s_alt (s_xgetf (zo_C136 hZ) (Or.inl rfl) zw4663 dJ0_isLatin1_aae02_7 (wJ0_isLatin1_aae02_10 hZ)) (s_alt (s_xgetf (zo_C138 hZ) (Or.inl rfl) zw4663 dJ0_isLatin1_aae02_7 (wJ0_isLatin1_aae02_10 hZ)) (s_alt (s_xgetf (zo_C140 hZ) (Or.inl rfl) zw4663 dJ0_isLatin1_aae02_7 (wJ0_isLatin1_aae02_10 hZ)) (s_alt (s_xgetf (zo_C142 hZ) (Or.inl rfl) zw4663 dJ0_isLatin1_aae02_7 (wJ0_isLatin1_aae02_10 hZ)) (s_alt (s_xgetf (zo_C144 hZ) (Or.inl rfl) zw4663 dJ0_isLatin1_aae02_7 (wJ0_isLatin1_aae02_10 hZ)) (s_alt (s_xgetf (zo_C148 hZ) (Or.inl rfl) zw4663 dJ0_isLatin1_aae02_7 (wJ0_isLatin1_aae02_10 hZ)) (s_alt (s_xgetf (zo_C150 hZ) (Or.inl rfl) zw4663 dJ0_isLatin1_aae02_7 (wJ0_isLatin1_aae02_10 hZ)) (s_alt (s_xgetf (zo_C152 hZ) (Or.inl rfl) zw4663 dJ0_isLatin1_aae02_7 (wJ0_isLatin1_aae02_10 hZ)) (s_alt (s_xgetf (zo_C154 hZ) (Or.inl rfl) zw4663 dJ0_isLatin1_aae02_7 (wJ0_isLatin1_aae02_10 hZ)) (s_alt (s_xgetf (zo_C156 hZ) (Or.inl rfl) zw4663 dJ0_isLatin1_aae02_7 (wJ0_isLatin1_aae02_10 hZ)) (s_alt (s_xgetf (zo_C158 hZ) (Or.inl rfl) zw4663 dJ0_isLatin1_aae02_7 (wJ0_isLatin1_aae02_10 hZ)) s_none)))))))))))))))))))))))))))))))))))))))))))))))))))))))))))))))))))))))))))
noncomputable def vJ0_isLatin1_aae02_0 : rx_K := o_const 8 (o_c1 rx_eq o_none vJ0_isLatin1_aae02_6)
set_option maxRecDepth 20000 in
theorem wJ0_isLatin1_aae02_0 (hZ : zO b e D A X) : rx_OK (zV b e D A X) mJ0_isLatin1_aae02 0 0 vJ0_isLatin1_aae02_0 := by
  unfold vJ0_isLatin1_aae02_0
  refine s_gets (c := 8) (zo_K hZ) (Or.inl rfl) zw538 dJ0_isLatin1_aae02_0 ?_
  exact s_if_eq dJ0_isLatin1_aae02_3 (by decide) (s_none (pc := 17)) (wJ0_isLatin1_aae02_6 hZ)
noncomputable def FJ0_isLatin1_aae02 : List Nat → rx_H → Option (Nat × rx_H) := rx_ent 1 vJ0_isLatin1_aae02_0
theorem Met_J0_isLatin1_aae02 (hZ : zO b e D A X) : rx_Met (zV b e D A X) 0 yJ0_isLatin1_aae02 mJ0_isLatin1_aae02 (FJ0_isLatin1_aae02) := rx_entry hZ.1 (wJ0_isLatin1_aae02_0 hZ) (by decide +kernel) rfl (fun h => by cases h)
abbrev mJ3_checkIndex_8e157 : rx_M := (RJ3, cJ3_checkIndex_8e157, 3, (some .int), false)
theorem vy_J3_checkIndex_8e157 : rx_Y (zV b e D A X) yJ3_checkIndex_8e157 mJ3_checkIndex_8e157 3 := ⟨zw558, zw418, by decide, by decide +kernel, by decide +kernel, by decide +kernel⟩
noncomputable def vJ3_checkIndex_8e157_16 : rx_K := o_ld rx_isI 0 (o_ret1 rx_isI)
set_option maxRecDepth 20000 in
theorem wJ3_checkIndex_8e157_16 (hZ : zO b e D A X) : rx_OK (zV b e D A X) mJ3_checkIndex_8e157 0 16 vJ3_checkIndex_8e157_16 := by
  unfold vJ3_checkIndex_8e157_16
  refine s_iload_n hZ.1 dJ3_checkIndex_8e157_16 rfl ?_
  exact s_iret hZ.1 rfl dJ3_checkIndex_8e157_17
noncomputable def vJ3_checkIndex_8e157_4 : rx_K := o_ld rx_isI 0 (o_ld rx_isI 1 (o_c2 rx_lt vJ3_checkIndex_8e157_16 o_none))
set_option maxRecDepth 20000 in
theorem wJ3_checkIndex_8e157_4 (hZ : zO b e D A X) : rx_OK (zV b e D A X) mJ3_checkIndex_8e157 0 4 vJ3_checkIndex_8e157_4 := by
  unfold vJ3_checkIndex_8e157_4
  refine s_iload_n hZ.1 dJ3_checkIndex_8e157_4 rfl ?_
  refine s_iload_n hZ.1 dJ3_checkIndex_8e157_5 rfl ?_
  exact s_icmp_lt dJ3_checkIndex_8e157_6 (by decide) (wJ3_checkIndex_8e157_16 hZ) (s_none (pc := 9))
noncomputable def vJ3_checkIndex_8e157_0 : rx_K := o_ld rx_isI 0 (o_c1 rx_lt o_none vJ3_checkIndex_8e157_4)
set_option maxRecDepth 20000 in
theorem wJ3_checkIndex_8e157_0 (hZ : zO b e D A X) : rx_OK (zV b e D A X) mJ3_checkIndex_8e157 0 0 vJ3_checkIndex_8e157_0 := by
  unfold vJ3_checkIndex_8e157_0
  refine s_iload_n hZ.1 dJ3_checkIndex_8e157_0 rfl ?_
  exact s_if_lt dJ3_checkIndex_8e157_1 (by decide) (s_none (pc := 9)) (wJ3_checkIndex_8e157_4 hZ)
noncomputable def FJ3_checkIndex_8e157 : List Nat → rx_H → Option (Nat × rx_H) := rx_ent 3 vJ3_checkIndex_8e157_0
theorem Met_J3_checkIndex_8e157 (hZ : zO b e D A X) : rx_Met (zV b e D A X) 0 yJ3_checkIndex_8e157 mJ3_checkIndex_8e157 (FJ3_checkIndex_8e157) := rx_entry hZ.1 (wJ3_checkIndex_8e157_0 hZ) (by decide +kernel) rfl (fun h => by cases h)
abbrev mJ0_checkIndex_df160 : rx_M := (RJ0, cJ0_checkIndex_df160, 2, none, false)
theorem vy_J0_checkIndex_df160 : rx_Y (zV b e D A X) yJ0_checkIndex_df160 mJ0_checkIndex_df160 2 := ⟨zw553, zw416, by decide, by decide +kernel, by decide +kernel, by decide +kernel⟩
noncomputable def vJ0_checkIndex_df160_0 : rx_K := o_ld rx_isI 0 (o_ld rx_isI 1 (o_const 44 (o_callS 3 FJ3_checkIndex_8e157 (o_pop (o_ret0)))))
set_option maxRecDepth 20000 in
theorem wJ0_checkIndex_df160_0 (hZ : zO b e D A X) : rx_OK (zV b e D A X) mJ0_checkIndex_df160 1 0 vJ0_checkIndex_df160_0 := by
  unfold vJ0_checkIndex_df160_0
  refine s_iload_n hZ.1 dJ0_checkIndex_df160_0 rfl ?_
  refine s_iload_n hZ.1 dJ0_checkIndex_df160_1 rfl ?_
  refine s_gets (c := 44) (zo_F hZ) (Or.inl rfl) zw554 dJ0_checkIndex_df160_2 ?_
  refine s_callS hZ.1 (Met_J3_checkIndex_8e157 hZ) (Nat.le_of_ble_eq_true rfl) vy_J3_checkIndex_8e157 zw557 (Or.inl zw556) dJ0_checkIndex_df160_5 ?_
  refine s_pop hZ.1 dJ0_checkIndex_df160_8 ?_
  exact s_vret rfl dJ0_checkIndex_df160_9
noncomputable def FJ0_checkIndex_df160 : List Nat → rx_H → Option (Nat × rx_H) := rx_ent 2 vJ0_checkIndex_df160_0
theorem Met_J0_checkIndex_df160 (hZ : zO b e D A X) : rx_Met (zV b e D A X) 1 yJ0_checkIndex_df160 mJ0_checkIndex_df160 (FJ0_checkIndex_df160) := rx_entry hZ.1 (wJ0_checkIndex_df160_0 hZ) (by decide +kernel) rfl (fun h => by cases h)
abbrev mJ1_charAt_3b067 : rx_M := (RJ1, cJ1_charAt_3b067, 2, (some .char), false)
theorem vy_J1_charAt_3b067 : rx_Y (zV b e D A X) yJ1_charAt_3b067 mJ1_charAt_3b067 2 := ⟨zw550, zw417, by decide, by decide +kernel, by decide +kernel, by decide +kernel⟩
noncomputable def vJ1_charAt_3b067_9 : rx_K := o_const 2040 (o_bi (fun x y => x &&& y) (o_ui (fun x => (x.toUInt32 % 65536).toInt32) (o_ret1 rx_isC)))
set_option maxRecDepth 20000 in
theorem wJ1_charAt_3b067_9 (hZ : zO b e D A X) : rx_OK (zV b e D A X) mJ1_charAt_3b067 2 9 vJ1_charAt_3b067_9 := by
  unfold vJ1_charAt_3b067_9
  refine s_sipush dJ1_charAt_3b067_9 (by decide +kernel) ?_
  refine s_iand dJ1_charAt_3b067_12 ?_
  refine s_i2c dJ1_charAt_3b067_13 ?_
  exact s_zret rx_c_ok rfl dJ1_charAt_3b067_14
noncomputable def vJ1_charAt_3b067_3 : rx_K := o_callS 2 FJ0_checkIndex_df160 (o_ld rx_isR 0 (o_ld rx_isI 1 (o_alt (zq1 7) (o_xald 7 zbs7 (vJ1_charAt_3b067_9)) (o_alt (zq1 9) (o_xald 9 zbs9 (vJ1_charAt_3b067_9)) (o_alt (zq1 11) (o_xald 11 zbs11 (vJ1_charAt_3b067_9)) (o_alt (zq1 13) (o_xald 13 zbs13 (vJ1_charAt_3b067_9)) (o_alt (zq1 15) (o_xald 15 zbs15 (vJ1_charAt_3b067_9)) (o_alt (zq1 17) (o_xald 17 zbs17 (vJ1_charAt_3b067_9)) (o_alt (zq1 19) (o_xald 19 zbs19 (vJ1_charAt_3b067_9)) (o_alt (zq1 21) (o_xald 21 zbs21 (vJ1_charAt_3b067_9)) (o_alt (zq1 23) (o_xald 23 zbs23 (vJ1_charAt_3b067_9)) (o_alt (zq1 25) (o_xald 25 zbs25 (vJ1_charAt_3b067_9)) (o_alt (zq1 27) (o_xald 27 zbs27 (vJ1_charAt_3b067_9)) (o_alt (zq1 31) (o_xald 31 zbs31 (vJ1_charAt_3b067_9)) (o_alt (zq1 33) (o_xald 33 zbs33 (vJ1_charAt_3b067_9)) (o_alt (zq1 35) (o_xald 35 zbs35 (vJ1_charAt_3b067_9)) (o_alt (zq1 37) (o_xald 37 zbs37 (vJ1_charAt_3b067_9)) (o_alt (zq1 39) (o_xald 39 zbs39 (vJ1_charAt_3b067_9)) (o_alt (zq1 41) (o_xald 41 zbs41 (vJ1_charAt_3b067_9)) (o_alt (zq1 43) (o_xald 43 zbs43 (vJ1_charAt_3b067_9)) (o_alt (zq1 45) (o_xald 45 zbs45 (vJ1_charAt_3b067_9)) (o_alt (zq1 47) (o_xald 47 zbs47 (vJ1_charAt_3b067_9)) (o_alt (zq1 49) (o_xald 49 zbs49 (vJ1_charAt_3b067_9)) (o_alt (zq1 51) (o_xald 51 zbs51 (vJ1_charAt_3b067_9)) (o_alt (zq1 53) (o_xald 53 zbs53 (vJ1_charAt_3b067_9)) (o_alt (zq1 55) (o_xald 55 zbs55 (vJ1_charAt_3b067_9)) (o_alt (zq1 57) (o_xald 57 zbs57 (vJ1_charAt_3b067_9)) (o_alt (zq1 59) (o_xald 59 zbs59 (vJ1_charAt_3b067_9)) (o_alt (zq1 61) (o_xald 61 zbs61 (vJ1_charAt_3b067_9)) (o_alt (zq1 63) (o_xald 63 zbs63 (vJ1_charAt_3b067_9)) (o_alt (zq1 65) (o_xald 65 zbs65 (vJ1_charAt_3b067_9)) (o_alt (zq1 67) (o_xald 67 zbs67 (vJ1_charAt_3b067_9)) (o_alt (zq1 69) (o_xald 69 zbs69 (vJ1_charAt_3b067_9)) (o_alt (zq1 71) (o_xald 71 zbs71 (vJ1_charAt_3b067_9)) (o_alt (zq1 73) (o_xald 73 zbs73 (vJ1_charAt_3b067_9)) (o_alt (zq1 75) (o_xald 75 zbs75 (vJ1_charAt_3b067_9)) (o_alt (zq1 77) (o_xald 77 zbs77 (vJ1_charAt_3b067_9)) (o_alt (zq1 79) (o_xald 79 zbs79 (vJ1_charAt_3b067_9)) (o_alt (zq1 81) (o_xald 81 zbs81 (vJ1_charAt_3b067_9)) (o_alt (zq1 83) (o_xald 83 zbs83 (vJ1_charAt_3b067_9)) (o_alt (zq1 85) (o_xald 85 zbs85 (vJ1_charAt_3b067_9)) (o_alt (zq1 87) (o_xald 87 zbs87 (vJ1_charAt_3b067_9)) (o_alt (zq1 89) (o_xald 89 zbs89 (vJ1_charAt_3b067_9)) (o_alt (zq1 91) (o_xald 91 zbs91 (vJ1_charAt_3b067_9)) (o_alt (zq1 93) (o_xald 93 zbs93 (vJ1_charAt_3b067_9)) (o_alt (zq1 95) (o_xald 95 zbs95 (vJ1_charAt_3b067_9)) (o_alt (zq1 97) (o_xald 97 zbs97 (vJ1_charAt_3b067_9)) (o_alt (zq1 99) (o_xald 99 zbs99 (vJ1_charAt_3b067_9)) (o_alt (zq1 101) (o_xald 101 zbs101 (vJ1_charAt_3b067_9)) (o_alt (zq1 103) (o_xald 103 zbs103 (vJ1_charAt_3b067_9)) (o_alt (zq1 105) (o_xald 105 zbs105 (vJ1_charAt_3b067_9)) (o_alt (zq1 107) (o_xald 107 zbs107 (vJ1_charAt_3b067_9)) (o_alt (zq1 109) (o_xald 109 zbs109 (vJ1_charAt_3b067_9)) (o_alt (zq1 111) (o_xald 111 zbs111 (vJ1_charAt_3b067_9)) (o_alt (zq1 113) (o_xald 113 zbs113 (vJ1_charAt_3b067_9)) (o_alt (zq1 115) (o_xald 115 zbs115 (vJ1_charAt_3b067_9)) (o_alt (zq1 117) (o_xald 117 zbs117 (vJ1_charAt_3b067_9)) (o_alt (zq1 119) (o_xald 119 zbs119 (vJ1_charAt_3b067_9)) (o_alt (zq1 121) (o_xald 121 zbs121 (vJ1_charAt_3b067_9)) (o_alt (zq1 123) (o_xald 123 zbs123 (vJ1_charAt_3b067_9)) (o_alt (zq1 125) (o_xald 125 zbs125 (vJ1_charAt_3b067_9)) (o_alt (zq1 127) (o_xald 127 zbs127 (vJ1_charAt_3b067_9)) (o_alt (zq1 129) (o_xald 129 zbs129 (vJ1_charAt_3b067_9)) (o_alt (zq1 131) (o_xald 131 zbs131 (vJ1_charAt_3b067_9)) (o_alt (zq1 133) (o_xald 133 zbs133 (vJ1_charAt_3b067_9)) (o_alt (zq1 135) (o_xald 135 zbs135 (vJ1_charAt_3b067_9)) (o_alt (zq1 137) (o_xald 137 zbs137 (vJ1_charAt_3b067_9)) (o_alt (zq1 139) (o_xald 139 zbs139 (vJ1_charAt_3b067_9)) (o_alt (zq1 141) (o_xald 141 zbs141 (vJ1_charAt_3b067_9)) (o_alt (zq1 143) (o_xald 143 zbs143 (vJ1_charAt_3b067_9)) (o_alt (zq1 145) (o_xald 145 zbs145 (vJ1_charAt_3b067_9)) (o_alt (zq1 149) (o_xald 149 zbs149 (vJ1_charAt_3b067_9)) (o_alt (zq1 151) (o_xald 151 zbs151 (vJ1_charAt_3b067_9)) (o_alt (zq1 153) (o_xald 153 zbs153 (vJ1_charAt_3b067_9)) (o_alt (zq1 155) (o_xald 155 zbs155 (vJ1_charAt_3b067_9)) (o_alt (zq1 157) (o_xald 157 zbs157 (vJ1_charAt_3b067_9)) (o_alt (zq1 159) (o_xald 159 zbs159 (vJ1_charAt_3b067_9)) (o_none))))))))))))))))))))))))))))))))))))))))))))))))))))))))))))))))))))))))))))))
set_option maxRecDepth 20000 in
theorem wJ1_charAt_3b067_3 (hZ : zO b e D A X) : rx_OK (zV b e D A X) mJ1_charAt_3b067 2 3 vJ1_charAt_3b067_3 := by
  unfold vJ1_charAt_3b067_3
  refine s_callS hZ.1 (Met_J0_checkIndex_df160 hZ) (Nat.le_of_ble_eq_true rfl) vy_J0_checkIndex_df160 zw552 (Or.inl zw551) dJ1_charAt_3b067_3 ?_
  refine s_aload_n hZ.1 dJ1_charAt_3b067_6 rfl ?_
  refine s_iload_n hZ.1 dJ1_charAt_3b067_7 rfl ?_
  exact (s_alt (s_xbald (by decide +kernel) (zo_B7 hZ) dJ1_charAt_3b067_8 (wJ1_charAt_3b067_9 hZ)) (s_alt (s_xbald (by decide +kernel) (zo_B9 hZ) dJ1_charAt_3b067_8 (wJ1_charAt_3b067_9 hZ)) (s_alt (s_xbald (by decide +kernel) (zo_B11 hZ) dJ1_charAt_3b067_8 (wJ1_charAt_3b067_9 hZ)) (s_alt (s_xbald (by decide +kernel) (zo_B13 hZ) dJ1_charAt_3b067_8 (wJ1_charAt_3b067_9 hZ)) (s_alt (s_xbald (by decide +kernel) (zo_B15 hZ) dJ1_charAt_3b067_8 (wJ1_charAt_3b067_9 hZ)) (s_alt (s_xbald (by decide +kernel) (zo_B17 hZ) dJ1_charAt_3b067_8 (wJ1_charAt_3b067_9 hZ)) (s_alt (s_xbald (by decide +kernel) (zo_B19 hZ) dJ1_charAt_3b067_8 (wJ1_charAt_3b067_9 hZ)) (s_alt (s_xbald (by decide +kernel) (zo_B21 hZ) dJ1_charAt_3b067_8 (wJ1_charAt_3b067_9 hZ)) (s_alt (s_xbald (by decide +kernel) (zo_B23 hZ) dJ1_charAt_3b067_8 (wJ1_charAt_3b067_9 hZ)) (s_alt (s_xbald (by decide +kernel) (zo_B25 hZ) dJ1_charAt_3b067_8 (wJ1_charAt_3b067_9 hZ)) (s_alt (s_xbald (by decide +kernel) (zo_B27 hZ) dJ1_charAt_3b067_8 (wJ1_charAt_3b067_9 hZ)) (s_alt (s_xbald (by decide +kernel) (zo_B31 hZ) dJ1_charAt_3b067_8 (wJ1_charAt_3b067_9 hZ)) (s_alt (s_xbald (by decide +kernel) (zo_B33 hZ) dJ1_charAt_3b067_8 (wJ1_charAt_3b067_9 hZ)) (s_alt (s_xbald (by decide +kernel) (zo_B35 hZ) dJ1_charAt_3b067_8 (wJ1_charAt_3b067_9 hZ)) (s_alt (s_xbald (by decide +kernel) (zo_B37 hZ) dJ1_charAt_3b067_8 (wJ1_charAt_3b067_9 hZ)) (s_alt (s_xbald (by decide +kernel) (zo_B39 hZ) dJ1_charAt_3b067_8 (wJ1_charAt_3b067_9 hZ)) (s_alt (s_xbald (by decide +kernel) (zo_B41 hZ) dJ1_charAt_3b067_8 (wJ1_charAt_3b067_9 hZ)) (s_alt (s_xbald (by decide +kernel) (zo_B43 hZ) dJ1_charAt_3b067_8 (wJ1_charAt_3b067_9 hZ)) (s_alt (s_xbald (by decide +kernel) (zo_B45 hZ) dJ1_charAt_3b067_8 (wJ1_charAt_3b067_9 hZ)) (s_alt (s_xbald (by decide +kernel) (zo_B47 hZ) dJ1_charAt_3b067_8 (wJ1_charAt_3b067_9 hZ)) (s_alt (s_xbald (by decide +kernel) (zo_B49 hZ) dJ1_charAt_3b067_8 (wJ1_charAt_3b067_9 hZ)) (s_alt (s_xbald (by decide +kernel) (zo_B51 hZ) dJ1_charAt_3b067_8 (wJ1_charAt_3b067_9 hZ)) (s_alt (s_xbald (by decide +kernel) (zo_B53 hZ) dJ1_charAt_3b067_8 (wJ1_charAt_3b067_9 hZ)) (s_alt (s_xbald (by decide +kernel) (zo_B55 hZ) dJ1_charAt_3b067_8 (wJ1_charAt_3b067_9 hZ)) (s_alt (s_xbald (by decide +kernel) (zo_B57 hZ) dJ1_charAt_3b067_8 (wJ1_charAt_3b067_9 hZ)) (s_alt (s_xbald (by decide +kernel) (zo_B59 hZ) dJ1_charAt_3b067_8 (wJ1_charAt_3b067_9 hZ)) (s_alt (s_xbald (by decide +kernel) (zo_B61 hZ) dJ1_charAt_3b067_8 (wJ1_charAt_3b067_9 hZ)) (s_alt (s_xbald (by decide +kernel) (zo_B63 hZ) dJ1_charAt_3b067_8 (wJ1_charAt_3b067_9 hZ)) (s_alt (s_xbald (by decide +kernel) (zo_B65 hZ) dJ1_charAt_3b067_8 (wJ1_charAt_3b067_9 hZ)) (s_alt (s_xbald (by decide +kernel) (zo_B67 hZ) dJ1_charAt_3b067_8 (wJ1_charAt_3b067_9 hZ)) (s_alt (s_xbald (by decide +kernel) (zo_B69 hZ) dJ1_charAt_3b067_8 (wJ1_charAt_3b067_9 hZ)) (s_alt (s_xbald (by decide +kernel) (zo_B71 hZ) dJ1_charAt_3b067_8 (wJ1_charAt_3b067_9 hZ)) (s_alt (s_xbald (by decide +kernel) (zo_B73 hZ) dJ1_charAt_3b067_8 (wJ1_charAt_3b067_9 hZ)) (s_alt (s_xbald (by decide +kernel) (zo_B75 hZ) dJ1_charAt_3b067_8 (wJ1_charAt_3b067_9 hZ)) (s_alt (s_xbald (by decide +kernel) (zo_B77 hZ) dJ1_charAt_3b067_8 (wJ1_charAt_3b067_9 hZ)) (s_alt (s_xbald (by decide +kernel) (zo_B79 hZ) dJ1_charAt_3b067_8 (wJ1_charAt_3b067_9 hZ)) (s_alt (s_xbald (by decide +kernel) (zo_B81 hZ) dJ1_charAt_3b067_8 (wJ1_charAt_3b067_9 hZ)) (s_alt (s_xbald (by decide +kernel) (zo_B83 hZ) dJ1_charAt_3b067_8 (wJ1_charAt_3b067_9 hZ)) (s_alt (s_xbald (by decide +kernel) (zo_B85 hZ) dJ1_charAt_3b067_8 (wJ1_charAt_3b067_9 hZ)) (s_alt (s_xbald (by decide +kernel) (zo_B87 hZ) dJ1_charAt_3b067_8 (wJ1_charAt_3b067_9 hZ)) (s_alt (s_xbald (by decide +kernel) (zo_B89 hZ) dJ1_charAt_3b067_8 (wJ1_charAt_3b067_9 hZ)) (s_alt (s_xbald (by decide +kernel) (zo_B91 hZ) dJ1_charAt_3b067_8 (wJ1_charAt_3b067_9 hZ)) (s_alt (s_xbald (by decide +kernel) (zo_B93 hZ) dJ1_charAt_3b067_8 (wJ1_charAt_3b067_9 hZ)) (s_alt (s_xbald (by decide +kernel) (zo_B95 hZ) dJ1_charAt_3b067_8 (wJ1_charAt_3b067_9 hZ)) (s_alt (s_xbald (by decide +kernel) (zo_B97 hZ) dJ1_charAt_3b067_8 (wJ1_charAt_3b067_9 hZ)) (s_alt (s_xbald (by decide +kernel) (zo_B99 hZ) dJ1_charAt_3b067_8 (wJ1_charAt_3b067_9 hZ)) (s_alt (s_xbald (by decide +kernel) (zo_B101 hZ) dJ1_charAt_3b067_8 (wJ1_charAt_3b067_9 hZ)) (s_alt (s_xbald (by decide +kernel) (zo_B103 hZ) dJ1_charAt_3b067_8 (wJ1_charAt_3b067_9 hZ)) (s_alt (s_xbald (by decide +kernel) (zo_B105 hZ) dJ1_charAt_3b067_8 (wJ1_charAt_3b067_9 hZ)) (s_alt (s_xbald (by decide +kernel) (zo_B107 hZ) dJ1_charAt_3b067_8 (wJ1_charAt_3b067_9 hZ)) (s_alt (s_xbald (by decide +kernel) (zo_B109 hZ) dJ1_charAt_3b067_8 (wJ1_charAt_3b067_9 hZ)) (s_alt (s_xbald (by decide +kernel) (zo_B111 hZ) dJ1_charAt_3b067_8 (wJ1_charAt_3b067_9 hZ)) (s_alt (s_xbald (by decide +kernel) (zo_B113 hZ) dJ1_charAt_3b067_8 (wJ1_charAt_3b067_9 hZ)) (s_alt (s_xbald (by decide +kernel) (zo_B115 hZ) dJ1_charAt_3b067_8 (wJ1_charAt_3b067_9 hZ)) (s_alt (s_xbald (by decide +kernel) (zo_B117 hZ) dJ1_charAt_3b067_8 (wJ1_charAt_3b067_9 hZ)) (s_alt (s_xbald (by decide +kernel) (zo_B119 hZ) dJ1_charAt_3b067_8 (wJ1_charAt_3b067_9 hZ)) (s_alt (s_xbald (by decide +kernel) (zo_B121 hZ) dJ1_charAt_3b067_8 (wJ1_charAt_3b067_9 hZ)) (s_alt (s_xbald (by decide +kernel) (zo_B123 hZ) dJ1_charAt_3b067_8 (wJ1_charAt_3b067_9 hZ)) (s_alt (s_xbald (by decide +kernel) (zo_B125 hZ) dJ1_charAt_3b067_8 (wJ1_charAt_3b067_9 hZ)) (s_alt (s_xbald (by decide +kernel) (zo_B127 hZ) dJ1_charAt_3b067_8 (wJ1_charAt_3b067_9 hZ)) (s_alt (s_xbald (by decide +kernel) (zo_B129 hZ) dJ1_charAt_3b067_8 (wJ1_charAt_3b067_9 hZ)) (s_alt (s_xbald (by decide +kernel) (zo_B131 hZ) dJ1_charAt_3b067_8 (wJ1_charAt_3b067_9 hZ)) (s_alt (s_xbald (by decide +kernel) (zo_B133 hZ) dJ1_charAt_3b067_8 (wJ1_charAt_3b067_9 hZ)) (s_alt (s_xbald (by decide +kernel) (zo_B135 hZ) dJ1_charAt_3b067_8 (wJ1_charAt_3b067_9 hZ)) (s_alt (s_xbald (by decide +kernel) (zo_B137 hZ) dJ1_charAt_3b067_8 (wJ1_charAt_3b067_9 hZ)) (s_alt (s_xbald (by decide +kernel) (zo_B139 hZ) dJ1_charAt_3b067_8 (wJ1_charAt_3b067_9 hZ)) (s_alt (s_xbald (by decide +kernel) (zo_B141 hZ) dJ1_charAt_3b067_8 (wJ1_charAt_3b067_9 hZ)) (s_alt (s_xbald (by decide +kernel) (zo_B143 hZ) dJ1_charAt_3b067_8 (wJ1_charAt_3b067_9 hZ)) (s_alt (s_xbald (by decide +kernel) (zo_B145 hZ) dJ1_charAt_3b067_8 (wJ1_charAt_3b067_9 hZ)) (s_alt (s_xbald (by decide +kernel) (zo_B149 hZ) dJ1_charAt_3b067_8 (wJ1_charAt_3b067_9 hZ)) (s_alt (s_xbald (by decide +kernel) (zo_B151 hZ) dJ1_charAt_3b067_8 (wJ1_charAt_3b067_9 hZ)) (s_alt (s_xbald (by decide +kernel) (zo_B153 hZ) dJ1_charAt_3b067_8 (wJ1_charAt_3b067_9 hZ)) (s_alt (s_xbald (by decide +kernel) (zo_B155 hZ) dJ1_charAt_3b067_8 (wJ1_charAt_3b067_9 hZ)) (s_alt (s_xbald (by decide +kernel) (zo_B157 hZ) dJ1_charAt_3b067_8 (wJ1_charAt_3b067_9 hZ)) (s_alt (s_xbald (by decide +kernel) (zo_B159 hZ) dJ1_charAt_3b067_8 (wJ1_charAt_3b067_9 hZ)) s_none)))))))))))))))))))))))))))))))))))))))))))))))))))))))))))))))))))))))))))
noncomputable def vJ1_charAt_3b067_0 : rx_K := o_ld rx_isI 1 (o_ld rx_isR 0 (o_alt (zq0 7) (o_xv 7 1160 (vJ1_charAt_3b067_3)) (o_alt (zq0 9) (o_xv 9 40 (vJ1_charAt_3b067_3)) (o_alt (zq0 11) (o_xv 11 48 (vJ1_charAt_3b067_3)) (o_alt (zq0 13) (o_xv 13 40 (vJ1_charAt_3b067_3)) (o_alt (zq0 15) (o_xv 15 32 (vJ1_charAt_3b067_3)) (o_alt (zq0 17) (o_xv 17 32 (vJ1_charAt_3b067_3)) (o_alt (zq0 19) (o_xv 19 32 (vJ1_charAt_3b067_3)) (o_alt (zq0 21) (o_xv 21 48 (vJ1_charAt_3b067_3)) (o_alt (zq0 23) (o_xv 23 48 (vJ1_charAt_3b067_3)) (o_alt (zq0 25) (o_xv 25 48 (vJ1_charAt_3b067_3)) (o_alt (zq0 27) (o_xv 27 40 (vJ1_charAt_3b067_3)) (o_alt (zq0 31) (o_xv 31 8 (vJ1_charAt_3b067_3)) (o_alt (zq0 33) (o_xv 33 56 (vJ1_charAt_3b067_3)) (o_alt (zq0 35) (o_xv 35 56 (vJ1_charAt_3b067_3)) (o_alt (zq0 37) (o_xv 37 24 (vJ1_charAt_3b067_3)) (o_alt (zq0 39) (o_xv 39 8 (vJ1_charAt_3b067_3)) (o_alt (zq0 41) (o_xv 41 8 (vJ1_charAt_3b067_3)) (o_alt (zq0 43) (o_xv 43 32 (vJ1_charAt_3b067_3)) (o_alt (zq0 45) (o_xv 45 32 (vJ1_charAt_3b067_3)) (o_alt (zq0 47) (o_xv 47 24 (vJ1_charAt_3b067_3)) (o_alt (zq0 49) (o_xv 49 32 (vJ1_charAt_3b067_3)) (o_alt (zq0 51) (o_xv 51 8 (vJ1_charAt_3b067_3)) (o_alt (zq0 53) (o_xv 53 8 (vJ1_charAt_3b067_3)) (o_alt (zq0 55) (o_xv 55 8 (vJ1_charAt_3b067_3)) (o_alt (zq0 57) (o_xv 57 8 (vJ1_charAt_3b067_3)) (o_alt (zq0 59) (o_xv 59 8 (vJ1_charAt_3b067_3)) (o_alt (zq0 61) (o_xv 61 24 (vJ1_charAt_3b067_3)) (o_alt (zq0 63) (o_xv 63 32 (vJ1_charAt_3b067_3)) (o_alt (zq0 65) (o_xv 65 1168 (vJ1_charAt_3b067_3)) (o_alt (zq0 67) (o_xv 67 32 (vJ1_charAt_3b067_3)) (o_alt (zq0 69) (o_xv 69 40 (vJ1_charAt_3b067_3)) (o_alt (zq0 71) (o_xv 71 32 (vJ1_charAt_3b067_3)) (o_alt (zq0 73) (o_xv 73 16 (vJ1_charAt_3b067_3)) (o_alt (zq0 75) (o_xv 75 16 (vJ1_charAt_3b067_3)) (o_alt (zq0 77) (o_xv 77 16 (vJ1_charAt_3b067_3)) (o_alt (zq0 79) (o_xv 79 32 (vJ1_charAt_3b067_3)) (o_alt (zq0 81) (o_xv 81 32 (vJ1_charAt_3b067_3)) (o_alt (zq0 83) (o_xv 83 40 (vJ1_charAt_3b067_3)) (o_alt (zq0 85) (o_xv 85 32 (vJ1_charAt_3b067_3)) (o_alt (zq0 87) (o_xv 87 24 (vJ1_charAt_3b067_3)) (o_alt (zq0 89) (o_xv 89 24 (vJ1_charAt_3b067_3)) (o_alt (zq0 91) (o_xv 91 48 (vJ1_charAt_3b067_3)) (o_alt (zq0 93) (o_xv 93 24 (vJ1_charAt_3b067_3)) (o_alt (zq0 95) (o_xv 95 40 (vJ1_charAt_3b067_3)) (o_alt (zq0 97) (o_xv 97 32 (vJ1_charAt_3b067_3)) (o_alt (zq0 99) (o_xv 99 32 (vJ1_charAt_3b067_3)) (o_alt (zq0 101) (o_xv 101 40 (vJ1_charAt_3b067_3)) (o_alt (zq0 103) (o_xv 103 24 (vJ1_charAt_3b067_3)) (o_alt (zq0 105) (o_xv 105 16 (vJ1_charAt_3b067_3)) (o_alt (zq0 107) (o_xv 107 40 (vJ1_charAt_3b067_3)) (o_alt (zq0 109) (o_xv 109 48 (vJ1_charAt_3b067_3)) (o_alt (zq0 111) (o_xv 111 40 (vJ1_charAt_3b067_3)) (o_alt (zq0 113) (o_xv 113 24 (vJ1_charAt_3b067_3)) (o_alt (zq0 115) (o_xv 115 24 (vJ1_charAt_3b067_3)) (o_alt (zq0 117) (o_xv 117 32 (vJ1_charAt_3b067_3)) (o_alt (zq0 119) (o_xv 119 40 (vJ1_charAt_3b067_3)) (o_alt (zq0 121) (o_xv 121 24 (vJ1_charAt_3b067_3)) (o_alt (zq0 123) (o_xv 123 32 (vJ1_charAt_3b067_3)) (o_alt (zq0 125) (o_xv 125 8 (vJ1_charAt_3b067_3)) (o_alt (zq0 127) (o_xv 127 40 (vJ1_charAt_3b067_3)) (o_alt (zq0 129) (o_xv 129 96 (vJ1_charAt_3b067_3)) (o_alt (zq0 131) (o_xv 131 32 (vJ1_charAt_3b067_3)) (o_alt (zq0 133) (o_xv 133 32 (vJ1_charAt_3b067_3)) (o_alt (zq0 135) (o_xv 135 32 (vJ1_charAt_3b067_3)) (o_alt (zq0 137) (o_xv 137 48 (vJ1_charAt_3b067_3)) (o_alt (zq0 139) (o_xv 139 48 (vJ1_charAt_3b067_3)) (o_alt (zq0 141) (o_xv 141 88 (vJ1_charAt_3b067_3)) (o_alt (zq0 143) (o_xv 143 40 (vJ1_charAt_3b067_3)) (o_alt (zq0 145) (o_xv 145 48 (vJ1_charAt_3b067_3)) (o_alt (zq0 149) (o_xv 149 56 (vJ1_charAt_3b067_3)) (o_alt (zq0 151) (o_xv 151 56 (vJ1_charAt_3b067_3)) (o_alt (zq0 153) (o_xv 153 48 (vJ1_charAt_3b067_3)) (o_alt (zq0 155) (o_xv 155 40 (vJ1_charAt_3b067_3)) (o_alt (zq0 157) (o_xv 157 32 (vJ1_charAt_3b067_3)) (o_alt (zq0 159) (o_xv 159 32 (vJ1_charAt_3b067_3)) (o_none)))))))))))))))))))))))))))))))))))))))))))))))))))))))))))))))))))))))))))))
set_option maxRecDepth 20000 in
theorem wJ1_charAt_3b067_0 (hZ : zO b e D A X) : rx_OK (zV b e D A X) mJ1_charAt_3b067 2 0 vJ1_charAt_3b067_0 := by
  unfold vJ1_charAt_3b067_0
  refine s_iload_n hZ.1 dJ1_charAt_3b067_0 rfl ?_
  refine s_aload_n hZ.1 dJ1_charAt_3b067_1 rfl ?_
  exact (s_alt (s_xalen (n := 145) (zo_B7 hZ) dJ1_charAt_3b067_2 (wJ1_charAt_3b067_3 hZ)) (s_alt (s_xalen (n := 5) (zo_B9 hZ) dJ1_charAt_3b067_2 (wJ1_charAt_3b067_3 hZ)) (s_alt (s_xalen (n := 6) (zo_B11 hZ) dJ1_charAt_3b067_2 (wJ1_charAt_3b067_3 hZ)) (s_alt (s_xalen (n := 5) (zo_B13 hZ) dJ1_charAt_3b067_2 (wJ1_charAt_3b067_3 hZ)) (s_alt (s_xalen (n := 4) (zo_B15 hZ) dJ1_charAt_3b067_2 (wJ1_charAt_3b067_3 hZ)) (s_alt (s_xalen (n := 4) (zo_B17 hZ) dJ1_charAt_3b067_2 (wJ1_charAt_3b067_3 hZ)) (s_alt (s_xalen (n := 4) (zo_B19 hZ) dJ1_charAt_3b067_2 (wJ1_charAt_3b067_3 hZ)) (s_alt (s_xalen (n := 6) (zo_B21 hZ) dJ1_charAt_3b067_2 (wJ1_charAt_3b067_3 hZ)) (s_alt (s_xalen (n := 6) (zo_B23 hZ) dJ1_charAt_3b067_2 (wJ1_charAt_3b067_3 hZ)) (s_alt (s_xalen (n := 6) (zo_B25 hZ) dJ1_charAt_3b067_2 (wJ1_charAt_3b067_3 hZ)) (s_alt (s_xalen (n := 5) (zo_B27 hZ) dJ1_charAt_3b067_2 (wJ1_charAt_3b067_3 hZ)) (s_alt (s_xalen (n := 1) (zo_B31 hZ) dJ1_charAt_3b067_2 (wJ1_charAt_3b067_3 hZ)) (s_alt (s_xalen (n := 7) (zo_B33 hZ) dJ1_charAt_3b067_2 (wJ1_charAt_3b067_3 hZ)) (s_alt (s_xalen (n := 7) (zo_B35 hZ) dJ1_charAt_3b067_2 (wJ1_charAt_3b067_3 hZ)) (s_alt (s_xalen (n := 3) (zo_B37 hZ) dJ1_charAt_3b067_2 (wJ1_charAt_3b067_3 hZ)) (s_alt (s_xalen (n := 1) (zo_B39 hZ) dJ1_charAt_3b067_2 (wJ1_charAt_3b067_3 hZ)) (s_alt (s_xalen (n := 1) (zo_B41 hZ) dJ1_charAt_3b067_2 (wJ1_charAt_3b067_3 hZ)) (s_alt (s_xalen (n := 4) (zo_B43 hZ) dJ1_charAt_3b067_2 (wJ1_charAt_3b067_3 hZ)) (s_alt (s_xalen (n := 4) (zo_B45 hZ) dJ1_charAt_3b067_2 (wJ1_charAt_3b067_3 hZ)) (s_alt (s_xalen (n := 3) (zo_B47 hZ) dJ1_charAt_3b067_2 (wJ1_charAt_3b067_3 hZ)) (s_alt (s_xalen (n := 4) (zo_B49 hZ) dJ1_charAt_3b067_2 (wJ1_charAt_3b067_3 hZ)) (s_alt (s_xalen (n := 1) (zo_B51 hZ) dJ1_charAt_3b067_2 (wJ1_charAt_3b067_3 hZ)) (s_alt (s_xalen (n := 1) (zo_B53 hZ) dJ1_charAt_3b067_2 (wJ1_charAt_3b067_3 hZ)) (s_alt (s_xalen (n := 1) (zo_B55 hZ) dJ1_charAt_3b067_2 (wJ1_charAt_3b067_3 hZ)) (s_alt (s_xalen (n := 1) (zo_B57 hZ) dJ1_charAt_3b067_2 (wJ1_charAt_3b067_3 hZ)) (s_alt (s_xalen (n := 1) (zo_B59 hZ) dJ1_charAt_3b067_2 (wJ1_charAt_3b067_3 hZ)) (s_alt (s_xalen (n := 3) (zo_B61 hZ) dJ1_charAt_3b067_2 (wJ1_charAt_3b067_3 hZ)) (s_alt (s_xalen (n := 4) (zo_B63 hZ) dJ1_charAt_3b067_2 (wJ1_charAt_3b067_3 hZ)) (s_alt (s_xalen (n := 146) (zo_B65 hZ) dJ1_charAt_3b067_2 (wJ1_charAt_3b067_3 hZ)) (s_alt (s_xalen (n := 4) (zo_B67 hZ) dJ1_charAt_3b067_2 (wJ1_charAt_3b067_3 hZ)) (s_alt (s_xalen (n := 5) (zo_B69 hZ) dJ1_charAt_3b067_2 (wJ1_charAt_3b067_3 hZ)) (s_alt (s_xalen (n := 4) (zo_B71 hZ) dJ1_charAt_3b067_2 (wJ1_charAt_3b067_3 hZ)) (s_alt (s_xalen (n := 2) (zo_B73 hZ) dJ1_charAt_3b067_2 (wJ1_charAt_3b067_3 hZ)) (s_alt (s_xalen (n := 2) (zo_B75 hZ) dJ1_charAt_3b067_2 (wJ1_charAt_3b067_3 hZ)) (s_alt (s_xalen (n := 2) (zo_B77 hZ) dJ1_charAt_3b067_2 (wJ1_charAt_3b067_3 hZ)) (s_alt (s_xalen (n := 4) (zo_B79 hZ) dJ1_charAt_3b067_2 (wJ1_charAt_3b067_3 hZ)) (s_alt (s_xalen (n := 4) (zo_B81 hZ) dJ1_charAt_3b067_2 (wJ1_charAt_3b067_3 hZ)) (s_alt (s_xalen (n := 5) (zo_B83 hZ) dJ1_charAt_3b067_2 (wJ1_charAt_3b067_3 hZ)) (s_alt (s_xalen (n := 4) (zo_B85 hZ) dJ1_charAt_3b067_2 (wJ1_charAt_3b067_3 hZ)) (s_alt (s_xalen (n := 3) (zo_B87 hZ) dJ1_charAt_3b067_2 (wJ1_charAt_3b067_3 hZ)) (s_alt (s_xalen (n := 3) (zo_B89 hZ) dJ1_charAt_3b067_2 (wJ1_charAt_3b067_3 hZ)) (s_alt (s_xalen (n := 6) (zo_B91 hZ) dJ1_charAt_3b067_2 (wJ1_charAt_3b067_3 hZ)) (s_alt (s_xalen (n := 3) (zo_B93 hZ) dJ1_charAt_3b067_2 (wJ1_charAt_3b067_3 hZ)) (s_alt (s_xalen (n := 5) (zo_B95 hZ) dJ1_charAt_3b067_2 (wJ1_charAt_3b067_3 hZ)) (s_alt (s_xalen (n := 4) (zo_B97 hZ) dJ1_charAt_3b067_2 (wJ1_charAt_3b067_3 hZ)) (s_alt (s_xalen (n := 4) (zo_B99 hZ) dJ1_charAt_3b067_2 (wJ1_charAt_3b067_3 hZ)) (s_alt (s_xalen (n := 5) (zo_B101 hZ) dJ1_charAt_3b067_2 (wJ1_charAt_3b067_3 hZ)) (s_alt (s_xalen (n := 3) (zo_B103 hZ) dJ1_charAt_3b067_2 (wJ1_charAt_3b067_3 hZ)) (s_alt (s_xalen (n := 2) (zo_B105 hZ) dJ1_charAt_3b067_2 (wJ1_charAt_3b067_3 hZ)) (s_alt (s_xalen (n := 5) (zo_B107 hZ) dJ1_charAt_3b067_2 (wJ1_charAt_3b067_3 hZ)) (s_alt (s_xalen (n := 6) (zo_B109 hZ) dJ1_charAt_3b067_2 (wJ1_charAt_3b067_3 hZ)) (s_alt (s_xalen (n := 5) (zo_B111 hZ) dJ1_charAt_3b067_2 (wJ1_charAt_3b067_3 hZ)) (s_alt (s_xalen (n := 3) (zo_B113 hZ) dJ1_charAt_3b067_2 (wJ1_charAt_3b067_3 hZ)) (s_alt (s_xalen (n := 3) (zo_B115 hZ) dJ1_charAt_3b067_2 (wJ1_charAt_3b067_3 hZ)) (s_alt (s_xalen (n := 4) (zo_B117 hZ) dJ1_charAt_3b067_2 (wJ1_charAt_3b067_3 hZ)) (s_alt (s_xalen (n := 5) (zo_B119 hZ) dJ1_charAt_3b067_2 (wJ1_charAt_3b067_3 hZ)) (s_alt (s_xalen (n := 3) (zo_B121 hZ) dJ1_charAt_3b067_2 (wJ1_charAt_3b067_3 hZ)) (s_alt (s_xalen (n := 4) (zo_B123 hZ) dJ1_charAt_3b067_2 (wJ1_charAt_3b067_3 hZ)) (s_alt (s_xalen (n := 1) (zo_B125 hZ) dJ1_charAt_3b067_2 (wJ1_charAt_3b067_3 hZ)) (s_alt (s_xalen (n := 5) (zo_B127 hZ) dJ1_charAt_3b067_2 (wJ1_charAt_3b067_3 hZ)) (s_alt (s_xalen (n := 12) (zo_B129 hZ) dJ1_charAt_3b067_2 (wJ1_charAt_3b067_3 hZ)) (s_alt (s_xalen (n := 4) (zo_B131 hZ) dJ1_charAt_3b067_2 (wJ1_charAt_3b067_3 hZ)) (s_alt (s_xalen (n := 4) (zo_B133 hZ) dJ1_charAt_3b067_2 (wJ1_charAt_3b067_3 hZ)) (s_alt (s_xalen (n := 4) (zo_B135 hZ) dJ1_charAt_3b067_2 (wJ1_charAt_3b067_3 hZ)) (s_alt (s_xalen (n := 6) (zo_B137 hZ) dJ1_charAt_3b067_2 (wJ1_charAt_3b067_3 hZ)) (s_alt (s_xalen (n := 6) (zo_B139 hZ) dJ1_charAt_3b067_2 (wJ1_charAt_3b067_3 hZ)) (s_alt (s_xalen (n := 11) (zo_B141 hZ) dJ1_charAt_3b067_2 (wJ1_charAt_3b067_3 hZ)) (s_alt (s_xalen (n := 5) (zo_B143 hZ) dJ1_charAt_3b067_2 (wJ1_charAt_3b067_3 hZ)) (s_alt (s_xalen (n := 6) (zo_B145 hZ) dJ1_charAt_3b067_2 (wJ1_charAt_3b067_3 hZ)) (s_alt (s_xalen (n := 7) (zo_B149 hZ) dJ1_charAt_3b067_2 (wJ1_charAt_3b067_3 hZ)) (s_alt (s_xalen (n := 7) (zo_B151 hZ) dJ1_charAt_3b067_2 (wJ1_charAt_3b067_3 hZ)) (s_alt (s_xalen (n := 6) (zo_B153 hZ) dJ1_charAt_3b067_2 (wJ1_charAt_3b067_3 hZ)) (s_alt (s_xalen (n := 5) (zo_B155 hZ) dJ1_charAt_3b067_2 (wJ1_charAt_3b067_3 hZ)) (s_alt (s_xalen (n := 4) (zo_B157 hZ) dJ1_charAt_3b067_2 (wJ1_charAt_3b067_3 hZ)) (s_alt (s_xalen (n := 4) (zo_B159 hZ) dJ1_charAt_3b067_2 (wJ1_charAt_3b067_3 hZ)) s_none)))))))))))))))))))))))))))))))))))))))))))))))))))))))))))))))))))))))))))
noncomputable def FJ1_charAt_3b067 : List Nat → rx_H → Option (Nat × rx_H) := rx_ent 2 vJ1_charAt_3b067_0
theorem Met_J1_charAt_3b067 (hZ : zO b e D A X) : rx_Met (zV b e D A X) 2 yJ1_charAt_3b067 mJ1_charAt_3b067 (FJ1_charAt_3b067) := rx_entry hZ.1 (wJ1_charAt_3b067_0 hZ) (by decide +kernel) rfl (fun h => by cases h)
end ZM21

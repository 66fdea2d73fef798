section ZM27
variable {b : Nat} {e : Nat → Value} {D : va_G} {A : Nat → ClassId} {X : State → Prop}
abbrev mX9_readParents : rx_M := (RX9, cX9_readParents, 2, (some .boolean), false)
theorem vy_X9_readParents : rx_Y (zV b e D A X) yX9_readParents mX9_readParents 1 := ⟨zw1768, zw414, by decide, by decide +kernel, by decide +kernel, by decide +kernel⟩
noncomputable def vX9_readParents_152 : rx_K := o_ret1 rx_isZ
set_option maxRecDepth 20000 in
theorem wX9_readParents_152 (hZ : zO b e D A X) : rx_OK (zV b e D A X) mX9_readParents 3 152 vX9_readParents_152 := by
  unfold vX9_readParents_152
  exact s_zret rx_z_ok rfl dX9_readParents_152
noncomputable def vX9_readParents_151 : rx_K := o_const 0 (vX9_readParents_152)
set_option maxRecDepth 20000 in
theorem wX9_readParents_151 (hZ : zO b e D A X) : rx_OK (zV b e D A X) mX9_readParents 3 151 vX9_readParents_151 := by
  unfold vX9_readParents_151
  refine s_iconst dX9_readParents_151 (by decide +kernel) ?_
  exact (wX9_readParents_152 hZ)
noncomputable def vX9_readParents_147 : rx_K := o_const 8 (vX9_readParents_152)
set_option maxRecDepth 20000 in
theorem wX9_readParents_147 (hZ : zO b e D A X) : rx_OK (zV b e D A X) mX9_readParents 3 147 vX9_readParents_147 := by
  unfold vX9_readParents_147
  refine s_iconst dX9_readParents_147 (by decide +kernel) ?_
  exact s_goto dX9_readParents_148 (by decide) (wX9_readParents_152 hZ)
noncomputable def vX9_readParents_134 : rx_K := o_ld rx_isR 0 (o_ld rx_isR 1 (o_const 128 (o_const 16 (o_const 64 (o_callV 4 9 FX9_readList (o_c1 rx_eq vX9_readParents_151 vX9_readParents_147))))))
set_option maxRecDepth 20000 in
theorem wX9_readParents_134 (hZ : zO b e D A X) : rx_OK (zV b e D A X) mX9_readParents 3 134 vX9_readParents_134 := by
  unfold vX9_readParents_134
  refine s_aload_n hZ.1 dX9_readParents_134 rfl ?_
  refine s_aload_n hZ.1 dX9_readParents_135 rfl ?_
  refine s_bipush dX9_readParents_136 (by decide +kernel) ?_
  refine s_iconst dX9_readParents_138 (by decide +kernel) ?_
  refine s_bipush dX9_readParents_139 (by decide +kernel) ?_
  refine s_callV hZ.1 (Met_X9_readList hZ) (Nat.le_of_ble_eq_true rfl) vy_X9_readList zcl9 zw1771 zw18 (Or.inl zw1769) dX9_readParents_141 ?_
  exact s_if_eq dX9_readParents_144 (by decide) (wX9_readParents_151 hZ) (wX9_readParents_147 hZ)
noncomputable def vX9_readParents_121 : rx_K := o_ld rx_isR 0 (o_ld rx_isR 1 (o_const 120 (o_const 8 (o_const 64 (o_callV 4 9 FX9_readList (o_c1 rx_eq vX9_readParents_151 vX9_readParents_134))))))
set_option maxRecDepth 20000 in
theorem wX9_readParents_121 (hZ : zO b e D A X) : rx_OK (zV b e D A X) mX9_readParents 3 121 vX9_readParents_121 := by
  unfold vX9_readParents_121
  refine s_aload_n hZ.1 dX9_readParents_121 rfl ?_
  refine s_aload_n hZ.1 dX9_readParents_122 rfl ?_
  refine s_bipush dX9_readParents_123 (by decide +kernel) ?_
  refine s_iconst dX9_readParents_125 (by decide +kernel) ?_
  refine s_bipush dX9_readParents_126 (by decide +kernel) ?_
  refine s_callV hZ.1 (Met_X9_readList hZ) (Nat.le_of_ble_eq_true rfl) vy_X9_readList zcl9 zw1771 zw18 (Or.inl zw1769) dX9_readParents_128 ?_
  exact s_if_eq dX9_readParents_131 (by decide) (wX9_readParents_151 hZ) (wX9_readParents_134 hZ)
noncomputable def vX9_readParents_119 : rx_K := o_const 0 (o_ret1 rx_isZ)
set_option maxRecDepth 20000 in
theorem wX9_readParents_119 (hZ : zO b e D A X) : rx_OK (zV b e D A X) mX9_readParents 3 119 vX9_readParents_119 := by
  unfold vX9_readParents_119
  refine s_iconst dX9_readParents_119 (by decide +kernel) ?_
  exact s_zret rx_z_ok rfl dX9_readParents_120
noncomputable def vX9_readParents_99 : rx_K := o_ld rx_isR 1 (o_ld rx_isR 0 (o_getf 9 4 (o_ld rx_isR 0 (o_getf 9 8 (o_ald 1 (o_putf rx_isL 10 9 (o_ld rx_isR 0 (o_callV 0 9 FX9_take (o_c1 rx_eq vX9_readParents_119 vX9_readParents_121)))))))))
set_option maxRecDepth 20000 in
theorem wX9_readParents_99 (hZ : zO b e D A X) : rx_OK (zV b e D A X) mX9_readParents 3 99 vX9_readParents_99 := by
  unfold vX9_readParents_99
  refine s_aload_n hZ.1 dX9_readParents_99 rfl ?_
  refine s_aload_n hZ.1 dX9_readParents_100 rfl ?_
  refine yg9_4 dX9_readParents_101 zw586 ?_
  refine s_aload_n hZ.1 dX9_readParents_104 rfl ?_
  refine yg9_8 dX9_readParents_105 zw592 ?_
  refine s_lald (tt := 1) rfl dX9_readParents_108 ?_
  refine yp10_9 hZ.1 dX9_readParents_109 zw833 ?_
  refine s_aload_n hZ.1 dX9_readParents_112 rfl ?_
  refine s_callV hZ.1 (Met_X9_take hZ) (Nat.le_of_ble_eq_true rfl) vy_X9_take zcl9 zw1754 zw14 (Or.inl zw1752) dX9_readParents_113 ?_
  exact s_if_ne dX9_readParents_116 (by decide) (wX9_readParents_121 hZ) (wX9_readParents_119 hZ)
noncomputable def vX9_readParents_94 : rx_K := o_ld rx_isR 0 (o_callV 0 9 FX9_miss (o_ret1 rx_isZ))
set_option maxRecDepth 20000 in
theorem wX9_readParents_94 (hZ : zO b e D A X) : rx_OK (zV b e D A X) mX9_readParents 3 94 vX9_readParents_94 := by
  unfold vX9_readParents_94
  refine s_aload_n hZ.1 dX9_readParents_94 rfl ?_
  refine s_callV hZ.1 (Met_X9_miss hZ) (Nat.le_of_ble_eq_true rfl) vy_X9_miss zcl9 zw1762 zw16 (Or.inl zw1760) dX9_readParents_95 ?_
  exact s_zret rx_z_ok rfl dX9_readParents_98
noncomputable def vX9_readParents_86 : rx_K := o_ld rx_isR 0 (o_callV 0 9 FX9_now (o_const 16 (o_c2 rx_eq vX9_readParents_99 vX9_readParents_94)))
set_option maxRecDepth 20000 in
theorem wX9_readParents_86 (hZ : zO b e D A X) : rx_OK (zV b e D A X) mX9_readParents 3 86 vX9_readParents_86 := by
  unfold vX9_readParents_86
  refine s_aload_n hZ.1 dX9_readParents_86 rfl ?_
  refine s_callV hZ.1 (Met_X9_now hZ) (Nat.le_of_ble_eq_true rfl) vy_X9_now zcl9 zw1746 zw12 (Or.inl zw1744) dX9_readParents_87 ?_
  refine s_iconst dX9_readParents_90 (by decide +kernel) ?_
  exact s_icmp_eq dX9_readParents_91 (by decide) (wX9_readParents_99 hZ) (wX9_readParents_94 hZ)
noncomputable def vX9_readParents_79 : rx_K := o_ld rx_isR 0 (o_callV 0 9 FX9_take (o_c1 rx_eq vX9_readParents_94 vX9_readParents_86))
set_option maxRecDepth 20000 in
theorem wX9_readParents_79 (hZ : zO b e D A X) : rx_OK (zV b e D A X) mX9_readParents 3 79 vX9_readParents_79 := by
  unfold vX9_readParents_79
  refine s_aload_n hZ.1 dX9_readParents_79 rfl ?_
  refine s_callV hZ.1 (Met_X9_take hZ) (Nat.le_of_ble_eq_true rfl) vy_X9_take zcl9 zw1754 zw14 (Or.inl zw1752) dX9_readParents_80 ?_
  exact s_if_eq dX9_readParents_83 (by decide) (wX9_readParents_94 hZ) (wX9_readParents_86 hZ)
noncomputable def vX9_readParents_70 : rx_K := o_ld rx_isR 0 (o_callV 0 9 FX9_now (o_const 112 (o_c2 rx_eq vX9_readParents_79 vX9_readParents_121)))
set_option maxRecDepth 20000 in
theorem wX9_readParents_70 (hZ : zO b e D A X) : rx_OK (zV b e D A X) mX9_readParents 3 70 vX9_readParents_70 := by
  unfold vX9_readParents_70
  refine s_aload_n hZ.1 dX9_readParents_70 rfl ?_
  refine s_callV hZ.1 (Met_X9_now hZ) (Nat.le_of_ble_eq_true rfl) vy_X9_now zcl9 zw1746 zw12 (Or.inl zw1744) dX9_readParents_71 ?_
  refine s_bipush dX9_readParents_74 (by decide +kernel) ?_
  exact s_icmp_ne dX9_readParents_76 (by decide) (wX9_readParents_121 hZ) (wX9_readParents_79 hZ)
noncomputable def vX9_readParents_68 : rx_K := o_const 0 (o_ret1 rx_isZ)
set_option maxRecDepth 20000 in
theorem wX9_readParents_68 (hZ : zO b e D A X) : rx_OK (zV b e D A X) mX9_readParents 3 68 vX9_readParents_68 := by
  unfold vX9_readParents_68
  refine s_iconst dX9_readParents_68 (by decide +kernel) ?_
  exact s_zret rx_z_ok rfl dX9_readParents_69
noncomputable def vX9_readParents_56 : rx_K := o_ld rx_isR 0 (o_ld rx_isR 1 (o_const 96 (o_const 0 (o_const 32 (o_callV 4 9 FX9_readList (o_c1 rx_eq vX9_readParents_68 vX9_readParents_70))))))
set_option maxRecDepth 20000 in
theorem wX9_readParents_56 (hZ : zO b e D A X) : rx_OK (zV b e D A X) mX9_readParents 3 56 vX9_readParents_56 := by
  unfold vX9_readParents_56
  refine s_aload_n hZ.1 dX9_readParents_56 rfl ?_
  refine s_aload_n hZ.1 dX9_readParents_57 rfl ?_
  refine s_bipush dX9_readParents_58 (by decide +kernel) ?_
  refine s_iconst dX9_readParents_60 (by decide +kernel) ?_
  refine s_iconst dX9_readParents_61 (by decide +kernel) ?_
  refine s_callV hZ.1 (Met_X9_readList hZ) (Nat.le_of_ble_eq_true rfl) vy_X9_readList zcl9 zw1771 zw18 (Or.inl zw1769) dX9_readParents_62 ?_
  exact s_if_ne dX9_readParents_65 (by decide) (wX9_readParents_70 hZ) (wX9_readParents_68 hZ)
noncomputable def vX9_readParents_54 : rx_K := o_const 0 (o_ret1 rx_isZ)
set_option maxRecDepth 20000 in
theorem wX9_readParents_54 (hZ : zO b e D A X) : rx_OK (zV b e D A X) mX9_readParents 3 54 vX9_readParents_54 := by
  unfold vX9_readParents_54
  refine s_iconst dX9_readParents_54 (by decide +kernel) ?_
  exact s_zret rx_z_ok rfl dX9_readParents_55
noncomputable def vX9_readParents_29 : rx_K := o_ld rx_isR 1 (o_const 8 (o_putf rx_isZ 10 7 (o_ld rx_isR 1 (o_ld rx_isR 0 (o_getf 9 4 (o_ld rx_isR 0 (o_getf 9 8 (o_ald 1 (o_putf rx_isL 10 8 (o_ld rx_isR 0 (o_callV 0 9 FX9_take (o_c1 rx_eq vX9_readParents_54 vX9_readParents_56))))))))))))
set_option maxRecDepth 20000 in
theorem wX9_readParents_29 (hZ : zO b e D A X) : rx_OK (zV b e D A X) mX9_readParents 3 29 vX9_readParents_29 := by
  unfold vX9_readParents_29
  refine s_aload_n hZ.1 dX9_readParents_29 rfl ?_
  refine s_iconst dX9_readParents_30 (by decide +kernel) ?_
  refine yp10_7 hZ.1 dX9_readParents_31 zw819 ?_
  refine s_aload_n hZ.1 dX9_readParents_34 rfl ?_
  refine s_aload_n hZ.1 dX9_readParents_35 rfl ?_
  refine yg9_4 dX9_readParents_36 zw586 ?_
  refine s_aload_n hZ.1 dX9_readParents_39 rfl ?_
  refine yg9_8 dX9_readParents_40 zw592 ?_
  refine s_lald (tt := 1) rfl dX9_readParents_43 ?_
  refine yp10_8 hZ.1 dX9_readParents_44 zw826 ?_
  refine s_aload_n hZ.1 dX9_readParents_47 rfl ?_
  refine s_callV hZ.1 (Met_X9_take hZ) (Nat.le_of_ble_eq_true rfl) vy_X9_take zcl9 zw1754 zw14 (Or.inl zw1752) dX9_readParents_48 ?_
  exact s_if_ne dX9_readParents_51 (by decide) (wX9_readParents_56 hZ) (wX9_readParents_54 hZ)
noncomputable def vX9_readParents_24 : rx_K := o_ld rx_isR 0 (o_callV 0 9 FX9_miss (o_ret1 rx_isZ))
set_option maxRecDepth 20000 in
theorem wX9_readParents_24 (hZ : zO b e D A X) : rx_OK (zV b e D A X) mX9_readParents 3 24 vX9_readParents_24 := by
  unfold vX9_readParents_24
  refine s_aload_n hZ.1 dX9_readParents_24 rfl ?_
  refine s_callV hZ.1 (Met_X9_miss hZ) (Nat.le_of_ble_eq_true rfl) vy_X9_miss zcl9 zw1762 zw16 (Or.inl zw1760) dX9_readParents_25 ?_
  exact s_zret rx_z_ok rfl dX9_readParents_28
noncomputable def vX9_readParents_16 : rx_K := o_ld rx_isR 0 (o_callV 0 9 FX9_now (o_const 16 (o_c2 rx_eq vX9_readParents_29 vX9_readParents_24)))
set_option maxRecDepth 20000 in
theorem wX9_readParents_16 (hZ : zO b e D A X) : rx_OK (zV b e D A X) mX9_readParents 3 16 vX9_readParents_16 := by
  unfold vX9_readParents_16
  refine s_aload_n hZ.1 dX9_readParents_16 rfl ?_
  refine s_callV hZ.1 (Met_X9_now hZ) (Nat.le_of_ble_eq_true rfl) vy_X9_now zcl9 zw1746 zw12 (Or.inl zw1744) dX9_readParents_17 ?_
  refine s_iconst dX9_readParents_20 (by decide +kernel) ?_
  exact s_icmp_eq dX9_readParents_21 (by decide) (wX9_readParents_29 hZ) (wX9_readParents_24 hZ)
noncomputable def vX9_readParents_9 : rx_K := o_ld rx_isR 0 (o_callV 0 9 FX9_take (o_c1 rx_eq vX9_readParents_24 vX9_readParents_16))
set_option maxRecDepth 20000 in
theorem wX9_readParents_9 (hZ : zO b e D A X) : rx_OK (zV b e D A X) mX9_readParents 3 9 vX9_readParents_9 := by
  unfold vX9_readParents_9
  refine s_aload_n hZ.1 dX9_readParents_9 rfl ?_
  refine s_callV hZ.1 (Met_X9_take hZ) (Nat.le_of_ble_eq_true rfl) vy_X9_take zcl9 zw1754 zw14 (Or.inl zw1752) dX9_readParents_10 ?_
  exact s_if_eq dX9_readParents_13 (by decide) (wX9_readParents_24 hZ) (wX9_readParents_16 hZ)
noncomputable def vX9_readParents_0 : rx_K := o_ld rx_isR 0 (o_callV 0 9 FX9_now (o_const 104 (o_c2 rx_eq vX9_readParents_9 vX9_readParents_56)))
set_option maxRecDepth 20000 in
theorem wX9_readParents_0 (hZ : zO b e D A X) : rx_OK (zV b e D A X) mX9_readParents 3 0 vX9_readParents_0 := by
  unfold vX9_readParents_0
  refine s_aload_n hZ.1 dX9_readParents_0 rfl ?_
  refine s_callV hZ.1 (Met_X9_now hZ) (Nat.le_of_ble_eq_true rfl) vy_X9_now zcl9 zw1746 zw12 (Or.inl zw1744) dX9_readParents_1 ?_
  refine s_bipush dX9_readParents_4 (by decide +kernel) ?_
  exact s_icmp_ne dX9_readParents_6 (by decide) (wX9_readParents_56 hZ) (wX9_readParents_9 hZ)
noncomputable def FX9_readParents : List Nat → rx_H → Option (Nat × rx_H) := rx_ent 2 vX9_readParents_0
theorem Met_X9_readParents (hZ : zO b e D A X) : rx_Met (zV b e D A X) 3 yX9_readParents mX9_readParents (FX9_readParents) := rx_entry hZ.1 (wX9_readParents_0 hZ) (by decide +kernel) rfl (fun h => by cases h)
abbrev mX9_readHead : rx_M := (RX9, cX9_readHead, 5, (some (.object "LinkHouse$Row")), false)
theorem vy_X9_readHead : rx_Y (zV b e D A X) yX9_readHead mX9_readHead 0 := ⟨zw1751, zw414, by decide, by decide +kernel, by decide +kernel, by decide +kernel⟩
noncomputable def vX9_readHead_240 : rx_K := o_ret1 rx_isR
set_option maxRecDepth 20000 in
theorem wX9_readHead_240 (hZ : zO b e D A X) : rx_OK (zV b e D A X) mX9_readHead 4 240 vX9_readHead_240 := by
  unfold vX9_readHead_240
  exact s_aret hZ.1 rfl (Or.inl ⟨_, rfl⟩) dX9_readHead_240
noncomputable def vX9_readHead_239 : rx_K := o_const 3 (vX9_readHead_240)
set_option maxRecDepth 20000 in
theorem wX9_readHead_239 (hZ : zO b e D A X) : rx_OK (zV b e D A X) mX9_readHead 4 239 vX9_readHead_239 := by
  unfold vX9_readHead_239
  refine s_null dX9_readHead_239 ?_
  exact (wX9_readHead_240 hZ)
noncomputable def vX9_readHead_234 : rx_K := o_ld rx_isR 4 (vX9_readHead_240)
set_option maxRecDepth 20000 in
theorem wX9_readHead_234 (hZ : zO b e D A X) : rx_OK (zV b e D A X) mX9_readHead 4 234 vX9_readHead_234 := by
  unfold vX9_readHead_234
  refine s_aload hZ.1 dX9_readHead_234 ?_
  exact s_goto dX9_readHead_236 (by decide) (wX9_readHead_240 hZ)
noncomputable def vX9_readHead_224 : rx_K := o_ld rx_isR 0 (o_const 1784 (o_callV 1 9 FX9_need (o_c1 rx_eq vX9_readHead_239 vX9_readHead_234)))
set_option maxRecDepth 20000 in
theorem wX9_readHead_224 (hZ : zO b e D A X) : rx_OK (zV b e D A X) mX9_readHead 4 224 vX9_readHead_224 := by
  unfold vX9_readHead_224
  refine s_aload_n hZ.1 dX9_readHead_224 rfl ?_
  refine s_sipush dX9_readHead_225 (by decide +kernel) ?_
  refine s_callV hZ.1 (Met_X9_need hZ) (Nat.le_of_ble_eq_true rfl) vy_X9_need zcl9 zw1779 zw19 (Or.inl zw1777) dX9_readHead_228 ?_
  exact s_if_eq dX9_readHead_231 (by decide) (wX9_readHead_239 hZ) (wX9_readHead_234 hZ)
noncomputable def vX9_readHead_215 : rx_K := o_ld rx_isR 0 (o_ld rx_isR 4 (o_callV 1 9 FX9_readParents (o_c1 rx_eq vX9_readHead_239 vX9_readHead_224)))
set_option maxRecDepth 20000 in
theorem wX9_readHead_215 (hZ : zO b e D A X) : rx_OK (zV b e D A X) mX9_readHead 4 215 vX9_readHead_215 := by
  unfold vX9_readHead_215
  refine s_aload_n hZ.1 dX9_readHead_215 rfl ?_
  refine s_aload hZ.1 dX9_readHead_216 ?_
  refine s_callV hZ.1 (Met_X9_readParents hZ) (Nat.le_of_ble_eq_true rfl) vy_X9_readParents zcl9 zw1767 zw17 (Or.inl zw1765) dX9_readHead_218 ?_
  exact s_if_eq dX9_readHead_221 (by decide) (wX9_readHead_239 hZ) (wX9_readHead_224 hZ)
noncomputable def vX9_readHead_182 : rx_K := o_putf rx_isZ 10 6 (o_ld rx_isR 4 (o_ld rx_isR 0 (o_getf 9 4 (o_ld rx_isR 0 (o_getf 9 8 (o_ald 1 (o_putf rx_isL 10 1 (o_ld rx_isR 4 (o_ld rx_isR 0 (o_getf 9 8 (o_putf rx_isI 10 2 (o_ld rx_isR 0 (o_callV 0 9 FX9_take (o_c1 rx_eq vX9_readHead_239 vX9_readHead_215))))))))))))))
set_option maxRecDepth 20000 in
theorem wX9_readHead_182 (hZ : zO b e D A X) : rx_OK (zV b e D A X) mX9_readHead 4 182 vX9_readHead_182 := by
  unfold vX9_readHead_182
  refine yp10_6 hZ.1 dX9_readHead_182 zw811 ?_
  refine s_aload hZ.1 dX9_readHead_185 ?_
  refine s_aload_n hZ.1 dX9_readHead_187 rfl ?_
  refine yg9_4 dX9_readHead_188 zw586 ?_
  refine s_aload_n hZ.1 dX9_readHead_191 rfl ?_
  refine yg9_8 dX9_readHead_192 zw592 ?_
  refine s_lald (tt := 1) rfl dX9_readHead_195 ?_
  refine yp10_1 hZ.1 dX9_readHead_196 zw776 ?_
  refine s_aload hZ.1 dX9_readHead_199 ?_
  refine s_aload_n hZ.1 dX9_readHead_201 rfl ?_
  refine yg9_8 dX9_readHead_202 zw592 ?_
  refine yp10_2 hZ.1 dX9_readHead_205 zw781 ?_
  refine s_aload_n hZ.1 dX9_readHead_208 rfl ?_
  refine s_callV hZ.1 (Met_X9_take hZ) (Nat.le_of_ble_eq_true rfl) vy_X9_take zcl9 zw1754 zw14 (Or.inl zw1752) dX9_readHead_209 ?_
  exact s_if_eq dX9_readHead_212 (by decide) (wX9_readHead_239 hZ) (wX9_readHead_215 hZ)
noncomputable def vX9_readHead_181 : rx_K := o_const 0 (vX9_readHead_182)
set_option maxRecDepth 20000 in
theorem wX9_readHead_181 (hZ : zO b e D A X) : rx_OK (zV b e D A X) mX9_readHead 4 181 vX9_readHead_181 := by
  unfold vX9_readHead_181
  refine s_iconst dX9_readHead_181 (by decide +kernel) ?_
  exact (wX9_readHead_182 hZ)
noncomputable def vX9_readHead_177 : rx_K := o_const 8 (vX9_readHead_182)
set_option maxRecDepth 20000 in
theorem wX9_readHead_177 (hZ : zO b e D A X) : rx_OK (zV b e D A X) mX9_readHead 4 177 vX9_readHead_177 := by
  unfold vX9_readHead_177
  refine s_iconst dX9_readHead_177 (by decide +kernel) ?_
  exact s_goto dX9_readHead_178 (by decide) (wX9_readHead_182 hZ)
noncomputable def vX9_readHead_166 : rx_K := o_putf rx_isZ 10 5 (o_ld rx_isR 4 (o_ld rx_isI 2 (o_const 168 (o_c2 rx_eq vX9_readHead_177 vX9_readHead_181))))
set_option maxRecDepth 20000 in
theorem wX9_readHead_166 (hZ : zO b e D A X) : rx_OK (zV b e D A X) mX9_readHead 4 166 vX9_readHead_166 := by
  unfold vX9_readHead_166
  refine yp10_5 hZ.1 dX9_readHead_166 zw804 ?_
  refine s_aload hZ.1 dX9_readHead_169 ?_
  refine s_iload_n hZ.1 dX9_readHead_171 rfl ?_
  refine s_bipush dX9_readHead_172 (by decide +kernel) ?_
  exact s_icmp_ne dX9_readHead_174 (by decide) (wX9_readHead_181 hZ) (wX9_readHead_177 hZ)
noncomputable def vX9_readHead_165 : rx_K := o_const 0 (vX9_readHead_166)
set_option maxRecDepth 20000 in
theorem wX9_readHead_165 (hZ : zO b e D A X) : rx_OK (zV b e D A X) mX9_readHead 4 165 vX9_readHead_165 := by
  unfold vX9_readHead_165
  refine s_iconst dX9_readHead_165 (by decide +kernel) ?_
  exact (wX9_readHead_166 hZ)
noncomputable def vX9_readHead_161 : rx_K := o_const 8 (vX9_readHead_166)
set_option maxRecDepth 20000 in
theorem wX9_readHead_161 (hZ : zO b e D A X) : rx_OK (zV b e D A X) mX9_readHead 4 161 vX9_readHead_161 := by
  unfold vX9_readHead_161
  refine s_iconst dX9_readHead_161 (by decide +kernel) ?_
  exact s_goto dX9_readHead_162 (by decide) (wX9_readHead_166 hZ)
noncomputable def vX9_readHead_141 : rx_K := o_ld rx_isR 4 (o_ld rx_isI 1 (o_putf rx_isZ 10 3 (o_ld rx_isR 4 (o_ld rx_isI 3 (o_putf rx_isZ 10 4 (o_ld rx_isR 4 (o_ld rx_isI 2 (o_const 160 (o_c2 rx_eq vX9_readHead_161 vX9_readHead_165)))))))))
set_option maxRecDepth 20000 in
theorem wX9_readHead_141 (hZ : zO b e D A X) : rx_OK (zV b e D A X) mX9_readHead 4 141 vX9_readHead_141 := by
  unfold vX9_readHead_141
  refine s_aload hZ.1 dX9_readHead_141 ?_
  refine s_iload_n hZ.1 dX9_readHead_143 rfl ?_
  refine yp10_3 hZ.1 dX9_readHead_144 zw787 ?_
  refine s_aload hZ.1 dX9_readHead_147 ?_
  refine s_iload_n hZ.1 dX9_readHead_149 rfl ?_
  refine yp10_4 hZ.1 dX9_readHead_150 zw797 ?_
  refine s_aload hZ.1 dX9_readHead_153 ?_
  refine s_iload_n hZ.1 dX9_readHead_155 rfl ?_
  refine s_bipush dX9_readHead_156 (by decide +kernel) ?_
  exact s_icmp_ne dX9_readHead_158 (by decide) (wX9_readHead_165 hZ) (wX9_readHead_161 hZ)
noncomputable def vX9_readHead_133 : rx_K := o_ld rx_isR 0 (o_const 24 (o_callV 1 9 FX9_stop (o_pop (o_const 3 (o_ret1 rx_isR)))))
set_option maxRecDepth 20000 in
theorem wX9_readHead_133 (hZ : zO b e D A X) : rx_OK (zV b e D A X) mX9_readHead 4 133 vX9_readHead_133 := by
  unfold vX9_readHead_133
  refine s_aload_n hZ.1 dX9_readHead_133 rfl ?_
  refine s_iconst dX9_readHead_134 (by decide +kernel) ?_
  refine s_callV hZ.1 (Met_X9_stop hZ) (Nat.le_of_ble_eq_true rfl) vy_X9_stop zcl9 zw1758 zw15 (Or.inl zw1756) dX9_readHead_135 ?_
  refine s_pop hZ.1 dX9_readHead_138 ?_
  refine s_null dX9_readHead_139 ?_
  exact s_aret hZ.1 rfl (Or.inl ⟨_, rfl⟩) dX9_readHead_140
noncomputable def vX9_readHead_119 : rx_K := o_ld rx_isR 0 (o_getf 9 11 (o_callV 0 1 FX1_newRow (o_st rx_isR 4 (o_ld rx_isR 4 (o_nul vX9_readHead_133 vX9_readHead_141)))))
set_option maxRecDepth 20000 in
theorem wX9_readHead_119 (hZ : zO b e D A X) : rx_OK (zV b e D A X) mX9_readHead 4 119 vX9_readHead_119 := by
  unfold vX9_readHead_119
  refine s_aload_n hZ.1 dX9_readHead_119 rfl ?_
  refine yg9_11 dX9_readHead_120 zw597 ?_
  refine s_callV hZ.1 (Met_X1_newRow hZ) (Nat.le_of_ble_eq_true rfl) vy_X1_newRow zcl1 zw1213 zw1214 (Or.inl zw1764) dX9_readHead_123 ?_
  refine s_astore hZ.1 dX9_readHead_126 (Nat.le_of_ble_eq_true rfl) ?_
  refine s_aload hZ.1 dX9_readHead_128 ?_
  exact s_ifnonnull dX9_readHead_130 (by decide) (wX9_readHead_141 hZ) (wX9_readHead_133 hZ)
noncomputable def vX9_readHead_112 : rx_K := o_ld rx_isR 0 (o_callV 0 9 FX9_miss (o_pop (o_const 3 (o_ret1 rx_isR))))
set_option maxRecDepth 20000 in
theorem wX9_readHead_112 (hZ : zO b e D A X) : rx_OK (zV b e D A X) mX9_readHead 4 112 vX9_readHead_112 := by
  unfold vX9_readHead_112
  refine s_aload_n hZ.1 dX9_readHead_112 rfl ?_
  refine s_callV hZ.1 (Met_X9_miss hZ) (Nat.le_of_ble_eq_true rfl) vy_X9_miss zcl9 zw1762 zw16 (Or.inl zw1760) dX9_readHead_113 ?_
  refine s_pop hZ.1 dX9_readHead_116 ?_
  refine s_null dX9_readHead_117 ?_
  exact s_aret hZ.1 rfl (Or.inl ⟨_, rfl⟩) dX9_readHead_118
noncomputable def vX9_readHead_104 : rx_K := o_ld rx_isR 0 (o_callV 0 9 FX9_now (o_const 16 (o_c2 rx_eq vX9_readHead_119 vX9_readHead_112)))
set_option maxRecDepth 20000 in
theorem wX9_readHead_104 (hZ : zO b e D A X) : rx_OK (zV b e D A X) mX9_readHead 4 104 vX9_readHead_104 := by
  unfold vX9_readHead_104
  refine s_aload_n hZ.1 dX9_readHead_104 rfl ?_
  refine s_callV hZ.1 (Met_X9_now hZ) (Nat.le_of_ble_eq_true rfl) vy_X9_now zcl9 zw1746 zw12 (Or.inl zw1744) dX9_readHead_105 ?_
  refine s_iconst dX9_readHead_108 (by decide +kernel) ?_
  exact s_icmp_eq dX9_readHead_109 (by decide) (wX9_readHead_119 hZ) (wX9_readHead_112 hZ)
noncomputable def vX9_readHead_102 : rx_K := o_const 3 (o_ret1 rx_isR)
set_option maxRecDepth 20000 in
theorem wX9_readHead_102 (hZ : zO b e D A X) : rx_OK (zV b e D A X) mX9_readHead 4 102 vX9_readHead_102 := by
  unfold vX9_readHead_102
  refine s_null dX9_readHead_102 ?_
  exact s_aret hZ.1 rfl (Or.inl ⟨_, rfl⟩) dX9_readHead_103
noncomputable def vX9_readHead_95 : rx_K := o_ld rx_isR 0 (o_callV 0 9 FX9_take (o_c1 rx_eq vX9_readHead_102 vX9_readHead_104))
set_option maxRecDepth 20000 in
theorem wX9_readHead_95 (hZ : zO b e D A X) : rx_OK (zV b e D A X) mX9_readHead 4 95 vX9_readHead_95 := by
  unfold vX9_readHead_95
  refine s_aload_n hZ.1 dX9_readHead_95 rfl ?_
  refine s_callV hZ.1 (Met_X9_take hZ) (Nat.le_of_ble_eq_true rfl) vy_X9_take zcl9 zw1754 zw14 (Or.inl zw1752) dX9_readHead_96 ?_
  exact s_if_ne dX9_readHead_99 (by decide) (wX9_readHead_104 hZ) (wX9_readHead_102 hZ)
noncomputable def vX9_readHead_88 : rx_K := o_ld rx_isR 0 (o_callV 0 9 FX9_miss (o_pop (o_const 3 (o_ret1 rx_isR))))
set_option maxRecDepth 20000 in
theorem wX9_readHead_88 (hZ : zO b e D A X) : rx_OK (zV b e D A X) mX9_readHead 4 88 vX9_readHead_88 := by
  unfold vX9_readHead_88
  refine s_aload_n hZ.1 dX9_readHead_88 rfl ?_
  refine s_callV hZ.1 (Met_X9_miss hZ) (Nat.le_of_ble_eq_true rfl) vy_X9_miss zcl9 zw1762 zw16 (Or.inl zw1760) dX9_readHead_89 ?_
  refine s_pop hZ.1 dX9_readHead_92 ?_
  refine s_null dX9_readHead_93 ?_
  exact s_aret hZ.1 rfl (Or.inl ⟨_, rfl⟩) dX9_readHead_94
noncomputable def vX9_readHead_79 : rx_K := o_ld rx_isR 0 (o_callV 0 9 FX9_now (o_const 80 (o_c2 rx_eq vX9_readHead_95 vX9_readHead_88)))
set_option maxRecDepth 20000 in
theorem wX9_readHead_79 (hZ : zO b e D A X) : rx_OK (zV b e D A X) mX9_readHead 4 79 vX9_readHead_79 := by
  unfold vX9_readHead_79
  refine s_aload_n hZ.1 dX9_readHead_79 rfl ?_
  refine s_callV hZ.1 (Met_X9_now hZ) (Nat.le_of_ble_eq_true rfl) vy_X9_now zcl9 zw1746 zw12 (Or.inl zw1744) dX9_readHead_80 ?_
  refine s_bipush dX9_readHead_83 (by decide +kernel) ?_
  exact s_icmp_eq dX9_readHead_85 (by decide) (wX9_readHead_95 hZ) (wX9_readHead_88 hZ)
noncomputable def vX9_readHead_74 : rx_K := o_st rx_isI 3 (o_ld rx_isI 3 (o_c1 rx_eq vX9_readHead_79 vX9_readHead_95))
set_option maxRecDepth 20000 in
theorem wX9_readHead_74 (hZ : zO b e D A X) : rx_OK (zV b e D A X) mX9_readHead 4 74 vX9_readHead_74 := by
  unfold vX9_readHead_74
  refine s_istore_n hZ.1 dX9_readHead_74 rfl (Nat.le_of_ble_eq_true rfl) ?_
  refine s_iload_n hZ.1 dX9_readHead_75 rfl ?_
  exact s_if_ne dX9_readHead_76 (by decide) (wX9_readHead_95 hZ) (wX9_readHead_79 hZ)
noncomputable def vX9_readHead_73 : rx_K := o_const 0 (vX9_readHead_74)
set_option maxRecDepth 20000 in
theorem wX9_readHead_73 (hZ : zO b e D A X) : rx_OK (zV b e D A X) mX9_readHead 4 73 vX9_readHead_73 := by
  unfold vX9_readHead_73
  refine s_iconst dX9_readHead_73 (by decide +kernel) ?_
  exact (wX9_readHead_74 hZ)
noncomputable def vX9_readHead_69 : rx_K := o_const 8 (vX9_readHead_74)
set_option maxRecDepth 20000 in
theorem wX9_readHead_69 (hZ : zO b e D A X) : rx_OK (zV b e D A X) mX9_readHead 4 69 vX9_readHead_69 := by
  unfold vX9_readHead_69
  refine s_iconst dX9_readHead_69 (by decide +kernel) ?_
  exact s_goto dX9_readHead_70 (by decide) (wX9_readHead_74 hZ)
noncomputable def vX9_readHead_63 : rx_K := o_ld rx_isI 2 (o_const 88 (o_c2 rx_eq vX9_readHead_69 vX9_readHead_73))
set_option maxRecDepth 20000 in
theorem wX9_readHead_63 (hZ : zO b e D A X) : rx_OK (zV b e D A X) mX9_readHead 4 63 vX9_readHead_63 := by
  unfold vX9_readHead_63
  refine s_iload_n hZ.1 dX9_readHead_63 rfl ?_
  refine s_bipush dX9_readHead_64 (by decide +kernel) ?_
  exact s_icmp_ne dX9_readHead_66 (by decide) (wX9_readHead_73 hZ) (wX9_readHead_69 hZ)
noncomputable def vX9_readHead_54 : rx_K := o_ld rx_isR 0 (o_callV 0 9 FX9_now (o_const 88 (o_c2 rx_eq vX9_readHead_63 vX9_readHead_73)))
set_option maxRecDepth 20000 in
theorem wX9_readHead_54 (hZ : zO b e D A X) : rx_OK (zV b e D A X) mX9_readHead 4 54 vX9_readHead_54 := by
  unfold vX9_readHead_54
  refine s_aload_n hZ.1 dX9_readHead_54 rfl ?_
  refine s_callV hZ.1 (Met_X9_now hZ) (Nat.le_of_ble_eq_true rfl) vy_X9_now zcl9 zw1746 zw12 (Or.inl zw1744) dX9_readHead_55 ?_
  refine s_bipush dX9_readHead_58 (by decide +kernel) ?_
  exact s_icmp_ne dX9_readHead_60 (by decide) (wX9_readHead_73 hZ) (wX9_readHead_63 hZ)
noncomputable def vX9_readHead_52 : rx_K := o_const 3 (o_ret1 rx_isR)
set_option maxRecDepth 20000 in
theorem wX9_readHead_52 (hZ : zO b e D A X) : rx_OK (zV b e D A X) mX9_readHead 4 52 vX9_readHead_52 := by
  unfold vX9_readHead_52
  refine s_null dX9_readHead_52 ?_
  exact s_aret hZ.1 rfl (Or.inl ⟨_, rfl⟩) dX9_readHead_53
noncomputable def vX9_readHead_45 : rx_K := o_ld rx_isR 0 (o_callV 0 9 FX9_take (o_c1 rx_eq vX9_readHead_52 vX9_readHead_54))
set_option maxRecDepth 20000 in
theorem wX9_readHead_45 (hZ : zO b e D A X) : rx_OK (zV b e D A X) mX9_readHead 4 45 vX9_readHead_45 := by
  unfold vX9_readHead_45
  refine s_aload_n hZ.1 dX9_readHead_45 rfl ?_
  refine s_callV hZ.1 (Met_X9_take hZ) (Nat.le_of_ble_eq_true rfl) vy_X9_take zcl9 zw1754 zw14 (Or.inl zw1752) dX9_readHead_46 ?_
  exact s_if_ne dX9_readHead_49 (by decide) (wX9_readHead_54 hZ) (wX9_readHead_52 hZ)
noncomputable def vX9_readHead_39 : rx_K := o_ld rx_isI 2 (o_const 168 (o_c2 rx_eq vX9_readHead_45 vX9_readHead_54))
set_option maxRecDepth 20000 in
theorem wX9_readHead_39 (hZ : zO b e D A X) : rx_OK (zV b e D A X) mX9_readHead 4 39 vX9_readHead_39 := by
  unfold vX9_readHead_39
  refine s_iload_n hZ.1 dX9_readHead_39 rfl ?_
  refine s_bipush dX9_readHead_40 (by decide +kernel) ?_
  exact s_icmp_ne dX9_readHead_42 (by decide) (wX9_readHead_54 hZ) (wX9_readHead_45 hZ)
noncomputable def vX9_readHead_28 : rx_K := o_ld rx_isR 0 (o_callV 0 9 FX9_now (o_st rx_isI 2 (o_ld rx_isI 2 (o_const 160 (o_c2 rx_eq vX9_readHead_45 vX9_readHead_39)))))
set_option maxRecDepth 20000 in
theorem wX9_readHead_28 (hZ : zO b e D A X) : rx_OK (zV b e D A X) mX9_readHead 4 28 vX9_readHead_28 := by
  unfold vX9_readHead_28
  refine s_aload_n hZ.1 dX9_readHead_28 rfl ?_
  refine s_callV hZ.1 (Met_X9_now hZ) (Nat.le_of_ble_eq_true rfl) vy_X9_now zcl9 zw1746 zw12 (Or.inl zw1744) dX9_readHead_29 ?_
  refine s_istore_n hZ.1 dX9_readHead_32 rfl (Nat.le_of_ble_eq_true rfl) ?_
  refine s_iload_n hZ.1 dX9_readHead_33 rfl ?_
  refine s_bipush dX9_readHead_34 (by decide +kernel) ?_
  exact s_icmp_eq dX9_readHead_36 (by decide) (wX9_readHead_45 hZ) (wX9_readHead_39 hZ)
noncomputable def vX9_readHead_26 : rx_K := o_const 3 (o_ret1 rx_isR)
set_option maxRecDepth 20000 in
theorem wX9_readHead_26 (hZ : zO b e D A X) : rx_OK (zV b e D A X) mX9_readHead 4 26 vX9_readHead_26 := by
  unfold vX9_readHead_26
  refine s_null dX9_readHead_26 ?_
  exact s_aret hZ.1 rfl (Or.inl ⟨_, rfl⟩) dX9_readHead_27
noncomputable def vX9_readHead_19 : rx_K := o_ld rx_isR 0 (o_callV 0 9 FX9_take (o_c1 rx_eq vX9_readHead_26 vX9_readHead_28))
set_option maxRecDepth 20000 in
theorem wX9_readHead_19 (hZ : zO b e D A X) : rx_OK (zV b e D A X) mX9_readHead 4 19 vX9_readHead_19 := by
  unfold vX9_readHead_19
  refine s_aload_n hZ.1 dX9_readHead_19 rfl ?_
  refine s_callV hZ.1 (Met_X9_take hZ) (Nat.le_of_ble_eq_true rfl) vy_X9_take zcl9 zw1754 zw14 (Or.inl zw1752) dX9_readHead_20 ?_
  exact s_if_ne dX9_readHead_23 (by decide) (wX9_readHead_28 hZ) (wX9_readHead_26 hZ)
noncomputable def vX9_readHead_14 : rx_K := o_st rx_isI 1 (o_ld rx_isI 1 (o_c1 rx_eq vX9_readHead_28 vX9_readHead_19))
set_option maxRecDepth 20000 in
theorem wX9_readHead_14 (hZ : zO b e D A X) : rx_OK (zV b e D A X) mX9_readHead 4 14 vX9_readHead_14 := by
  unfold vX9_readHead_14
  refine s_istore_n hZ.1 dX9_readHead_14 rfl (Nat.le_of_ble_eq_true rfl) ?_
  refine s_iload_n hZ.1 dX9_readHead_15 rfl ?_
  exact s_if_eq dX9_readHead_16 (by decide) (wX9_readHead_28 hZ) (wX9_readHead_19 hZ)
noncomputable def vX9_readHead_13 : rx_K := o_const 0 (vX9_readHead_14)
set_option maxRecDepth 20000 in
theorem wX9_readHead_13 (hZ : zO b e D A X) : rx_OK (zV b e D A X) mX9_readHead 4 13 vX9_readHead_13 := by
  unfold vX9_readHead_13
  refine s_iconst dX9_readHead_13 (by decide +kernel) ?_
  exact (wX9_readHead_14 hZ)
noncomputable def vX9_readHead_9 : rx_K := o_const 8 (vX9_readHead_14)
set_option maxRecDepth 20000 in
theorem wX9_readHead_9 (hZ : zO b e D A X) : rx_OK (zV b e D A X) mX9_readHead 4 9 vX9_readHead_9 := by
  unfold vX9_readHead_9
  refine s_iconst dX9_readHead_9 (by decide +kernel) ?_
  exact s_goto dX9_readHead_10 (by decide) (wX9_readHead_14 hZ)
noncomputable def vX9_readHead_0 : rx_K := o_ld rx_isR 0 (o_callV 0 9 FX9_now (o_const 136 (o_c2 rx_eq vX9_readHead_9 vX9_readHead_13)))
set_option maxRecDepth 20000 in
theorem wX9_readHead_0 (hZ : zO b e D A X) : rx_OK (zV b e D A X) mX9_readHead 4 0 vX9_readHead_0 := by
  unfold vX9_readHead_0
  refine s_aload_n hZ.1 dX9_readHead_0 rfl ?_
  refine s_callV hZ.1 (Met_X9_now hZ) (Nat.le_of_ble_eq_true rfl) vy_X9_now zcl9 zw1746 zw12 (Or.inl zw1744) dX9_readHead_1 ?_
  refine s_bipush dX9_readHead_4 (by decide +kernel) ?_
  exact s_icmp_ne dX9_readHead_6 (by decide) (wX9_readHead_13 hZ) (wX9_readHead_9 hZ)
noncomputable def FX9_readHead : List Nat → rx_H → Option (Nat × rx_H) := rx_ent 5 vX9_readHead_0
theorem Met_X9_readHead (hZ : zO b e D A X) : rx_Met (zV b e D A X) 4 yX9_readHead mX9_readHead (FX9_readHead) := rx_entry hZ.1 (wX9_readHead_0 hZ) (by decide +kernel) rfl (fun h => by cases h)
abbrev mX9_readParams : rx_M := (RX9, cX9_readParams, 4, (some .boolean), false)
theorem vy_X9_readParams : rx_Y (zV b e D A X) yX9_readParams mX9_readParams 1 := ⟨zw1794, zw414, by decide, by decide +kernel, by decide +kernel, by decide +kernel⟩
noncomputable def vX9_readParams_170 (j : Nat → rx_K) : rx_K := o_ld rx_isR 0 (o_const 1128 (o_callV 1 9 FX9_need (o_ret1 rx_isZ)))
set_option maxRecDepth 20000 in
theorem wX9_readParams_170 (hZ : zO b e D A X) (j : Nat → rx_K) (hj : ∀ k pc, [30][k]? = some pc → rx_OK (zV b e D A X) mX9_readParams 2 pc (j k)) : rx_OK (zV b e D A X) mX9_readParams 2 170 (vX9_readParams_170 j) := by
  unfold vX9_readParams_170
  refine s_aload_n hZ.1 dX9_readParams_170 rfl ?_
  refine s_sipush dX9_readParams_171 (by decide +kernel) ?_
  refine s_callV hZ.1 (Met_X9_need hZ) (Nat.le_of_ble_eq_true rfl) vy_X9_need zcl9 zw1779 zw19 (Or.inl zw1777) dX9_readParams_174 ?_
  exact s_zret rx_z_ok rfl dX9_readParams_177
noncomputable def vX9_readParams_164 (j : Nat → rx_K) : rx_K := o_inc 3 (1) ((j 0))
set_option maxRecDepth 20000 in
theorem wX9_readParams_164 (hZ : zO b e D A X) (j : Nat → rx_K) (hj : ∀ k pc, [30][k]? = some pc → rx_OK (zV b e D A X) mX9_readParams 2 pc (j k)) : rx_OK (zV b e D A X) mX9_readParams 2 164 (vX9_readParams_164 j) := by
  unfold vX9_readParams_164
  refine s_iinc hZ.1 dX9_readParams_164 (Nat.le_of_ble_eq_true rfl) ?_
  exact s_goto dX9_readParams_167 (by decide) (hj 0 30 rfl)
noncomputable def vX9_readParams_162 (j : Nat → rx_K) : rx_K := o_const 0 (o_ret1 rx_isZ)
set_option maxRecDepth 20000 in
theorem wX9_readParams_162 (hZ : zO b e D A X) (j : Nat → rx_K) (hj : ∀ k pc, [30][k]? = some pc → rx_OK (zV b e D A X) mX9_readParams 2 pc (j k)) : rx_OK (zV b e D A X) mX9_readParams 2 162 (vX9_readParams_162 j) := by
  unfold vX9_readParams_162
  refine s_iconst dX9_readParams_162 (by decide +kernel) ?_
  exact s_zret rx_z_ok rfl dX9_readParams_163
noncomputable def vX9_readParams_155 (j : Nat → rx_K) : rx_K := o_ld rx_isR 0 (o_callV 0 9 FX9_take (o_c1 rx_eq (vX9_readParams_162 j) (vX9_readParams_164 j)))
set_option maxRecDepth 20000 in
theorem wX9_readParams_155 (hZ : zO b e D A X) (j : Nat → rx_K) (hj : ∀ k pc, [30][k]? = some pc → rx_OK (zV b e D A X) mX9_readParams 2 pc (j k)) : rx_OK (zV b e D A X) mX9_readParams 2 155 (vX9_readParams_155 j) := by
  unfold vX9_readParams_155
  refine s_aload_n hZ.1 dX9_readParams_155 rfl ?_
  refine s_callV hZ.1 (Met_X9_take hZ) (Nat.le_of_ble_eq_true rfl) vy_X9_take zcl9 zw1754 zw14 (Or.inl zw1752) dX9_readParams_156 ?_
  exact s_if_ne dX9_readParams_159 (by decide) (wX9_readParams_164 hZ j hj) (wX9_readParams_162 hZ j hj)
noncomputable def vX9_readParams_150 (j : Nat → rx_K) : rx_K := o_st rx_isI 2 (o_ld rx_isI 2 (o_c1 rx_eq (vX9_readParams_164 j) (vX9_readParams_155 j)))
set_option maxRecDepth 20000 in
theorem wX9_readParams_150 (hZ : zO b e D A X) (j : Nat → rx_K) (hj : ∀ k pc, [30][k]? = some pc → rx_OK (zV b e D A X) mX9_readParams 2 pc (j k)) : rx_OK (zV b e D A X) mX9_readParams 2 150 (vX9_readParams_150 j) := by
  unfold vX9_readParams_150
  refine s_istore_n hZ.1 dX9_readParams_150 rfl (Nat.le_of_ble_eq_true rfl) ?_
  refine s_iload_n hZ.1 dX9_readParams_151 rfl ?_
  exact s_if_eq dX9_readParams_152 (by decide) (wX9_readParams_164 hZ j hj) (wX9_readParams_155 hZ j hj)
noncomputable def vX9_readParams_149 (j : Nat → rx_K) : rx_K := o_const 0 ((vX9_readParams_150 j))
set_option maxRecDepth 20000 in
theorem wX9_readParams_149 (hZ : zO b e D A X) (j : Nat → rx_K) (hj : ∀ k pc, [30][k]? = some pc → rx_OK (zV b e D A X) mX9_readParams 2 pc (j k)) : rx_OK (zV b e D A X) mX9_readParams 2 149 (vX9_readParams_149 j) := by
  unfold vX9_readParams_149
  refine s_iconst dX9_readParams_149 (by decide +kernel) ?_
  exact (wX9_readParams_150 hZ j hj)
noncomputable def vX9_readParams_145 (j : Nat → rx_K) : rx_K := o_const 8 ((vX9_readParams_150 j))
set_option maxRecDepth 20000 in
theorem wX9_readParams_145 (hZ : zO b e D A X) (j : Nat → rx_K) (hj : ∀ k pc, [30][k]? = some pc → rx_OK (zV b e D A X) mX9_readParams 2 pc (j k)) : rx_OK (zV b e D A X) mX9_readParams 2 145 (vX9_readParams_145 j) := by
  unfold vX9_readParams_145
  refine s_iconst dX9_readParams_145 (by decide +kernel) ?_
  exact s_goto dX9_readParams_146 (by decide) (wX9_readParams_150 hZ j hj)
noncomputable def vX9_readParams_135 (j : Nat → rx_K) : rx_K := o_ld rx_isR 0 (o_callV 0 9 FX9_now (o_const 1152 (o_c2 rx_eq (vX9_readParams_145 j) (vX9_readParams_149 j))))
set_option maxRecDepth 20000 in
theorem wX9_readParams_135 (hZ : zO b e D A X) (j : Nat → rx_K) (hj : ∀ k pc, [30][k]? = some pc → rx_OK (zV b e D A X) mX9_readParams 2 pc (j k)) : rx_OK (zV b e D A X) mX9_readParams 2 135 (vX9_readParams_135 j) := by
  unfold vX9_readParams_135
  refine s_aload_n hZ.1 dX9_readParams_135 rfl ?_
  refine s_callV hZ.1 (Met_X9_now hZ) (Nat.le_of_ble_eq_true rfl) vy_X9_now zcl9 zw1746 zw12 (Or.inl zw1744) dX9_readParams_136 ?_
  refine s_sipush dX9_readParams_139 (by decide +kernel) ?_
  exact s_icmp_ne dX9_readParams_142 (by decide) (wX9_readParams_149 hZ j hj) (wX9_readParams_145 hZ j hj)
noncomputable def vX9_readParams_133 (j : Nat → rx_K) : rx_K := o_const 0 (o_ret1 rx_isZ)
set_option maxRecDepth 20000 in
theorem wX9_readParams_133 (hZ : zO b e D A X) (j : Nat → rx_K) (hj : ∀ k pc, [30][k]? = some pc → rx_OK (zV b e D A X) mX9_readParams 2 pc (j k)) : rx_OK (zV b e D A X) mX9_readParams 2 133 (vX9_readParams_133 j) := by
  unfold vX9_readParams_133
  refine s_iconst dX9_readParams_133 (by decide +kernel) ?_
  exact s_zret rx_z_ok rfl dX9_readParams_134
noncomputable def vX9_readParams_125 (j : Nat → rx_K) : rx_K := o_ld rx_isR 0 (o_const 24 (o_callV 1 9 FX9_need (o_c1 rx_eq (vX9_readParams_133 j) (vX9_readParams_135 j))))
set_option maxRecDepth 20000 in
theorem wX9_readParams_125 (hZ : zO b e D A X) (j : Nat → rx_K) (hj : ∀ k pc, [30][k]? = some pc → rx_OK (zV b e D A X) mX9_readParams 2 pc (j k)) : rx_OK (zV b e D A X) mX9_readParams 2 125 (vX9_readParams_125 j) := by
  unfold vX9_readParams_125
  refine s_aload_n hZ.1 dX9_readParams_125 rfl ?_
  refine s_iconst dX9_readParams_126 (by decide +kernel) ?_
  refine s_callV hZ.1 (Met_X9_need hZ) (Nat.le_of_ble_eq_true rfl) vy_X9_need zcl9 zw1779 zw19 (Or.inl zw1777) dX9_readParams_127 ?_
  exact s_if_ne dX9_readParams_130 (by decide) (wX9_readParams_135 hZ j hj) (wX9_readParams_133 hZ j hj)
noncomputable def vX9_readParams_107 (j : Nat → rx_K) : rx_K := o_ast 1 (fun v => v) rx_isL (o_ld rx_isR 1 (o_dup (o_getf 7 9 (o_const 8 (o_bi (fun x y => x + y) (o_putf rx_isI 7 9 (o_ld rx_isR 0 (o_callV 0 9 FX9_take (o_c1 rx_eq (vX9_readParams_133 j) (vX9_readParams_125 j))))))))))
set_option maxRecDepth 20000 in
theorem wX9_readParams_107 (hZ : zO b e D A X) (j : Nat → rx_K) (hj : ∀ k pc, [30][k]? = some pc → rx_OK (zV b e D A X) mX9_readParams 2 pc (j k)) : rx_OK (zV b e D A X) mX9_readParams 2 107 (vX9_readParams_107 j) := by
  unfold vX9_readParams_107
  refine s_last (tt := 1) rfl dX9_readParams_107 ?_
  refine s_aload_n hZ.1 dX9_readParams_108 rfl ?_
  refine s_dup hZ.1 dX9_readParams_109 ?_
  refine yg7_9 dX9_readParams_110 zw1027 ?_
  refine s_iconst dX9_readParams_113 (by decide +kernel) ?_
  refine s_iadd dX9_readParams_114 ?_
  refine yp7_9 hZ.1 dX9_readParams_115 zw1027 ?_
  refine s_aload_n hZ.1 dX9_readParams_118 rfl ?_
  refine s_callV hZ.1 (Met_X9_take hZ) (Nat.le_of_ble_eq_true rfl) vy_X9_take zcl9 zw1754 zw14 (Or.inl zw1752) dX9_readParams_119 ?_
  exact s_if_eq dX9_readParams_122 (by decide) (wX9_readParams_133 hZ j hj) (wX9_readParams_125 hZ j hj)
noncomputable def vX9_readParams_98 (j : Nat → rx_K) : rx_K := o_ld rx_isR 0 (o_getf 9 4 (o_ld rx_isR 0 (o_getf 9 8 (o_ald 1 ((vX9_readParams_107 j))))))
set_option maxRecDepth 20000 in
theorem wX9_readParams_98 (hZ : zO b e D A X) (j : Nat → rx_K) (hj : ∀ k pc, [30][k]? = some pc → rx_OK (zV b e D A X) mX9_readParams 2 pc (j k)) : rx_OK (zV b e D A X) mX9_readParams 2 98 (vX9_readParams_98 j) := by
  unfold vX9_readParams_98
  refine s_aload_n hZ.1 dX9_readParams_98 rfl ?_
  refine yg9_4 dX9_readParams_99 zw586 ?_
  refine s_aload_n hZ.1 dX9_readParams_102 rfl ?_
  refine yg9_8 dX9_readParams_103 zw592 ?_
  refine s_lald (tt := 1) rfl dX9_readParams_106 ?_
  exact (wX9_readParams_107 hZ j hj)
noncomputable def vX9_readParams_92 (j : Nat → rx_K) : rx_K := o_const 147573952589676412921 ((vX9_readParams_107 j))
set_option maxRecDepth 20000 in
theorem wX9_readParams_92 (hZ : zO b e D A X) (j : Nat → rx_K) (hj : ∀ k pc, [30][k]? = some pc → rx_OK (zV b e D A X) mX9_readParams 2 pc (j k)) : rx_OK (zV b e D A X) mX9_readParams 2 92 (vX9_readParams_92 j) := by
  unfold vX9_readParams_92
  refine s_ldc2 dX9_readParams_92 zw1795 (by decide +kernel) ?_
  exact s_goto dX9_readParams_95 (by decide) (wX9_readParams_107 hZ j hj)
noncomputable def vX9_readParams_75 (j : Nat → rx_K) : rx_K := o_ld rx_isR 1 (o_getf 7 10 (o_ld rx_isR 1 (o_getf 7 9 (o_ld rx_isR 0 (o_callV 0 9 FX9_now (o_const 208 (o_c2 rx_eq (vX9_readParams_92 j) (vX9_readParams_98 j))))))))
set_option maxRecDepth 20000 in
theorem wX9_readParams_75 (hZ : zO b e D A X) (j : Nat → rx_K) (hj : ∀ k pc, [30][k]? = some pc → rx_OK (zV b e D A X) mX9_readParams 2 pc (j k)) : rx_OK (zV b e D A X) mX9_readParams 2 75 (vX9_readParams_75 j) := by
  unfold vX9_readParams_75
  refine s_aload_n hZ.1 dX9_readParams_75 rfl ?_
  refine yg7_10 dX9_readParams_76 zw1034 ?_
  refine s_aload_n hZ.1 dX9_readParams_79 rfl ?_
  refine yg7_9 dX9_readParams_80 zw1027 ?_
  refine s_aload_n hZ.1 dX9_readParams_83 rfl ?_
  refine s_callV hZ.1 (Met_X9_now hZ) (Nat.le_of_ble_eq_true rfl) vy_X9_now zcl9 zw1746 zw12 (Or.inl zw1744) dX9_readParams_84 ?_
  refine s_bipush dX9_readParams_87 (by decide +kernel) ?_
  exact s_icmp_ne dX9_readParams_89 (by decide) (wX9_readParams_98 hZ j hj) (wX9_readParams_92 hZ j hj)
noncomputable def vX9_readParams_69 (j : Nat → rx_K) : rx_K := o_ld rx_isR 0 (o_const 24 (o_callV 1 9 FX9_stop (o_ret1 rx_isZ)))
set_option maxRecDepth 20000 in
theorem wX9_readParams_69 (hZ : zO b e D A X) (j : Nat → rx_K) (hj : ∀ k pc, [30][k]? = some pc → rx_OK (zV b e D A X) mX9_readParams 2 pc (j k)) : rx_OK (zV b e D A X) mX9_readParams 2 69 (vX9_readParams_69 j) := by
  unfold vX9_readParams_69
  refine s_aload_n hZ.1 dX9_readParams_69 rfl ?_
  refine s_iconst dX9_readParams_70 (by decide +kernel) ?_
  refine s_callV hZ.1 (Met_X9_stop hZ) (Nat.le_of_ble_eq_true rfl) vy_X9_stop zcl9 zw1758 zw15 (Or.inl zw1756) dX9_readParams_71 ?_
  exact s_zret rx_z_ok rfl dX9_readParams_74
noncomputable def vX9_readParams_61 (j : Nat → rx_K) : rx_K := o_ld rx_isR 1 (o_getf 7 9 (o_const 32 (o_c2 rx_lt (vX9_readParams_75 j) (vX9_readParams_69 j))))
set_option maxRecDepth 20000 in
theorem wX9_readParams_61 (hZ : zO b e D A X) (j : Nat → rx_K) (hj : ∀ k pc, [30][k]? = some pc → rx_OK (zV b e D A X) mX9_readParams 2 pc (j k)) : rx_OK (zV b e D A X) mX9_readParams 2 61 (vX9_readParams_61 j) := by
  unfold vX9_readParams_61
  refine s_aload_n hZ.1 dX9_readParams_61 rfl ?_
  refine yg7_9 dX9_readParams_62 zw1027 ?_
  refine s_iconst dX9_readParams_65 (by decide +kernel) ?_
  exact s_icmp_lt dX9_readParams_66 (by decide) (wX9_readParams_75 hZ j hj) (wX9_readParams_69 hZ j hj)
noncomputable def vX9_readParams_56 (j : Nat → rx_K) : rx_K := o_ld rx_isR 0 (o_callV 0 9 FX9_miss (o_ret1 rx_isZ))
set_option maxRecDepth 20000 in
theorem wX9_readParams_56 (hZ : zO b e D A X) (j : Nat → rx_K) (hj : ∀ k pc, [30][k]? = some pc → rx_OK (zV b e D A X) mX9_readParams 2 pc (j k)) : rx_OK (zV b e D A X) mX9_readParams 2 56 (vX9_readParams_56 j) := by
  unfold vX9_readParams_56
  refine s_aload_n hZ.1 dX9_readParams_56 rfl ?_
  refine s_callV hZ.1 (Met_X9_miss hZ) (Nat.le_of_ble_eq_true rfl) vy_X9_miss zcl9 zw1762 zw16 (Or.inl zw1760) dX9_readParams_57 ?_
  exact s_zret rx_z_ok rfl dX9_readParams_60
noncomputable def vX9_readParams_48 (j : Nat → rx_K) : rx_K := o_ld rx_isR 0 (o_callV 0 9 FX9_now (o_const 16 (o_c2 rx_eq (vX9_readParams_61 j) (vX9_readParams_56 j))))
set_option maxRecDepth 20000 in
theorem wX9_readParams_48 (hZ : zO b e D A X) (j : Nat → rx_K) (hj : ∀ k pc, [30][k]? = some pc → rx_OK (zV b e D A X) mX9_readParams 2 pc (j k)) : rx_OK (zV b e D A X) mX9_readParams 2 48 (vX9_readParams_48 j) := by
  unfold vX9_readParams_48
  refine s_aload_n hZ.1 dX9_readParams_48 rfl ?_
  refine s_callV hZ.1 (Met_X9_now hZ) (Nat.le_of_ble_eq_true rfl) vy_X9_now zcl9 zw1746 zw12 (Or.inl zw1744) dX9_readParams_49 ?_
  refine s_iconst dX9_readParams_52 (by decide +kernel) ?_
  exact s_icmp_eq dX9_readParams_53 (by decide) (wX9_readParams_61 hZ j hj) (wX9_readParams_56 hZ j hj)
noncomputable def vX9_readParams_39 (j : Nat → rx_K) : rx_K := o_ld rx_isR 0 (o_callV 0 9 FX9_now (o_const 208 (o_c2 rx_eq (vX9_readParams_61 j) (vX9_readParams_48 j))))
set_option maxRecDepth 20000 in
theorem wX9_readParams_39 (hZ : zO b e D A X) (j : Nat → rx_K) (hj : ∀ k pc, [30][k]? = some pc → rx_OK (zV b e D A X) mX9_readParams 2 pc (j k)) : rx_OK (zV b e D A X) mX9_readParams 2 39 (vX9_readParams_39 j) := by
  unfold vX9_readParams_39
  refine s_aload_n hZ.1 dX9_readParams_39 rfl ?_
  refine s_callV hZ.1 (Met_X9_now hZ) (Nat.le_of_ble_eq_true rfl) vy_X9_now zcl9 zw1746 zw12 (Or.inl zw1744) dX9_readParams_40 ?_
  refine s_bipush dX9_readParams_43 (by decide +kernel) ?_
  exact s_icmp_eq dX9_readParams_45 (by decide) (wX9_readParams_61 hZ j hj) (wX9_readParams_48 hZ j hj)
noncomputable def vX9_readParams_35 (j : Nat → rx_K) : rx_K := o_ld rx_isI 2 (o_c1 rx_eq (vX9_readParams_170 j) (vX9_readParams_39 j))
set_option maxRecDepth 20000 in
theorem wX9_readParams_35 (hZ : zO b e D A X) (j : Nat → rx_K) (hj : ∀ k pc, [30][k]? = some pc → rx_OK (zV b e D A X) mX9_readParams 2 pc (j k)) : rx_OK (zV b e D A X) mX9_readParams 2 35 (vX9_readParams_35 j) := by
  unfold vX9_readParams_35
  refine s_iload_n hZ.1 dX9_readParams_35 rfl ?_
  exact s_if_eq dX9_readParams_36 (by decide) (wX9_readParams_170 hZ j hj) (wX9_readParams_39 hZ j hj)
noncomputable def vX9_readParams_30 (j : Nat → rx_K) : rx_K := o_ld rx_isI 3 (o_const 32 (o_c2 (fun h x y => rx_lt h y x) (vX9_readParams_170 j) (vX9_readParams_35 j)))
set_option maxRecDepth 20000 in
theorem wX9_readParams_30 (hZ : zO b e D A X) (j : Nat → rx_K) (hj : ∀ k pc, [30][k]? = some pc → rx_OK (zV b e D A X) mX9_readParams 2 pc (j k)) : rx_OK (zV b e D A X) mX9_readParams 2 30 (vX9_readParams_30 j) := by
  unfold vX9_readParams_30
  refine s_iload_n hZ.1 dX9_readParams_30 rfl ?_
  refine s_iconst dX9_readParams_31 (by decide +kernel) ?_
  exact s_icmp_gt dX9_readParams_32 (by decide) (wX9_readParams_170 hZ j hj) (wX9_readParams_35 hZ j hj)
noncomputable def vX9_readParams_27 (j : Nat → rx_K) : rx_K := o_st rx_isI 2 (o_const 0 (o_st rx_isI 3 ((vX9_readParams_30 j))))
set_option maxRecDepth 20000 in
theorem wX9_readParams_27 (hZ : zO b e D A X) (j : Nat → rx_K) (hj : ∀ k pc, [30][k]? = some pc → rx_OK (zV b e D A X) mX9_readParams 2 pc (j k)) : rx_OK (zV b e D A X) mX9_readParams 2 27 (vX9_readParams_27 j) := by
  unfold vX9_readParams_27
  refine s_istore_n hZ.1 dX9_readParams_27 rfl (Nat.le_of_ble_eq_true rfl) ?_
  refine s_iconst dX9_readParams_28 (by decide +kernel) ?_
  refine s_istore_n hZ.1 dX9_readParams_29 rfl (Nat.le_of_ble_eq_true rfl) ?_
  exact (wX9_readParams_30 hZ j hj)
noncomputable def vX9_readParams_26 (j : Nat → rx_K) : rx_K := o_const 0 ((vX9_readParams_27 j))
set_option maxRecDepth 20000 in
theorem wX9_readParams_26 (hZ : zO b e D A X) (j : Nat → rx_K) (hj : ∀ k pc, [30][k]? = some pc → rx_OK (zV b e D A X) mX9_readParams 2 pc (j k)) : rx_OK (zV b e D A X) mX9_readParams 2 26 (vX9_readParams_26 j) := by
  unfold vX9_readParams_26
  refine s_iconst dX9_readParams_26 (by decide +kernel) ?_
  exact (wX9_readParams_27 hZ j hj)
noncomputable def vX9_readParams_22 (j : Nat → rx_K) : rx_K := o_const 8 ((vX9_readParams_27 j))
set_option maxRecDepth 20000 in
theorem wX9_readParams_22 (hZ : zO b e D A X) (j : Nat → rx_K) (hj : ∀ k pc, [30][k]? = some pc → rx_OK (zV b e D A X) mX9_readParams 2 pc (j k)) : rx_OK (zV b e D A X) mX9_readParams 2 22 (vX9_readParams_22 j) := by
  unfold vX9_readParams_22
  refine s_iconst dX9_readParams_22 (by decide +kernel) ?_
  exact s_goto dX9_readParams_23 (by decide) (wX9_readParams_27 hZ j hj)
noncomputable def vX9_readParams_12 (j : Nat → rx_K) : rx_K := o_ld rx_isR 0 (o_callV 0 9 FX9_now (o_const 1128 (o_c2 rx_eq (vX9_readParams_26 j) (vX9_readParams_22 j))))
set_option maxRecDepth 20000 in
theorem wX9_readParams_12 (hZ : zO b e D A X) (j : Nat → rx_K) (hj : ∀ k pc, [30][k]? = some pc → rx_OK (zV b e D A X) mX9_readParams 2 pc (j k)) : rx_OK (zV b e D A X) mX9_readParams 2 12 (vX9_readParams_12 j) := by
  unfold vX9_readParams_12
  refine s_aload_n hZ.1 dX9_readParams_12 rfl ?_
  refine s_callV hZ.1 (Met_X9_now hZ) (Nat.le_of_ble_eq_true rfl) vy_X9_now zcl9 zw1746 zw12 (Or.inl zw1744) dX9_readParams_13 ?_
  refine s_sipush dX9_readParams_16 (by decide +kernel) ?_
  exact s_icmp_eq dX9_readParams_19 (by decide) (wX9_readParams_26 hZ j hj) (wX9_readParams_22 hZ j hj)
noncomputable def vX9_readParams_10 (j : Nat → rx_K) : rx_K := o_const 0 (o_ret1 rx_isZ)
set_option maxRecDepth 20000 in
theorem wX9_readParams_10 (hZ : zO b e D A X) (j : Nat → rx_K) (hj : ∀ k pc, [30][k]? = some pc → rx_OK (zV b e D A X) mX9_readParams 2 pc (j k)) : rx_OK (zV b e D A X) mX9_readParams 2 10 (vX9_readParams_10 j) := by
  unfold vX9_readParams_10
  refine s_iconst dX9_readParams_10 (by decide +kernel) ?_
  exact s_zret rx_z_ok rfl dX9_readParams_11
noncomputable def vX9_readParams_0 (j : Nat → rx_K) : rx_K := o_ld rx_isR 0 (o_const 1120 (o_callV 1 9 FX9_need (o_c1 rx_eq (vX9_readParams_10 j) (vX9_readParams_12 j))))
set_option maxRecDepth 20000 in
theorem wX9_readParams_0 (hZ : zO b e D A X) (j : Nat → rx_K) (hj : ∀ k pc, [30][k]? = some pc → rx_OK (zV b e D A X) mX9_readParams 2 pc (j k)) : rx_OK (zV b e D A X) mX9_readParams 2 0 (vX9_readParams_0 j) := by
  unfold vX9_readParams_0
  refine s_aload_n hZ.1 dX9_readParams_0 rfl ?_
  refine s_sipush dX9_readParams_1 (by decide +kernel) ?_
  refine s_callV hZ.1 (Met_X9_need hZ) (Nat.le_of_ble_eq_true rfl) vy_X9_need zcl9 zw1779 zw19 (Or.inl zw1777) dX9_readParams_4 ?_
  exact s_if_ne dX9_readParams_7 (by decide) (wX9_readParams_12 hZ j hj) (wX9_readParams_10 hZ j hj)
noncomputable def vhX9_readParams (j : Nat → rx_K) : List rx_K := [vX9_readParams_30 j]
theorem vlX9_readParams (hZ : zO b e D A X) : ∀ n k pc, [30][k]? = some pc → rx_OK (zV b e D A X) mX9_readParams 2 pc (rx_J (vhX9_readParams) n k) := rx_loop fun j hj k pc h => by
  match k, h with
  | 0, h =>
    have e9 := Option.some.inj (show some 30 = some pc from h)
    subst e9
    exact wX9_readParams_30 hZ j hj
  | _ + 1, h => exact absurd h (by simp)
noncomputable def FX9_readParams : List Nat → rx_H → Option (Nat × rx_H) := rx_ent 4 (vX9_readParams_0 (rx_J (vhX9_readParams) 4000000000))
theorem Met_X9_readParams (hZ : zO b e D A X) : rx_Met (zV b e D A X) 2 yX9_readParams mX9_readParams (FX9_readParams) := rx_entry hZ.1 (wX9_readParams_0 hZ _ (vlX9_readParams hZ 4000000000)) (by decide +kernel) rfl (fun h => by cases h)
abbrev mX9_readTyped : rx_M := (RX9, cX9_readTyped, 3, (some .boolean), false)
theorem vy_X9_readTyped : rx_Y (zV b e D A X) yX9_readTyped mX9_readTyped 1 := ⟨zw1799, zw414, by decide, by decide +kernel, by decide +kernel, by decide +kernel⟩
noncomputable def vX9_readTyped_208 : rx_K := o_ld rx_isR 0 (o_const 0 (o_putf rx_isI 9 12 (o_ld rx_isR 0 (o_const 1272 (o_callV 1 9 FX9_need (o_ret1 rx_isZ))))))
set_option maxRecDepth 20000 in
theorem wX9_readTyped_208 (hZ : zO b e D A X) : rx_OK (zV b e D A X) mX9_readTyped 3 208 vX9_readTyped_208 := by
  unfold vX9_readTyped_208
  refine s_aload_n hZ.1 dX9_readTyped_208 rfl ?_
  refine s_iconst dX9_readTyped_209 (by decide +kernel) ?_
  refine yp9_12 hZ.1 dX9_readTyped_210 zw598 ?_
  refine s_aload_n hZ.1 dX9_readTyped_213 rfl ?_
  refine s_sipush dX9_readTyped_214 (by decide +kernel) ?_
  refine s_callV hZ.1 (Met_X9_need hZ) (Nat.le_of_ble_eq_true rfl) vy_X9_need zcl9 zw1779 zw19 (Or.inl zw1777) dX9_readTyped_217 ?_
  exact s_zret rx_z_ok rfl dX9_readTyped_220
noncomputable def vX9_readTyped_196 : rx_K := o_ld rx_isR 0 (o_const 1288 (o_putf rx_isI 9 12 (o_ld rx_isR 0 (o_callV 0 9 FX9_take (o_ret1 rx_isZ)))))
set_option maxRecDepth 20000 in
theorem wX9_readTyped_196 (hZ : zO b e D A X) : rx_OK (zV b e D A X) mX9_readTyped 3 196 vX9_readTyped_196 := by
  unfold vX9_readTyped_196
  refine s_aload_n hZ.1 dX9_readTyped_196 rfl ?_
  refine s_sipush dX9_readTyped_197 (by decide +kernel) ?_
  refine yp9_12 hZ.1 dX9_readTyped_200 zw598 ?_
  refine s_aload_n hZ.1 dX9_readTyped_203 rfl ?_
  refine s_callV hZ.1 (Met_X9_take hZ) (Nat.le_of_ble_eq_true rfl) vy_X9_take zcl9 zw1754 zw14 (Or.inl zw1752) dX9_readTyped_204 ?_
  exact s_zret rx_z_ok rfl dX9_readTyped_207
noncomputable def vX9_readTyped_186 : rx_K := o_ld rx_isR 0 (o_callV 0 9 FX9_now (o_const 1288 (o_c2 rx_eq vX9_readTyped_196 vX9_readTyped_208)))
set_option maxRecDepth 20000 in
theorem wX9_readTyped_186 (hZ : zO b e D A X) : rx_OK (zV b e D A X) mX9_readTyped 3 186 vX9_readTyped_186 := by
  unfold vX9_readTyped_186
  refine s_aload_n hZ.1 dX9_readTyped_186 rfl ?_
  refine s_callV hZ.1 (Met_X9_now hZ) (Nat.le_of_ble_eq_true rfl) vy_X9_now zcl9 zw1746 zw12 (Or.inl zw1744) dX9_readTyped_187 ?_
  refine s_sipush dX9_readTyped_190 (by decide +kernel) ?_
  exact s_icmp_ne dX9_readTyped_193 (by decide) (wX9_readTyped_208 hZ) (wX9_readTyped_196 hZ)
noncomputable def vX9_readTyped_181 : rx_K := o_ld rx_isR 0 (o_callV 0 9 FX9_miss (o_ret1 rx_isZ))
set_option maxRecDepth 20000 in
theorem wX9_readTyped_181 (hZ : zO b e D A X) : rx_OK (zV b e D A X) mX9_readTyped 3 181 vX9_readTyped_181 := by
  unfold vX9_readTyped_181
  refine s_aload_n hZ.1 dX9_readTyped_181 rfl ?_
  refine s_callV hZ.1 (Met_X9_miss hZ) (Nat.le_of_ble_eq_true rfl) vy_X9_miss zcl9 zw1762 zw16 (Or.inl zw1760) dX9_readTyped_182 ?_
  exact s_zret rx_z_ok rfl dX9_readTyped_185
noncomputable def vX9_readTyped_177 : rx_K := o_ld rx_isI 2 (o_c1 rx_eq vX9_readTyped_186 vX9_readTyped_181)
set_option maxRecDepth 20000 in
theorem wX9_readTyped_177 (hZ : zO b e D A X) : rx_OK (zV b e D A X) mX9_readTyped 3 177 vX9_readTyped_177 := by
  unfold vX9_readTyped_177
  refine s_iload_n hZ.1 dX9_readTyped_177 rfl ?_
  exact s_if_eq dX9_readTyped_178 (by decide) (wX9_readTyped_186 hZ) (wX9_readTyped_181 hZ)
noncomputable def vX9_readTyped_176 : rx_K := o_ret1 rx_isZ
set_option maxRecDepth 20000 in
theorem wX9_readTyped_176 (hZ : zO b e D A X) : rx_OK (zV b e D A X) mX9_readTyped 3 176 vX9_readTyped_176 := by
  unfold vX9_readTyped_176
  exact s_zret rx_z_ok rfl dX9_readTyped_176
noncomputable def vX9_readTyped_175 : rx_K := o_const 0 (vX9_readTyped_176)
set_option maxRecDepth 20000 in
theorem wX9_readTyped_175 (hZ : zO b e D A X) : rx_OK (zV b e D A X) mX9_readTyped 3 175 vX9_readTyped_175 := by
  unfold vX9_readTyped_175
  refine s_iconst dX9_readTyped_175 (by decide +kernel) ?_
  exact (wX9_readTyped_176 hZ)
noncomputable def vX9_readTyped_171 : rx_K := o_const 8 (vX9_readTyped_176)
set_option maxRecDepth 20000 in
theorem wX9_readTyped_171 (hZ : zO b e D A X) : rx_OK (zV b e D A X) mX9_readTyped 3 171 vX9_readTyped_171 := by
  unfold vX9_readTyped_171
  refine s_iconst dX9_readTyped_171 (by decide +kernel) ?_
  exact s_goto dX9_readTyped_172 (by decide) (wX9_readTyped_176 hZ)
noncomputable def vX9_readTyped_164 : rx_K := o_ld rx_isR 0 (o_getf 9 9 (o_c1 rx_eq vX9_readTyped_171 vX9_readTyped_175))
set_option maxRecDepth 20000 in
theorem wX9_readTyped_164 (hZ : zO b e D A X) : rx_OK (zV b e D A X) mX9_readTyped 3 164 vX9_readTyped_164 := by
  unfold vX9_readTyped_164
  refine s_aload_n hZ.1 dX9_readTyped_164 rfl ?_
  refine yg9_9 dX9_readTyped_165 zw593 ?_
  exact s_if_ne dX9_readTyped_168 (by decide) (wX9_readTyped_175 hZ) (wX9_readTyped_171 hZ)
noncomputable def vX9_readTyped_154 : rx_K := o_ld rx_isR 0 (o_callV 0 9 FX9_now (o_const 1784 (o_c2 rx_eq vX9_readTyped_164 vX9_readTyped_208)))
set_option maxRecDepth 20000 in
theorem wX9_readTyped_154 (hZ : zO b e D A X) : rx_OK (zV b e D A X) mX9_readTyped 3 154 vX9_readTyped_154 := by
  unfold vX9_readTyped_154
  refine s_aload_n hZ.1 dX9_readTyped_154 rfl ?_
  refine s_callV hZ.1 (Met_X9_now hZ) (Nat.le_of_ble_eq_true rfl) vy_X9_now zcl9 zw1746 zw12 (Or.inl zw1744) dX9_readTyped_155 ?_
  refine s_sipush dX9_readTyped_158 (by decide +kernel) ?_
  exact s_icmp_ne dX9_readTyped_161 (by decide) (wX9_readTyped_208 hZ) (wX9_readTyped_164 hZ)
noncomputable def vX9_readTyped_141 : rx_K := o_ld rx_isR 1 (o_const 8 (o_putf rx_isI 7 0 (o_ld rx_isR 0 (o_ld rx_isR 1 (o_callV 1 9 FX9_readParams (o_c1 rx_eq vX9_readTyped_164 vX9_readTyped_154))))))
set_option maxRecDepth 20000 in
theorem wX9_readTyped_141 (hZ : zO b e D A X) : rx_OK (zV b e D A X) mX9_readTyped 3 141 vX9_readTyped_141 := by
  unfold vX9_readTyped_141
  refine s_aload_n hZ.1 dX9_readTyped_141 rfl ?_
  refine s_iconst dX9_readTyped_142 (by decide +kernel) ?_
  refine yp7_0 hZ.1 dX9_readTyped_143 zw951 ?_
  refine s_aload_n hZ.1 dX9_readTyped_146 rfl ?_
  refine s_aload_n hZ.1 dX9_readTyped_147 rfl ?_
  refine s_callV hZ.1 (Met_X9_readParams hZ) (Nat.le_of_ble_eq_true rfl) vy_X9_readParams zcl9 zw1793 zw21 (Or.inl zw1791) dX9_readTyped_148 ?_
  exact s_if_eq dX9_readTyped_151 (by decide) (wX9_readTyped_164 hZ) (wX9_readTyped_154 hZ)
noncomputable def vX9_readTyped_131 : rx_K := o_ld rx_isR 0 (o_callV 0 9 FX9_now (o_const 1120 (o_c2 rx_eq vX9_readTyped_141 vX9_readTyped_177)))
set_option maxRecDepth 20000 in
theorem wX9_readTyped_131 (hZ : zO b e D A X) : rx_OK (zV b e D A X) mX9_readTyped 3 131 vX9_readTyped_131 := by
  unfold vX9_readTyped_131
  refine s_aload_n hZ.1 dX9_readTyped_131 rfl ?_
  refine s_callV hZ.1 (Met_X9_now hZ) (Nat.le_of_ble_eq_true rfl) vy_X9_now zcl9 zw1746 zw12 (Or.inl zw1744) dX9_readTyped_132 ?_
  refine s_sipush dX9_readTyped_135 (by decide +kernel) ?_
  exact s_icmp_ne dX9_readTyped_138 (by decide) (wX9_readTyped_177 hZ) (wX9_readTyped_141 hZ)
noncomputable def vX9_readTyped_129 : rx_K := o_const 0 (o_ret1 rx_isZ)
set_option maxRecDepth 20000 in
theorem wX9_readTyped_129 (hZ : zO b e D A X) : rx_OK (zV b e D A X) mX9_readTyped 3 129 vX9_readTyped_129 := by
  unfold vX9_readTyped_129
  refine s_iconst dX9_readTyped_129 (by decide +kernel) ?_
  exact s_zret rx_z_ok rfl dX9_readTyped_130
noncomputable def vX9_readTyped_101 : rx_K := o_ld rx_isR 1 (o_ld rx_isR 0 (o_getf 9 8 (o_putf rx_isI 7 11 (o_ld rx_isR 1 (o_ld rx_isR 0 (o_getf 9 4 (o_ld rx_isR 0 (o_getf 9 8 (o_ald 1 (o_putf rx_isL 7 7 (o_ld rx_isR 0 (o_callV 0 9 FX9_take (o_c1 rx_eq vX9_readTyped_129 vX9_readTyped_131)))))))))))))
set_option maxRecDepth 20000 in
theorem wX9_readTyped_101 (hZ : zO b e D A X) : rx_OK (zV b e D A X) mX9_readTyped 3 101 vX9_readTyped_101 := by
  unfold vX9_readTyped_101
  refine s_aload_n hZ.1 dX9_readTyped_101 rfl ?_
  refine s_aload_n hZ.1 dX9_readTyped_102 rfl ?_
  refine yg9_8 dX9_readTyped_103 zw592 ?_
  refine yp7_11 hZ.1 dX9_readTyped_106 zw1039 ?_
  refine s_aload_n hZ.1 dX9_readTyped_109 rfl ?_
  refine s_aload_n hZ.1 dX9_readTyped_110 rfl ?_
  refine yg9_4 dX9_readTyped_111 zw586 ?_
  refine s_aload_n hZ.1 dX9_readTyped_114 rfl ?_
  refine yg9_8 dX9_readTyped_115 zw592 ?_
  refine s_lald (tt := 1) rfl dX9_readTyped_118 ?_
  refine yp7_7 hZ.1 dX9_readTyped_119 zw1008 ?_
  refine s_aload_n hZ.1 dX9_readTyped_122 rfl ?_
  refine s_callV hZ.1 (Met_X9_take hZ) (Nat.le_of_ble_eq_true rfl) vy_X9_take zcl9 zw1754 zw14 (Or.inl zw1752) dX9_readTyped_123 ?_
  exact s_if_ne dX9_readTyped_126 (by decide) (wX9_readTyped_131 hZ) (wX9_readTyped_129 hZ)
noncomputable def vX9_readTyped_96 : rx_K := o_ld rx_isR 0 (o_callV 0 9 FX9_miss (o_ret1 rx_isZ))
set_option maxRecDepth 20000 in
theorem wX9_readTyped_96 (hZ : zO b e D A X) : rx_OK (zV b e D A X) mX9_readTyped 3 96 vX9_readTyped_96 := by
  unfold vX9_readTyped_96
  refine s_aload_n hZ.1 dX9_readTyped_96 rfl ?_
  refine s_callV hZ.1 (Met_X9_miss hZ) (Nat.le_of_ble_eq_true rfl) vy_X9_miss zcl9 zw1762 zw16 (Or.inl zw1760) dX9_readTyped_97 ?_
  exact s_zret rx_z_ok rfl dX9_readTyped_100
noncomputable def vX9_readTyped_88 : rx_K := o_ld rx_isR 0 (o_callV 0 9 FX9_now (o_const 24 (o_c2 rx_eq vX9_readTyped_101 vX9_readTyped_96)))
set_option maxRecDepth 20000 in
theorem wX9_readTyped_88 (hZ : zO b e D A X) : rx_OK (zV b e D A X) mX9_readTyped 3 88 vX9_readTyped_88 := by
  unfold vX9_readTyped_88
  refine s_aload_n hZ.1 dX9_readTyped_88 rfl ?_
  refine s_callV hZ.1 (Met_X9_now hZ) (Nat.le_of_ble_eq_true rfl) vy_X9_now zcl9 zw1746 zw12 (Or.inl zw1744) dX9_readTyped_89 ?_
  refine s_iconst dX9_readTyped_92 (by decide +kernel) ?_
  exact s_icmp_eq dX9_readTyped_93 (by decide) (wX9_readTyped_101 hZ) (wX9_readTyped_96 hZ)
noncomputable def vX9_readTyped_86 : rx_K := o_const 0 (o_ret1 rx_isZ)
set_option maxRecDepth 20000 in
theorem wX9_readTyped_86 (hZ : zO b e D A X) : rx_OK (zV b e D A X) mX9_readTyped 3 86 vX9_readTyped_86 := by
  unfold vX9_readTyped_86
  refine s_iconst dX9_readTyped_86 (by decide +kernel) ?_
  exact s_zret rx_z_ok rfl dX9_readTyped_87
noncomputable def vX9_readTyped_76 : rx_K := o_putf rx_isL 7 8 (o_ld rx_isR 0 (o_callV 0 9 FX9_take (o_c1 rx_eq vX9_readTyped_86 vX9_readTyped_88)))
set_option maxRecDepth 20000 in
theorem wX9_readTyped_76 (hZ : zO b e D A X) : rx_OK (zV b e D A X) mX9_readTyped 3 76 vX9_readTyped_76 := by
  unfold vX9_readTyped_76
  refine yp7_8 hZ.1 dX9_readTyped_76 zw1019 ?_
  refine s_aload_n hZ.1 dX9_readTyped_79 rfl ?_
  refine s_callV hZ.1 (Met_X9_take hZ) (Nat.le_of_ble_eq_true rfl) vy_X9_take zcl9 zw1754 zw14 (Or.inl zw1752) dX9_readTyped_80 ?_
  exact s_if_ne dX9_readTyped_83 (by decide) (wX9_readTyped_88 hZ) (wX9_readTyped_86 hZ)
noncomputable def vX9_readTyped_67 : rx_K := o_ld rx_isR 0 (o_getf 9 4 (o_ld rx_isR 0 (o_getf 9 8 (o_ald 1 (vX9_readTyped_76)))))
set_option maxRecDepth 20000 in
theorem wX9_readTyped_67 (hZ : zO b e D A X) : rx_OK (zV b e D A X) mX9_readTyped 3 67 vX9_readTyped_67 := by
  unfold vX9_readTyped_67
  refine s_aload_n hZ.1 dX9_readTyped_67 rfl ?_
  refine yg9_4 dX9_readTyped_68 zw586 ?_
  refine s_aload_n hZ.1 dX9_readTyped_71 rfl ?_
  refine yg9_8 dX9_readTyped_72 zw592 ?_
  refine s_lald (tt := 1) rfl dX9_readTyped_75 ?_
  exact (wX9_readTyped_76 hZ)
noncomputable def vX9_readTyped_61 : rx_K := o_const 147573952589676412921 (vX9_readTyped_76)
set_option maxRecDepth 20000 in
theorem wX9_readTyped_61 (hZ : zO b e D A X) : rx_OK (zV b e D A X) mX9_readTyped 3 61 vX9_readTyped_61 := by
  unfold vX9_readTyped_61
  refine s_ldc2 dX9_readTyped_61 zw1795 (by decide +kernel) ?_
  exact s_goto dX9_readTyped_64 (by decide) (wX9_readTyped_76 hZ)
noncomputable def vX9_readTyped_52 : rx_K := o_ld rx_isR 0 (o_callV 0 9 FX9_now (o_const 208 (o_c2 rx_eq vX9_readTyped_61 vX9_readTyped_67)))
set_option maxRecDepth 20000 in
theorem wX9_readTyped_52 (hZ : zO b e D A X) : rx_OK (zV b e D A X) mX9_readTyped 3 52 vX9_readTyped_52 := by
  unfold vX9_readTyped_52
  refine s_aload_n hZ.1 dX9_readTyped_52 rfl ?_
  refine s_callV hZ.1 (Met_X9_now hZ) (Nat.le_of_ble_eq_true rfl) vy_X9_now zcl9 zw1746 zw12 (Or.inl zw1744) dX9_readTyped_53 ?_
  refine s_bipush dX9_readTyped_56 (by decide +kernel) ?_
  exact s_icmp_ne dX9_readTyped_58 (by decide) (wX9_readTyped_67 hZ) (wX9_readTyped_61 hZ)
noncomputable def vX9_readTyped_46 : rx_K := o_const 147573952589676412905 (vX9_readTyped_76)
set_option maxRecDepth 20000 in
theorem wX9_readTyped_46 (hZ : zO b e D A X) : rx_OK (zV b e D A X) mX9_readTyped 3 46 vX9_readTyped_46 := by
  unfold vX9_readTyped_46
  refine s_ldc2 dX9_readTyped_46 zw1800 (by decide +kernel) ?_
  exact s_goto dX9_readTyped_49 (by decide) (wX9_readTyped_76 hZ)
noncomputable def vX9_readTyped_41 : rx_K := o_ld rx_isR 1 (o_ld rx_isI 2 (o_c1 rx_eq vX9_readTyped_52 vX9_readTyped_46))
set_option maxRecDepth 20000 in
theorem wX9_readTyped_41 (hZ : zO b e D A X) : rx_OK (zV b e D A X) mX9_readTyped 3 41 vX9_readTyped_41 := by
  unfold vX9_readTyped_41
  refine s_aload_n hZ.1 dX9_readTyped_41 rfl ?_
  refine s_iload_n hZ.1 dX9_readTyped_42 rfl ?_
  exact s_if_eq dX9_readTyped_43 (by decide) (wX9_readTyped_52 hZ) (wX9_readTyped_46 hZ)
noncomputable def vX9_readTyped_36 : rx_K := o_ld rx_isR 0 (o_callV 0 9 FX9_miss (o_ret1 rx_isZ))
set_option maxRecDepth 20000 in
theorem wX9_readTyped_36 (hZ : zO b e D A X) : rx_OK (zV b e D A X) mX9_readTyped 3 36 vX9_readTyped_36 := by
  unfold vX9_readTyped_36
  refine s_aload_n hZ.1 dX9_readTyped_36 rfl ?_
  refine s_callV hZ.1 (Met_X9_miss hZ) (Nat.le_of_ble_eq_true rfl) vy_X9_miss zcl9 zw1762 zw16 (Or.inl zw1760) dX9_readTyped_37 ?_
  exact s_zret rx_z_ok rfl dX9_readTyped_40
noncomputable def vX9_readTyped_28 : rx_K := o_ld rx_isR 0 (o_callV 0 9 FX9_now (o_const 16 (o_c2 rx_eq vX9_readTyped_41 vX9_readTyped_36)))
set_option maxRecDepth 20000 in
theorem wX9_readTyped_28 (hZ : zO b e D A X) : rx_OK (zV b e D A X) mX9_readTyped 3 28 vX9_readTyped_28 := by
  unfold vX9_readTyped_28
  refine s_aload_n hZ.1 dX9_readTyped_28 rfl ?_
  refine s_callV hZ.1 (Met_X9_now hZ) (Nat.le_of_ble_eq_true rfl) vy_X9_now zcl9 zw1746 zw12 (Or.inl zw1744) dX9_readTyped_29 ?_
  refine s_iconst dX9_readTyped_32 (by decide +kernel) ?_
  exact s_icmp_eq dX9_readTyped_33 (by decide) (wX9_readTyped_41 hZ) (wX9_readTyped_36 hZ)
noncomputable def vX9_readTyped_19 : rx_K := o_ld rx_isR 0 (o_callV 0 9 FX9_now (o_const 208 (o_c2 rx_eq vX9_readTyped_41 vX9_readTyped_28)))
set_option maxRecDepth 20000 in
theorem wX9_readTyped_19 (hZ : zO b e D A X) : rx_OK (zV b e D A X) mX9_readTyped 3 19 vX9_readTyped_19 := by
  unfold vX9_readTyped_19
  refine s_aload_n hZ.1 dX9_readTyped_19 rfl ?_
  refine s_callV hZ.1 (Met_X9_now hZ) (Nat.le_of_ble_eq_true rfl) vy_X9_now zcl9 zw1746 zw12 (Or.inl zw1744) dX9_readTyped_20 ?_
  refine s_bipush dX9_readTyped_23 (by decide +kernel) ?_
  exact s_icmp_eq dX9_readTyped_25 (by decide) (wX9_readTyped_41 hZ) (wX9_readTyped_28 hZ)
noncomputable def vX9_readTyped_14 : rx_K := o_st rx_isI 2 (o_ld rx_isI 2 (o_c1 rx_eq vX9_readTyped_19 vX9_readTyped_41))
set_option maxRecDepth 20000 in
theorem wX9_readTyped_14 (hZ : zO b e D A X) : rx_OK (zV b e D A X) mX9_readTyped 3 14 vX9_readTyped_14 := by
  unfold vX9_readTyped_14
  refine s_istore_n hZ.1 dX9_readTyped_14 rfl (Nat.le_of_ble_eq_true rfl) ?_
  refine s_iload_n hZ.1 dX9_readTyped_15 rfl ?_
  exact s_if_ne dX9_readTyped_16 (by decide) (wX9_readTyped_41 hZ) (wX9_readTyped_19 hZ)
noncomputable def vX9_readTyped_13 : rx_K := o_const 0 (vX9_readTyped_14)
set_option maxRecDepth 20000 in
theorem wX9_readTyped_13 (hZ : zO b e D A X) : rx_OK (zV b e D A X) mX9_readTyped 3 13 vX9_readTyped_13 := by
  unfold vX9_readTyped_13
  refine s_iconst dX9_readTyped_13 (by decide +kernel) ?_
  exact (wX9_readTyped_14 hZ)
noncomputable def vX9_readTyped_9 : rx_K := o_const 8 (vX9_readTyped_14)
set_option maxRecDepth 20000 in
theorem wX9_readTyped_9 (hZ : zO b e D A X) : rx_OK (zV b e D A X) mX9_readTyped 3 9 vX9_readTyped_9 := by
  unfold vX9_readTyped_9
  refine s_iconst dX9_readTyped_9 (by decide +kernel) ?_
  exact s_goto dX9_readTyped_10 (by decide) (wX9_readTyped_14 hZ)
noncomputable def vX9_readTyped_0 : rx_K := o_ld rx_isR 0 (o_callV 0 9 FX9_now (o_const 192 (o_c2 rx_eq vX9_readTyped_9 vX9_readTyped_13)))
set_option maxRecDepth 20000 in
theorem wX9_readTyped_0 (hZ : zO b e D A X) : rx_OK (zV b e D A X) mX9_readTyped 3 0 vX9_readTyped_0 := by
  unfold vX9_readTyped_0
  refine s_aload_n hZ.1 dX9_readTyped_0 rfl ?_
  refine s_callV hZ.1 (Met_X9_now hZ) (Nat.le_of_ble_eq_true rfl) vy_X9_now zcl9 zw1746 zw12 (Or.inl zw1744) dX9_readTyped_1 ?_
  refine s_bipush dX9_readTyped_4 (by decide +kernel) ?_
  exact s_icmp_ne dX9_readTyped_6 (by decide) (wX9_readTyped_13 hZ) (wX9_readTyped_9 hZ)
noncomputable def FX9_readTyped : List Nat → rx_H → Option (Nat × rx_H) := rx_ent 3 vX9_readTyped_0
theorem Met_X9_readTyped (hZ : zO b e D A X) : rx_Met (zV b e D A X) 3 yX9_readTyped mX9_readTyped (FX9_readTyped) := rx_entry hZ.1 (wX9_readTyped_0 hZ) (by decide +kernel) rfl (fun h => by cases h)
end ZM27

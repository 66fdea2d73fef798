section ZM61
variable {b : Nat} {e : Nat → Value} {D : va_G} {A : Nat → ClassId} {X : State → Prop}
abbrev mX13_isStale : rx_M := (RX13, cX13_isStale, 4, (some .boolean), false)
theorem vy_X13_isStale : rx_Y (zV b e D A X) yX13_isStale mX13_isStale 1 := ⟨zw3729, zw431, by decide, by decide +kernel, by decide +kernel, by decide +kernel⟩
noncomputable def vX13_isStale_72 : rx_K := o_ret1 rx_isZ
set_option maxRecDepth 20000 in
theorem wX13_isStale_72 (hZ : zO b e D A X) : rx_OK (zV b e D A X) mX13_isStale 4 72 vX13_isStale_72 := by
  unfold vX13_isStale_72
  exact s_zret rx_z_ok rfl dX13_isStale_72
noncomputable def vX13_isStale_71 : rx_K := o_const 0 (vX13_isStale_72)
set_option maxRecDepth 20000 in
theorem wX13_isStale_71 (hZ : zO b e D A X) : rx_OK (zV b e D A X) mX13_isStale 4 71 vX13_isStale_71 := by
  unfold vX13_isStale_71
  refine s_iconst dX13_isStale_71 (by decide +kernel) ?_
  exact (wX13_isStale_72 hZ)
noncomputable def vX13_isStale_67 : rx_K := o_const 8 (vX13_isStale_72)
set_option maxRecDepth 20000 in
theorem wX13_isStale_67 (hZ : zO b e D A X) : rx_OK (zV b e D A X) mX13_isStale 4 67 vX13_isStale_67 := by
  unfold vX13_isStale_67
  refine s_iconst dX13_isStale_67 (by decide +kernel) ?_
  exact s_goto dX13_isStale_68 (by decide) (wX13_isStale_72 hZ)
noncomputable def vX13_isStale_52 : rx_K := o_ld rx_isR 0 (o_getf 13 65 (o_ld rx_isI 3 (o_ald 0 (o_ld rx_isR 0 (o_getf 13 127 (o_ld rx_isI 1 (o_ald 0 (o_c2 rx_eq vX13_isStale_71 vX13_isStale_67))))))))
set_option maxRecDepth 20000 in
theorem wX13_isStale_52 (hZ : zO b e D A X) : rx_OK (zV b e D A X) mX13_isStale 4 52 vX13_isStale_52 := by
  unfold vX13_isStale_52
  refine s_aload_n hZ.1 dX13_isStale_52 rfl ?_
  refine yg13_65 dX13_isStale_53 zw4186 ?_
  refine s_iload_n hZ.1 dX13_isStale_56 rfl ?_
  refine s_iald (tt := 0) rfl dX13_isStale_57 ?_
  refine s_aload_n hZ.1 dX13_isStale_58 rfl ?_
  refine yg13_127 dX13_isStale_59 zw4247 ?_
  refine s_iload_n hZ.1 dX13_isStale_62 rfl ?_
  refine s_iald (tt := 0) rfl dX13_isStale_63 ?_
  exact s_icmp_eq dX13_isStale_64 (by decide) (wX13_isStale_71 hZ) (wX13_isStale_67 hZ)
noncomputable def vX13_isStale_43 : rx_K := o_ld rx_isR 0 (o_getf 13 64 (o_ld rx_isI 3 (o_ald 3 (o_c1 rx_eq vX13_isStale_67 vX13_isStale_52))))
set_option maxRecDepth 20000 in
theorem wX13_isStale_43 (hZ : zO b e D A X) : rx_OK (zV b e D A X) mX13_isStale 4 43 vX13_isStale_43 := by
  unfold vX13_isStale_43
  refine s_aload_n hZ.1 dX13_isStale_43 rfl ?_
  refine yg13_64 dX13_isStale_44 zw4185 ?_
  refine s_iload_n hZ.1 dX13_isStale_47 rfl ?_
  refine s_zald (tt := 3) rfl dX13_isStale_48 ?_
  exact s_if_eq dX13_isStale_49 (by decide) (wX13_isStale_67 hZ) (wX13_isStale_52 hZ)
noncomputable def vX13_isStale_36 : rx_K := o_st rx_isI 3 (o_ld rx_isI 3 (o_const 34359738352 (o_c2 rx_eq vX13_isStale_67 vX13_isStale_43)))
set_option maxRecDepth 20000 in
theorem wX13_isStale_36 (hZ : zO b e D A X) : rx_OK (zV b e D A X) mX13_isStale 4 36 vX13_isStale_36 := by
  unfold vX13_isStale_36
  refine s_istore_n hZ.1 dX13_isStale_36 rfl (Nat.le_of_ble_eq_true rfl) ?_
  refine s_iload_n hZ.1 dX13_isStale_37 rfl ?_
  refine s_bipush dX13_isStale_38 (by decide +kernel) ?_
  exact s_icmp_eq dX13_isStale_40 (by decide) (wX13_isStale_67 hZ) (wX13_isStale_43 hZ)
noncomputable def vX13_isStale_22 : rx_K := o_ld rx_isR 0 (o_ld rx_isI 2 (o_ld rx_isR 0 (o_getf 13 122 (o_ld rx_isI 1 (o_ald 1 (o_const 17 (o_callV 3 13 FX13_theField (vX13_isStale_36))))))))
set_option maxRecDepth 20000 in
theorem wX13_isStale_22 (hZ : zO b e D A X) : rx_OK (zV b e D A X) mX13_isStale 4 22 vX13_isStale_22 := by
  unfold vX13_isStale_22
  refine s_aload_n hZ.1 dX13_isStale_22 rfl ?_
  refine s_iload_n hZ.1 dX13_isStale_23 rfl ?_
  refine s_aload_n hZ.1 dX13_isStale_24 rfl ?_
  refine yg13_122 dX13_isStale_25 zw4242 ?_
  refine s_iload_n hZ.1 dX13_isStale_28 rfl ?_
  refine s_lald (tt := 1) rfl dX13_isStale_29 ?_
  refine s_ldc2 dX13_isStale_30 zw3066 (by decide +kernel) ?_
  refine s_callV hZ.1 (Met_X13_theField hZ) (Nat.le_of_ble_eq_true rfl) vy_X13_theField zcl13 zw3347 zw262 (Or.inl zw3345) dX13_isStale_33 ?_
  exact (wX13_isStale_36 hZ)
noncomputable def vX13_isStale_17 : rx_K := o_const 34359738352 (vX13_isStale_36)
set_option maxRecDepth 20000 in
theorem wX13_isStale_17 (hZ : zO b e D A X) : rx_OK (zV b e D A X) mX13_isStale 4 17 vX13_isStale_17 := by
  unfold vX13_isStale_17
  refine s_bipush dX13_isStale_17 (by decide +kernel) ?_
  exact s_goto dX13_isStale_19 (by decide) (wX13_isStale_36 hZ)
noncomputable def vX13_isStale_0 : rx_K := o_ld rx_isR 0 (o_ld rx_isR 0 (o_getf 13 121 (o_ld rx_isI 1 (o_ald 1 (o_callV 1 13 FX13_find (o_st rx_isI 2 (o_ld rx_isI 2 (o_const 34359738352 (o_c2 rx_eq vX13_isStale_17 vX13_isStale_22)))))))))
set_option maxRecDepth 20000 in
theorem wX13_isStale_0 (hZ : zO b e D A X) : rx_OK (zV b e D A X) mX13_isStale 4 0 vX13_isStale_0 := by
  unfold vX13_isStale_0
  refine s_aload_n hZ.1 dX13_isStale_0 rfl ?_
  refine s_aload_n hZ.1 dX13_isStale_1 rfl ?_
  refine yg13_121 dX13_isStale_2 zw4241 ?_
  refine s_iload_n hZ.1 dX13_isStale_5 rfl ?_
  refine s_lald (tt := 1) rfl dX13_isStale_6 ?_
  refine s_callV hZ.1 (Met_X13_find hZ) (Nat.le_of_ble_eq_true rfl) vy_X13_find zcl13 zw3186 zw226 (Or.inl zw3184) dX13_isStale_7 ?_
  refine s_istore_n hZ.1 dX13_isStale_10 rfl (Nat.le_of_ble_eq_true rfl) ?_
  refine s_iload_n hZ.1 dX13_isStale_11 rfl ?_
  refine s_bipush dX13_isStale_12 (by decide +kernel) ?_
  exact s_icmp_ne dX13_isStale_14 (by decide) (wX13_isStale_22 hZ) (wX13_isStale_17 hZ)
noncomputable def FX13_isStale : List Nat → rx_H → Option (Nat × rx_H) := rx_ent 4 vX13_isStale_0
theorem Met_X13_isStale (hZ : zO b e D A X) : rx_Met (zV b e D A X) 4 yX13_isStale mX13_isStale (FX13_isStale) := rx_entry hZ.1 (wX13_isStale_0 hZ) (by decide +kernel) rfl (fun h => by cases h)
abbrev mX13_ask : rx_M := (RX13, cX13_ask, 6, (some .int), false)
theorem vy_X13_ask : rx_Y (zV b e D A X) yX13_ask mX13_ask 2 := ⟨zw3725, zw431, by decide, by decide +kernel, by decide +kernel, by decide +kernel⟩
noncomputable def vX13_ask_92 : rx_K := o_st rx_isI 5 (o_ld rx_isR 0 (o_ld rx_isI 4 (o_putf rx_isZ 13 92 (o_ld rx_isI 5 (o_ret1 rx_isI)))))
set_option maxRecDepth 20000 in
theorem wX13_ask_92 (hZ : zO b e D A X) : rx_OK (zV b e D A X) mX13_ask 171 92 vX13_ask_92 := by
  unfold vX13_ask_92
  refine s_istore hZ.1 dX13_ask_92 (Nat.le_of_ble_eq_true rfl) ?_
  refine s_aload_n hZ.1 dX13_ask_94 rfl ?_
  refine s_iload hZ.1 dX13_ask_95 ?_
  refine yp13_92 hZ.1 dX13_ask_97 zw4213 ?_
  refine s_iload hZ.1 dX13_ask_100 ?_
  exact s_iret hZ.1 rfl dX13_ask_102
noncomputable def vX13_ask_86 : rx_K := o_ld rx_isR 0 (o_ld rx_isI 1 (o_ld rx_isI 2 (o_callV 2 13 FX13_askClass (vX13_ask_92))))
set_option maxRecDepth 20000 in
theorem wX13_ask_86 (hZ : zO b e D A X) : rx_OK (zV b e D A X) mX13_ask 171 86 vX13_ask_86 := by
  unfold vX13_ask_86
  refine s_aload_n hZ.1 dX13_ask_86 rfl ?_
  refine s_iload_n hZ.1 dX13_ask_87 rfl ?_
  refine s_iload_n hZ.1 dX13_ask_88 rfl ?_
  refine s_callV hZ.1 (Met_X13_askClass hZ) (Nat.le_of_ble_eq_true rfl) vy_X13_askClass zcl13 zw3736 zw340 (Or.inl zw3734) dX13_ask_89 ?_
  exact (wX13_ask_92 hZ)
noncomputable def vX13_ask_78 : rx_K := o_ld rx_isR 0 (o_ld rx_isI 1 (o_callV 1 13 FX13_askFit (vX13_ask_92)))
set_option maxRecDepth 20000 in
theorem wX13_ask_78 (hZ : zO b e D A X) : rx_OK (zV b e D A X) mX13_ask 171 78 vX13_ask_78 := by
  unfold vX13_ask_78
  refine s_aload_n hZ.1 dX13_ask_78 rfl ?_
  refine s_iload_n hZ.1 dX13_ask_79 rfl ?_
  refine s_callV hZ.1 (Met_X13_askFit hZ) (Nat.le_of_ble_eq_true rfl) vy_X13_askFit zcl13 zw3732 zw339 (Or.inl zw3730) dX13_ask_80 ?_
  exact s_goto dX13_ask_83 (by decide) (wX13_ask_92 hZ)
noncomputable def vX13_ask_72 : rx_K := o_ld rx_isI 3 (o_const 136 (o_c2 rx_eq vX13_ask_78 vX13_ask_86))
set_option maxRecDepth 20000 in
theorem wX13_ask_72 (hZ : zO b e D A X) : rx_OK (zV b e D A X) mX13_ask 171 72 vX13_ask_72 := by
  unfold vX13_ask_72
  refine s_iload_n hZ.1 dX13_ask_72 rfl ?_
  refine s_bipush dX13_ask_73 (by decide +kernel) ?_
  exact s_icmp_ne dX13_ask_75 (by decide) (wX13_ask_86 hZ) (wX13_ask_78 hZ)
noncomputable def vX13_ask_67 : rx_K := o_ld rx_isI 5 (vX13_ask_92)
set_option maxRecDepth 20000 in
theorem wX13_ask_67 (hZ : zO b e D A X) : rx_OK (zV b e D A X) mX13_ask 171 67 vX13_ask_67 := by
  unfold vX13_ask_67
  refine s_iload hZ.1 dX13_ask_67 ?_
  exact s_goto dX13_ask_69 (by decide) (wX13_ask_92 hZ)
noncomputable def vX13_ask_39 : rx_K := o_ld rx_isR 0 (o_getf 13 92 (o_st rx_isI 4 (o_ld rx_isR 0 (o_const 8 (o_putf rx_isZ 13 92 (o_ld rx_isR 0 (o_ld rx_isR 0 (o_getf 13 120 (o_ld rx_isI 1 (o_ald 0 (o_callV 1 13 (q10 160 0) (o_st rx_isI 5 (o_ld rx_isI 5 (o_c1 rx_eq vX13_ask_72 vX13_ask_67))))))))))))))
set_option maxRecDepth 20000 in
theorem wX13_ask_39 (hZ : zO b e D A X) : rx_OK (zV b e D A X) mX13_ask 171 39 vX13_ask_39 := by
  unfold vX13_ask_39
  refine s_aload_n hZ.1 dX13_ask_39 rfl ?_
  refine yg13_92 dX13_ask_40 zw4213 ?_
  refine s_istore hZ.1 dX13_ask_43 (Nat.le_of_ble_eq_true rfl) ?_
  refine s_aload_n hZ.1 dX13_ask_45 rfl ?_
  refine s_iconst dX13_ask_46 (by decide +kernel) ?_
  refine yp13_92 hZ.1 dX13_ask_47 zw4213 ?_
  refine s_aload_n hZ.1 dX13_ask_50 rfl ?_
  refine s_aload_n hZ.1 dX13_ask_51 rfl ?_
  refine yg13_120 dX13_ask_52 zw4240 ?_
  refine s_iload_n hZ.1 dX13_ask_55 rfl ?_
  refine s_iald (tt := 0) rfl dX13_ask_56 ?_
  refine s_callV hZ.1 (q10_ok hZ 160 0 _ _ rfl) (Nat.le_of_ble_eq_true rfl) vy_X13_load zcl13 zw3367 zw267 (Or.inl zw3365) dX13_ask_57 ?_
  refine s_istore hZ.1 dX13_ask_60 (Nat.le_of_ble_eq_true rfl) ?_
  refine s_iload hZ.1 dX13_ask_62 ?_
  exact s_if_eq dX13_ask_64 (by decide) (wX13_ask_72 hZ) (wX13_ask_67 hZ)
noncomputable def vX13_ask_38 : rx_K := o_ret1 rx_isI
set_option maxRecDepth 20000 in
theorem wX13_ask_38 (hZ : zO b e D A X) : rx_OK (zV b e D A X) mX13_ask 171 38 vX13_ask_38 := by
  unfold vX13_ask_38
  exact s_iret hZ.1 rfl dX13_ask_38
noncomputable def vX13_ask_37 : rx_K := o_const 0 (vX13_ask_38)
set_option maxRecDepth 20000 in
theorem wX13_ask_37 (hZ : zO b e D A X) : rx_OK (zV b e D A X) mX13_ask 171 37 vX13_ask_37 := by
  unfold vX13_ask_37
  refine s_iconst dX13_ask_37 (by decide +kernel) ?_
  exact (wX13_ask_38 hZ)
noncomputable def vX13_ask_32 : rx_K := o_const 136 (vX13_ask_38)
set_option maxRecDepth 20000 in
theorem wX13_ask_32 (hZ : zO b e D A X) : rx_OK (zV b e D A X) mX13_ask 171 32 vX13_ask_32 := by
  unfold vX13_ask_32
  refine s_bipush dX13_ask_32 (by decide +kernel) ?_
  exact s_goto dX13_ask_34 (by decide) (wX13_ask_38 hZ)
noncomputable def vX13_ask_24 : rx_K := o_ld rx_isR 0 (o_ld rx_isI 1 (o_callV 1 13 FX13_isStale (o_c1 rx_eq vX13_ask_37 vX13_ask_32)))
set_option maxRecDepth 20000 in
theorem wX13_ask_24 (hZ : zO b e D A X) : rx_OK (zV b e D A X) mX13_ask 171 24 vX13_ask_24 := by
  unfold vX13_ask_24
  refine s_aload_n hZ.1 dX13_ask_24 rfl ?_
  refine s_iload_n hZ.1 dX13_ask_25 rfl ?_
  refine s_callV hZ.1 (Met_X13_isStale hZ) (Nat.le_of_ble_eq_true rfl) vy_X13_isStale zcl13 zw3728 zw338 (Or.inl zw3726) dX13_ask_26 ?_
  exact s_if_eq dX13_ask_29 (by decide) (wX13_ask_37 hZ) (wX13_ask_32 hZ)
noncomputable def vX13_ask_0 : rx_K := o_ld rx_isR 0 (o_const 34359738352 (o_putf rx_isI 13 140 (o_ld rx_isR 0 (o_const 0 (o_putf rx_isI 13 142 (o_ld rx_isR 0 (o_getf 13 119 (o_ld rx_isI 1 (o_ald 0 (o_st rx_isI 3 (o_ld rx_isI 3 (o_const 128 (o_c2 rx_eq vX13_ask_24 vX13_ask_39)))))))))))))
set_option maxRecDepth 20000 in
theorem wX13_ask_0 (hZ : zO b e D A X) : rx_OK (zV b e D A X) mX13_ask 171 0 vX13_ask_0 := by
  unfold vX13_ask_0
  refine s_aload_n hZ.1 dX13_ask_0 rfl ?_
  refine s_bipush dX13_ask_1 (by decide +kernel) ?_
  refine yp13_140 hZ.1 dX13_ask_3 zw4260 ?_
  refine s_aload_n hZ.1 dX13_ask_6 rfl ?_
  refine s_iconst dX13_ask_7 (by decide +kernel) ?_
  refine yp13_142 hZ.1 dX13_ask_8 zw4262 ?_
  refine s_aload_n hZ.1 dX13_ask_11 rfl ?_
  refine yg13_119 dX13_ask_12 zw4239 ?_
  refine s_iload_n hZ.1 dX13_ask_15 rfl ?_
  refine s_iald (tt := 0) rfl dX13_ask_16 ?_
  refine s_istore_n hZ.1 dX13_ask_17 rfl (Nat.le_of_ble_eq_true rfl) ?_
  refine s_iload_n hZ.1 dX13_ask_18 rfl ?_
  refine s_bipush dX13_ask_19 (by decide +kernel) ?_
  exact s_icmp_ne dX13_ask_21 (by decide) (wX13_ask_39 hZ) (wX13_ask_24 hZ)
noncomputable def FX13_ask : List Nat → rx_H → Option (Nat × rx_H) := rx_ent 6 vX13_ask_0
theorem Met_X13_ask (hZ : zO b e D A X) : rx_Met (zV b e D A X) 171 yX13_ask mX13_ask (FX13_ask) := rx_entry hZ.1 (wX13_ask_0 hZ) (by decide +kernel) rfl (fun h => by cases h)
abbrev mX13_overridesFinal : rx_M := (RX13, cX13_overridesFinal, 7, (some .boolean), false)
theorem vy_X13_overridesFinal : rx_Y (zV b e D A X) yX13_overridesFinal mX13_overridesFinal 1 := ⟨zw3833, zw431, by decide, by decide +kernel, by decide +kernel, by decide +kernel⟩
noncomputable def vX13_overridesFinal_126 (j : Nat → rx_K) : rx_K := o_ld rx_isI 2 (o_ret1 rx_isZ)
set_option maxRecDepth 20000 in
theorem wX13_overridesFinal_126 (hZ : zO b e D A X) (j : Nat → rx_K) (hj : ∀ k pc, [4, 54][k]? = some pc → rx_OK (zV b e D A X) mX13_overridesFinal 4 pc (j k)) : rx_OK (zV b e D A X) mX13_overridesFinal 4 126 (vX13_overridesFinal_126 j) := by
  unfold vX13_overridesFinal_126
  refine s_iload_n hZ.1 dX13_overridesFinal_126 rfl ?_
  exact s_zret rx_z_ok rfl dX13_overridesFinal_127
noncomputable def vX13_overridesFinal_120 (j : Nat → rx_K) : rx_K := o_inc 3 (1) ((j 0))
set_option maxRecDepth 20000 in
theorem wX13_overridesFinal_120 (hZ : zO b e D A X) (j : Nat → rx_K) (hj : ∀ k pc, [4, 54][k]? = some pc → rx_OK (zV b e D A X) mX13_overridesFinal 4 pc (j k)) : rx_OK (zV b e D A X) mX13_overridesFinal 4 120 (vX13_overridesFinal_120 j) := by
  unfold vX13_overridesFinal_120
  refine s_iinc hZ.1 dX13_overridesFinal_120 (Nat.le_of_ble_eq_true rfl) ?_
  exact s_goto dX13_overridesFinal_123 (by decide) (hj 0 4 rfl)
noncomputable def vX13_overridesFinal_108 (j : Nat → rx_K) : rx_K := o_st rx_isI 2 (o_ld rx_isR 0 (o_ld rx_isI 5 (o_callV 1 13 FX13_parent (o_st rx_isI 5 ((j 1))))))
set_option maxRecDepth 20000 in
theorem wX13_overridesFinal_108 (hZ : zO b e D A X) (j : Nat → rx_K) (hj : ∀ k pc, [4, 54][k]? = some pc → rx_OK (zV b e D A X) mX13_overridesFinal 4 pc (j k)) : rx_OK (zV b e D A X) mX13_overridesFinal 4 108 (vX13_overridesFinal_108 j) := by
  unfold vX13_overridesFinal_108
  refine s_istore_n hZ.1 dX13_overridesFinal_108 rfl (Nat.le_of_ble_eq_true rfl) ?_
  refine s_aload_n hZ.1 dX13_overridesFinal_109 rfl ?_
  refine s_iload hZ.1 dX13_overridesFinal_110 ?_
  refine s_callV hZ.1 (Met_X13_parent hZ) (Nat.le_of_ble_eq_true rfl) vy_X13_parent zcl13 zw3220 zw233 (Or.inl zw3218) dX13_overridesFinal_112 ?_
  refine s_istore hZ.1 dX13_overridesFinal_115 (Nat.le_of_ble_eq_true rfl) ?_
  exact s_goto dX13_overridesFinal_117 (by decide) (hj 1 54 rfl)
noncomputable def vX13_overridesFinal_107 (j : Nat → rx_K) : rx_K := o_const 0 ((vX13_overridesFinal_108 j))
set_option maxRecDepth 20000 in
theorem wX13_overridesFinal_107 (hZ : zO b e D A X) (j : Nat → rx_K) (hj : ∀ k pc, [4, 54][k]? = some pc → rx_OK (zV b e D A X) mX13_overridesFinal 4 pc (j k)) : rx_OK (zV b e D A X) mX13_overridesFinal 4 107 (vX13_overridesFinal_107 j) := by
  unfold vX13_overridesFinal_107
  refine s_iconst dX13_overridesFinal_107 (by decide +kernel) ?_
  exact (wX13_overridesFinal_108 hZ j hj)
noncomputable def vX13_overridesFinal_103 (j : Nat → rx_K) : rx_K := o_const 8 ((vX13_overridesFinal_108 j))
set_option maxRecDepth 20000 in
theorem wX13_overridesFinal_103 (hZ : zO b e D A X) (j : Nat → rx_K) (hj : ∀ k pc, [4, 54][k]? = some pc → rx_OK (zV b e D A X) mX13_overridesFinal 4 pc (j k)) : rx_OK (zV b e D A X) mX13_overridesFinal 4 103 (vX13_overridesFinal_103 j) := by
  unfold vX13_overridesFinal_103
  refine s_iconst dX13_overridesFinal_103 (by decide +kernel) ?_
  exact s_goto dX13_overridesFinal_104 (by decide) (wX13_overridesFinal_108 hZ j hj)
noncomputable def vX13_overridesFinal_92 (j : Nat → rx_K) : rx_K := o_ld rx_isR 0 (o_ld rx_isI 4 (o_ld rx_isI 6 (o_callV 2 13 FX13_overrides (o_c1 rx_eq (vX13_overridesFinal_107 j) (vX13_overridesFinal_103 j)))))
set_option maxRecDepth 20000 in
theorem wX13_overridesFinal_92 (hZ : zO b e D A X) (j : Nat → rx_K) (hj : ∀ k pc, [4, 54][k]? = some pc → rx_OK (zV b e D A X) mX13_overridesFinal 4 pc (j k)) : rx_OK (zV b e D A X) mX13_overridesFinal 4 92 (vX13_overridesFinal_92 j) := by
  unfold vX13_overridesFinal_92
  refine s_aload_n hZ.1 dX13_overridesFinal_92 rfl ?_
  refine s_iload hZ.1 dX13_overridesFinal_93 ?_
  refine s_iload hZ.1 dX13_overridesFinal_95 ?_
  refine s_callV hZ.1 (Met_X13_overrides hZ) (Nat.le_of_ble_eq_true rfl) vy_X13_overrides zcl13 zw3323 zw257 (Or.inl zw3321) dX13_overridesFinal_97 ?_
  exact s_if_eq dX13_overridesFinal_100 (by decide) (wX13_overridesFinal_107 hZ j hj) (wX13_overridesFinal_103 hZ j hj)
noncomputable def vX13_overridesFinal_82 (j : Nat → rx_K) : rx_K := o_ld rx_isR 0 (o_getf 13 46 (o_ld rx_isI 6 (o_ald 3 (o_c1 rx_eq (vX13_overridesFinal_107 j) (vX13_overridesFinal_92 j)))))
set_option maxRecDepth 20000 in
theorem wX13_overridesFinal_82 (hZ : zO b e D A X) (j : Nat → rx_K) (hj : ∀ k pc, [4, 54][k]? = some pc → rx_OK (zV b e D A X) mX13_overridesFinal 4 pc (j k)) : rx_OK (zV b e D A X) mX13_overridesFinal 4 82 (vX13_overridesFinal_82 j) := by
  unfold vX13_overridesFinal_82
  refine s_aload_n hZ.1 dX13_overridesFinal_82 rfl ?_
  refine yg13_46 dX13_overridesFinal_83 zw4167 ?_
  refine s_iload hZ.1 dX13_overridesFinal_86 ?_
  refine s_zald (tt := 3) rfl dX13_overridesFinal_88 ?_
  exact s_if_eq dX13_overridesFinal_89 (by decide) (wX13_overridesFinal_107 hZ j hj) (wX13_overridesFinal_92 hZ j hj)
noncomputable def vX13_overridesFinal_75 (j : Nat → rx_K) : rx_K := o_ld rx_isI 6 (o_const 34359738352 (o_c2 rx_eq (vX13_overridesFinal_107 j) (vX13_overridesFinal_82 j)))
set_option maxRecDepth 20000 in
theorem wX13_overridesFinal_75 (hZ : zO b e D A X) (j : Nat → rx_K) (hj : ∀ k pc, [4, 54][k]? = some pc → rx_OK (zV b e D A X) mX13_overridesFinal 4 pc (j k)) : rx_OK (zV b e D A X) mX13_overridesFinal 4 75 (vX13_overridesFinal_75 j) := by
  unfold vX13_overridesFinal_75
  refine s_iload hZ.1 dX13_overridesFinal_75 ?_
  refine s_bipush dX13_overridesFinal_77 (by decide +kernel) ?_
  exact s_icmp_eq dX13_overridesFinal_79 (by decide) (wX13_overridesFinal_107 hZ j hj) (wX13_overridesFinal_82 hZ j hj)
noncomputable def vX13_overridesFinal_61 (j : Nat → rx_K) : rx_K := o_ld rx_isR 0 (o_ld rx_isI 5 (o_ld rx_isI 4 (o_callV 2 13 FX13_ownMethod (o_st rx_isI 6 (o_ld rx_isI 2 (o_c1 rx_eq (vX13_overridesFinal_75 j) (vX13_overridesFinal_103 j)))))))
set_option maxRecDepth 20000 in
theorem wX13_overridesFinal_61 (hZ : zO b e D A X) (j : Nat → rx_K) (hj : ∀ k pc, [4, 54][k]? = some pc → rx_OK (zV b e D A X) mX13_overridesFinal 4 pc (j k)) : rx_OK (zV b e D A X) mX13_overridesFinal 4 61 (vX13_overridesFinal_61 j) := by
  unfold vX13_overridesFinal_61
  refine s_aload_n hZ.1 dX13_overridesFinal_61 rfl ?_
  refine s_iload hZ.1 dX13_overridesFinal_62 ?_
  refine s_iload hZ.1 dX13_overridesFinal_64 ?_
  refine s_callV hZ.1 (Met_X13_ownMethod hZ) (Nat.le_of_ble_eq_true rfl) vy_X13_ownMethod zcl13 zw3319 zw256 (Or.inl zw3317) dX13_overridesFinal_66 ?_
  refine s_istore hZ.1 dX13_overridesFinal_69 (Nat.le_of_ble_eq_true rfl) ?_
  refine s_iload_n hZ.1 dX13_overridesFinal_71 rfl ?_
  exact s_if_ne dX13_overridesFinal_72 (by decide) (wX13_overridesFinal_103 hZ j hj) (wX13_overridesFinal_75 hZ j hj)
noncomputable def vX13_overridesFinal_54 (j : Nat → rx_K) : rx_K := o_ld rx_isI 5 (o_const 34359738352 (o_c2 rx_eq (vX13_overridesFinal_120 j) (vX13_overridesFinal_61 j)))
set_option maxRecDepth 20000 in
theorem wX13_overridesFinal_54 (hZ : zO b e D A X) (j : Nat → rx_K) (hj : ∀ k pc, [4, 54][k]? = some pc → rx_OK (zV b e D A X) mX13_overridesFinal 4 pc (j k)) : rx_OK (zV b e D A X) mX13_overridesFinal 4 54 (vX13_overridesFinal_54 j) := by
  unfold vX13_overridesFinal_54
  refine s_iload hZ.1 dX13_overridesFinal_54 ?_
  refine s_bipush dX13_overridesFinal_56 (by decide +kernel) ?_
  exact s_icmp_eq dX13_overridesFinal_58 (by decide) (wX13_overridesFinal_120 hZ j hj) (wX13_overridesFinal_61 hZ j hj)
noncomputable def vX13_overridesFinal_52 (j : Nat → rx_K) : rx_K := o_st rx_isI 5 ((vX13_overridesFinal_54 j))
set_option maxRecDepth 20000 in
theorem wX13_overridesFinal_52 (hZ : zO b e D A X) (j : Nat → rx_K) (hj : ∀ k pc, [4, 54][k]? = some pc → rx_OK (zV b e D A X) mX13_overridesFinal 4 pc (j k)) : rx_OK (zV b e D A X) mX13_overridesFinal 4 52 (vX13_overridesFinal_52 j) := by
  unfold vX13_overridesFinal_52
  refine s_istore hZ.1 dX13_overridesFinal_52 (Nat.le_of_ble_eq_true rfl) ?_
  exact (wX13_overridesFinal_54 hZ j hj)
noncomputable def vX13_overridesFinal_50 (j : Nat → rx_K) : rx_K := o_const 34359738352 ((vX13_overridesFinal_52 j))
set_option maxRecDepth 20000 in
theorem wX13_overridesFinal_50 (hZ : zO b e D A X) (j : Nat → rx_K) (hj : ∀ k pc, [4, 54][k]? = some pc → rx_OK (zV b e D A X) mX13_overridesFinal 4 pc (j k)) : rx_OK (zV b e D A X) mX13_overridesFinal 4 50 (vX13_overridesFinal_50 j) := by
  unfold vX13_overridesFinal_50
  refine s_bipush dX13_overridesFinal_50 (by decide +kernel) ?_
  exact (wX13_overridesFinal_52 hZ j hj)
noncomputable def vX13_overridesFinal_42 (j : Nat → rx_K) : rx_K := o_ld rx_isR 0 (o_ld rx_isI 1 (o_callV 1 13 FX13_parent ((vX13_overridesFinal_52 j))))
set_option maxRecDepth 20000 in
theorem wX13_overridesFinal_42 (hZ : zO b e D A X) (j : Nat → rx_K) (hj : ∀ k pc, [4, 54][k]? = some pc → rx_OK (zV b e D A X) mX13_overridesFinal 4 pc (j k)) : rx_OK (zV b e D A X) mX13_overridesFinal 4 42 (vX13_overridesFinal_42 j) := by
  unfold vX13_overridesFinal_42
  refine s_aload_n hZ.1 dX13_overridesFinal_42 rfl ?_
  refine s_iload_n hZ.1 dX13_overridesFinal_43 rfl ?_
  refine s_callV hZ.1 (Met_X13_parent hZ) (Nat.le_of_ble_eq_true rfl) vy_X13_parent zcl13 zw3220 zw233 (Or.inl zw3218) dX13_overridesFinal_44 ?_
  exact s_goto dX13_overridesFinal_47 (by decide) (wX13_overridesFinal_52 hZ j hj)
noncomputable def vX13_overridesFinal_33 (j : Nat → rx_K) : rx_K := o_ld rx_isR 0 (o_ld rx_isI 4 (o_callV 1 13 FX13_isFree (o_c1 rx_eq (vX13_overridesFinal_50 j) (vX13_overridesFinal_42 j))))
set_option maxRecDepth 20000 in
theorem wX13_overridesFinal_33 (hZ : zO b e D A X) (j : Nat → rx_K) (hj : ∀ k pc, [4, 54][k]? = some pc → rx_OK (zV b e D A X) mX13_overridesFinal 4 pc (j k)) : rx_OK (zV b e D A X) mX13_overridesFinal 4 33 (vX13_overridesFinal_33 j) := by
  unfold vX13_overridesFinal_33
  refine s_aload_n hZ.1 dX13_overridesFinal_33 rfl ?_
  refine s_iload hZ.1 dX13_overridesFinal_34 ?_
  refine s_callV hZ.1 (Met_X13_isFree hZ) (Nat.le_of_ble_eq_true rfl) vy_X13_isFree zcl13 zw3291 zw249 (Or.inl zw3289) dX13_overridesFinal_36 ?_
  exact s_if_eq dX13_overridesFinal_39 (by decide) (wX13_overridesFinal_50 hZ j hj) (wX13_overridesFinal_42 hZ j hj)
noncomputable def vX13_overridesFinal_14 (j : Nat → rx_K) : rx_K := o_ld rx_isI 1 (o_const 272 (o_bi (fun x y => x * y) (o_ld rx_isI 3 (o_bi (fun x y => x + y) (o_st rx_isI 4 (o_ld rx_isR 0 (o_getf 13 42 (o_ld rx_isI 4 (o_ald 0 (o_const 8 (o_c2 rx_eq (vX13_overridesFinal_33 j) (vX13_overridesFinal_50 j))))))))))))
set_option maxRecDepth 20000 in
theorem wX13_overridesFinal_14 (hZ : zO b e D A X) (j : Nat → rx_K) (hj : ∀ k pc, [4, 54][k]? = some pc → rx_OK (zV b e D A X) mX13_overridesFinal 4 pc (j k)) : rx_OK (zV b e D A X) mX13_overridesFinal 4 14 (vX13_overridesFinal_14 j) := by
  unfold vX13_overridesFinal_14
  refine s_iload_n hZ.1 dX13_overridesFinal_14 rfl ?_
  refine s_bipush dX13_overridesFinal_15 (by decide +kernel) ?_
  refine s_imul dX13_overridesFinal_17 ?_
  refine s_iload_n hZ.1 dX13_overridesFinal_18 rfl ?_
  refine s_iadd dX13_overridesFinal_19 ?_
  refine s_istore hZ.1 dX13_overridesFinal_20 (Nat.le_of_ble_eq_true rfl) ?_
  refine s_aload_n hZ.1 dX13_overridesFinal_22 rfl ?_
  refine yg13_42 dX13_overridesFinal_23 zw4163 ?_
  refine s_iload hZ.1 dX13_overridesFinal_26 ?_
  refine s_iald (tt := 0) rfl dX13_overridesFinal_28 ?_
  refine s_iconst dX13_overridesFinal_29 (by decide +kernel) ?_
  exact s_icmp_ne dX13_overridesFinal_30 (by decide) (wX13_overridesFinal_50 hZ j hj) (wX13_overridesFinal_33 hZ j hj)
noncomputable def vX13_overridesFinal_4 (j : Nat → rx_K) : rx_K := o_ld rx_isI 3 (o_ld rx_isR 0 (o_getf 13 41 (o_ld rx_isI 1 (o_ald 0 (o_c2 rx_lt (vX13_overridesFinal_14 j) (vX13_overridesFinal_126 j))))))
set_option maxRecDepth 20000 in
theorem wX13_overridesFinal_4 (hZ : zO b e D A X) (j : Nat → rx_K) (hj : ∀ k pc, [4, 54][k]? = some pc → rx_OK (zV b e D A X) mX13_overridesFinal 4 pc (j k)) : rx_OK (zV b e D A X) mX13_overridesFinal 4 4 (vX13_overridesFinal_4 j) := by
  unfold vX13_overridesFinal_4
  refine s_iload_n hZ.1 dX13_overridesFinal_4 rfl ?_
  refine s_aload_n hZ.1 dX13_overridesFinal_5 rfl ?_
  refine yg13_41 dX13_overridesFinal_6 zw4162 ?_
  refine s_iload_n hZ.1 dX13_overridesFinal_9 rfl ?_
  refine s_iald (tt := 0) rfl dX13_overridesFinal_10 ?_
  exact s_icmp_ge dX13_overridesFinal_11 (by decide) (wX13_overridesFinal_126 hZ j hj) (wX13_overridesFinal_14 hZ j hj)
noncomputable def vX13_overridesFinal_0 (j : Nat → rx_K) : rx_K := o_const 0 (o_st rx_isI 2 (o_const 0 (o_st rx_isI 3 ((vX13_overridesFinal_4 j)))))
set_option maxRecDepth 20000 in
theorem wX13_overridesFinal_0 (hZ : zO b e D A X) (j : Nat → rx_K) (hj : ∀ k pc, [4, 54][k]? = some pc → rx_OK (zV b e D A X) mX13_overridesFinal 4 pc (j k)) : rx_OK (zV b e D A X) mX13_overridesFinal 4 0 (vX13_overridesFinal_0 j) := by
  unfold vX13_overridesFinal_0
  refine s_iconst dX13_overridesFinal_0 (by decide +kernel) ?_
  refine s_istore_n hZ.1 dX13_overridesFinal_1 rfl (Nat.le_of_ble_eq_true rfl) ?_
  refine s_iconst dX13_overridesFinal_2 (by decide +kernel) ?_
  refine s_istore_n hZ.1 dX13_overridesFinal_3 rfl (Nat.le_of_ble_eq_true rfl) ?_
  exact (wX13_overridesFinal_4 hZ j hj)
noncomputable def vhX13_overridesFinal (j : Nat → rx_K) : List rx_K := [vX13_overridesFinal_4 j, vX13_overridesFinal_54 j]
theorem vlX13_overridesFinal (hZ : zO b e D A X) : ∀ n k pc, [4, 54][k]? = some pc → rx_OK (zV b e D A X) mX13_overridesFinal 4 pc (rx_J (vhX13_overridesFinal) n k) := rx_loop fun j hj k pc h => by
  match k, h with
  | 0, h =>
    have e9 := Option.some.inj (show some 4 = some pc from h)
    subst e9
    exact wX13_overridesFinal_4 hZ j hj
  | 1, h =>
    have e9 := Option.some.inj (show some 54 = some pc from h)
    subst e9
    exact wX13_overridesFinal_54 hZ j hj
  | _ + 2, h => exact absurd h (by simp)
noncomputable def FX13_overridesFinal : List Nat → rx_H → Option (Nat × rx_H) := rx_ent 7 (vX13_overridesFinal_0 (rx_J (vhX13_overridesFinal) 4000000000))
theorem Met_X13_overridesFinal (hZ : zO b e D A X) : rx_Met (zV b e D A X) 4 yX13_overridesFinal mX13_overridesFinal (FX13_overridesFinal) := rx_entry hZ.1 (wX13_overridesFinal_0 hZ _ (vlX13_overridesFinal hZ 4000000000)) (by decide +kernel) rfl (fun h => by cases h)
abbrev mX13_link : rx_M := (RX13, cX13_link, 4, (some .int), false)
theorem vy_X13_link : rx_Y (zV b e D A X) yX13_link mX13_link 1 := ⟨zw3825, zw431, by decide, by decide +kernel, by decide +kernel, by decide +kernel⟩
abbrev mX13_linkWith : rx_M := (RX13, cX13_linkWith, 6, (some .int), false)
theorem vy_X13_linkWith : rx_Y (zV b e D A X) yX13_linkWith mX13_linkWith 1 := ⟨zw3829, zw431, by decide, by decide +kernel, by decide +kernel, by decide +kernel⟩
abbrev vl18 : List (MethodName × rx_M) := [(yX13_link, mX13_link), (yX13_linkWith, mX13_linkWith)]
noncomputable def vX13_link_80 (g : Nat → List Nat → rx_H → Option (Nat × rx_H)) : rx_K := o_ld rx_isI 2 (o_callV 3 13 FX13_becomes (o_ld rx_isI 2 (o_ret1 rx_isI)))
set_option maxRecDepth 20000 in
theorem wX13_link_80 {dn : Nat} {g : Nat → List Nat → rx_H → Option (Nat × rx_H)} (hZ : zO b e D A X) (hg : ∀ i y M, vl18[i]? = some (y, M) → rx_Met (zV b e D A X) dn y M (g i)) (hd : 172 ≤ dn) : rx_OK (zV b e D A X) mX13_link (dn + 1) 80 (vX13_link_80 g) := by
  unfold vX13_link_80
  refine s_iload_n hZ.1 dX13_link_80 rfl ?_
  refine s_callV hZ.1 (Met_X13_becomes hZ) (Nat.succ_le_succ (Nat.le_trans (Nat.le_of_ble_eq_true rfl) hd)) vy_X13_becomes zcl13 zw3375 zw269 (Or.inl zw3373) dX13_link_81 ?_
  refine s_iload_n hZ.1 dX13_link_84 rfl ?_
  exact s_iret hZ.1 rfl dX13_link_85
noncomputable def vX13_link_78 (g : Nat → List Nat → rx_H → Option (Nat × rx_H)) : rx_K := o_const 48 ((vX13_link_80 g))
set_option maxRecDepth 20000 in
theorem wX13_link_78 {dn : Nat} {g : Nat → List Nat → rx_H → Option (Nat × rx_H)} (hZ : zO b e D A X) (hg : ∀ i y M, vl18[i]? = some (y, M) → rx_Met (zV b e D A X) dn y M (g i)) (hd : 172 ≤ dn) : rx_OK (zV b e D A X) mX13_link (dn + 1) 78 (vX13_link_78 g) := by
  unfold vX13_link_78
  refine s_bipush dX13_link_78 (by decide +kernel) ?_
  exact (wX13_link_80 hZ hg hd)
noncomputable def vX13_link_74 (g : Nat → List Nat → rx_H → Option (Nat × rx_H)) : rx_K := o_const 16 ((vX13_link_80 g))
set_option maxRecDepth 20000 in
theorem wX13_link_74 {dn : Nat} {g : Nat → List Nat → rx_H → Option (Nat × rx_H)} (hZ : zO b e D A X) (hg : ∀ i y M, vl18[i]? = some (y, M) → rx_Met (zV b e D A X) dn y M (g i)) (hd : 172 ≤ dn) : rx_OK (zV b e D A X) mX13_link (dn + 1) 74 (vX13_link_74 g) := by
  unfold vX13_link_74
  refine s_iconst dX13_link_74 (by decide +kernel) ?_
  exact s_goto dX13_link_75 (by decide) (wX13_link_80 hZ hg hd)
noncomputable def vX13_link_62 (g : Nat → List Nat → rx_H → Option (Nat × rx_H)) : rx_K := o_ld rx_isR 0 (o_ld rx_isI 1 (o_callV 1 13 (g 1) (o_st rx_isI 2 (o_ld rx_isR 0 (o_ld rx_isI 1 (o_ld rx_isI 2 (o_c1 rx_eq (vX13_link_74 g) (vX13_link_78 g))))))))
set_option maxRecDepth 20000 in
theorem wX13_link_62 {dn : Nat} {g : Nat → List Nat → rx_H → Option (Nat × rx_H)} (hZ : zO b e D A X) (hg : ∀ i y M, vl18[i]? = some (y, M) → rx_Met (zV b e D A X) dn y M (g i)) (hd : 172 ≤ dn) : rx_OK (zV b e D A X) mX13_link (dn + 1) 62 (vX13_link_62 g) := by
  unfold vX13_link_62
  refine s_aload_n hZ.1 dX13_link_62 rfl ?_
  refine s_iload_n hZ.1 dX13_link_63 rfl ?_
  refine s_callV hZ.1 (hg 1 _ _ rfl) (Nat.le_refl _) vy_X13_linkWith zcl13 zw3828 zw354 (Or.inl zw3826) dX13_link_64 ?_
  refine s_istore_n hZ.1 dX13_link_67 rfl (Nat.le_of_ble_eq_true rfl) ?_
  refine s_aload_n hZ.1 dX13_link_68 rfl ?_
  refine s_iload_n hZ.1 dX13_link_69 rfl ?_
  refine s_iload_n hZ.1 dX13_link_70 rfl ?_
  exact s_if_ne dX13_link_71 (by decide) (wX13_link_78 hZ hg hd) (wX13_link_74 hZ hg hd)
noncomputable def vX13_link_45 (g : Nat → List Nat → rx_H → Option (Nat × rx_H)) : rx_K := o_ld rx_isR 0 (o_getf 13 133 (o_ld rx_isR 0 (o_getf 13 134 (o_ld rx_isR 0 (o_getf 13 131 (o_ld rx_isI 1 (o_ald 0 (o_bi (fun x y => x + y) (o_ald 0 (o_ret1 rx_isI))))))))))
set_option maxRecDepth 20000 in
theorem wX13_link_45 {dn : Nat} {g : Nat → List Nat → rx_H → Option (Nat × rx_H)} (hZ : zO b e D A X) (hg : ∀ i y M, vl18[i]? = some (y, M) → rx_Met (zV b e D A X) dn y M (g i)) (hd : 172 ≤ dn) : rx_OK (zV b e D A X) mX13_link (dn + 1) 45 (vX13_link_45 g) := by
  unfold vX13_link_45
  refine s_aload_n hZ.1 dX13_link_45 rfl ?_
  refine yg13_133 dX13_link_46 zw4253 ?_
  refine s_aload_n hZ.1 dX13_link_49 rfl ?_
  refine yg13_134 dX13_link_50 zw4254 ?_
  refine s_aload_n hZ.1 dX13_link_53 rfl ?_
  refine yg13_131 dX13_link_54 zw4251 ?_
  refine s_iload_n hZ.1 dX13_link_57 rfl ?_
  refine s_iald (tt := 0) rfl dX13_link_58 ?_
  refine s_iadd dX13_link_59 ?_
  refine s_iald (tt := 0) rfl dX13_link_60 ?_
  exact s_iret hZ.1 rfl dX13_link_61
noncomputable def vX13_link_39 (g : Nat → List Nat → rx_H → Option (Nat × rx_H)) : rx_K := o_ld rx_isI 3 (o_const 48 (o_c2 rx_eq (vX13_link_45 g) (vX13_link_62 g)))
set_option maxRecDepth 20000 in
theorem wX13_link_39 {dn : Nat} {g : Nat → List Nat → rx_H → Option (Nat × rx_H)} (hZ : zO b e D A X) (hg : ∀ i y M, vl18[i]? = some (y, M) → rx_Met (zV b e D A X) dn y M (g i)) (hd : 172 ≤ dn) : rx_OK (zV b e D A X) mX13_link (dn + 1) 39 (vX13_link_39 g) := by
  unfold vX13_link_39
  refine s_iload_n hZ.1 dX13_link_39 rfl ?_
  refine s_bipush dX13_link_40 (by decide +kernel) ?_
  exact s_icmp_ne dX13_link_42 (by decide) (wX13_link_62 hZ hg hd) (wX13_link_45 hZ hg hd)
noncomputable def vX13_link_37 (g : Nat → List Nat → rx_H → Option (Nat × rx_H)) : rx_K := o_ld rx_isI 2 (o_ret1 rx_isI)
set_option maxRecDepth 20000 in
theorem wX13_link_37 {dn : Nat} {g : Nat → List Nat → rx_H → Option (Nat × rx_H)} (hZ : zO b e D A X) (hg : ∀ i y M, vl18[i]? = some (y, M) → rx_Met (zV b e D A X) dn y M (g i)) (hd : 172 ≤ dn) : rx_OK (zV b e D A X) mX13_link (dn + 1) 37 (vX13_link_37 g) := by
  unfold vX13_link_37
  refine s_iload_n hZ.1 dX13_link_37 rfl ?_
  exact s_iret hZ.1 rfl dX13_link_38
noncomputable def vX13_link_31 (g : Nat → List Nat → rx_H → Option (Nat × rx_H)) : rx_K := o_ld rx_isI 3 (o_const 56 (o_c2 rx_eq (vX13_link_37 g) (vX13_link_39 g)))
set_option maxRecDepth 20000 in
theorem wX13_link_31 {dn : Nat} {g : Nat → List Nat → rx_H → Option (Nat × rx_H)} (hZ : zO b e D A X) (hg : ∀ i y M, vl18[i]? = some (y, M) → rx_Met (zV b e D A X) dn y M (g i)) (hd : 172 ≤ dn) : rx_OK (zV b e D A X) mX13_link (dn + 1) 31 (vX13_link_31 g) := by
  unfold vX13_link_31
  refine s_iload_n hZ.1 dX13_link_31 rfl ?_
  refine s_bipush dX13_link_32 (by decide +kernel) ?_
  exact s_icmp_ne dX13_link_34 (by decide) (wX13_link_39 hZ hg hd) (wX13_link_37 hZ hg hd)
noncomputable def vX13_link_26 (g : Nat → List Nat → rx_H → Option (Nat × rx_H)) : rx_K := o_ld rx_isI 3 (o_const 32 (o_c2 rx_eq (vX13_link_37 g) (vX13_link_31 g)))
set_option maxRecDepth 20000 in
theorem wX13_link_26 {dn : Nat} {g : Nat → List Nat → rx_H → Option (Nat × rx_H)} (hZ : zO b e D A X) (hg : ∀ i y M, vl18[i]? = some (y, M) → rx_Met (zV b e D A X) dn y M (g i)) (hd : 172 ≤ dn) : rx_OK (zV b e D A X) mX13_link (dn + 1) 26 (vX13_link_26 g) := by
  unfold vX13_link_26
  refine s_iload_n hZ.1 dX13_link_26 rfl ?_
  refine s_iconst dX13_link_27 (by decide +kernel) ?_
  exact s_icmp_eq dX13_link_28 (by decide) (wX13_link_37 hZ hg hd) (wX13_link_31 hZ hg hd)
noncomputable def vX13_link_21 (g : Nat → List Nat → rx_H → Option (Nat × rx_H)) : rx_K := o_ld rx_isI 3 (o_const 24 (o_c2 rx_eq (vX13_link_37 g) (vX13_link_26 g)))
set_option maxRecDepth 20000 in
theorem wX13_link_21 {dn : Nat} {g : Nat → List Nat → rx_H → Option (Nat × rx_H)} (hZ : zO b e D A X) (hg : ∀ i y M, vl18[i]? = some (y, M) → rx_Met (zV b e D A X) dn y M (g i)) (hd : 172 ≤ dn) : rx_OK (zV b e D A X) mX13_link (dn + 1) 21 (vX13_link_21 g) := by
  unfold vX13_link_21
  refine s_iload_n hZ.1 dX13_link_21 rfl ?_
  refine s_iconst dX13_link_22 (by decide +kernel) ?_
  exact s_icmp_eq dX13_link_23 (by decide) (wX13_link_37 hZ hg hd) (wX13_link_26 hZ hg hd)
noncomputable def vX13_link_16 (g : Nat → List Nat → rx_H → Option (Nat × rx_H)) : rx_K := o_ld rx_isI 3 (o_const 16 (o_c2 rx_eq (vX13_link_37 g) (vX13_link_21 g)))
set_option maxRecDepth 20000 in
theorem wX13_link_16 {dn : Nat} {g : Nat → List Nat → rx_H → Option (Nat × rx_H)} (hZ : zO b e D A X) (hg : ∀ i y M, vl18[i]? = some (y, M) → rx_Met (zV b e D A X) dn y M (g i)) (hd : 172 ≤ dn) : rx_OK (zV b e D A X) mX13_link (dn + 1) 16 (vX13_link_16 g) := by
  unfold vX13_link_16
  refine s_iload_n hZ.1 dX13_link_16 rfl ?_
  refine s_iconst dX13_link_17 (by decide +kernel) ?_
  exact s_icmp_eq dX13_link_18 (by decide) (wX13_link_37 hZ hg hd) (wX13_link_21 hZ hg hd)
noncomputable def vX13_link_0 (g : Nat → List Nat → rx_H → Option (Nat × rx_H)) : rx_K := o_ld rx_isR 0 (o_ld rx_isI 1 (o_callV 1 13 (q10 160 0) (o_st rx_isI 2 (o_ld rx_isR 0 (o_ld rx_isI 1 (o_callV 1 13 FX13_stateOf (o_st rx_isI 3 (o_ld rx_isI 2 (o_c1 rx_eq (vX13_link_16 g) (vX13_link_37 g))))))))))
set_option maxRecDepth 20000 in
theorem wX13_link_0 {dn : Nat} {g : Nat → List Nat → rx_H → Option (Nat × rx_H)} (hZ : zO b e D A X) (hg : ∀ i y M, vl18[i]? = some (y, M) → rx_Met (zV b e D A X) dn y M (g i)) (hd : 172 ≤ dn) : rx_OK (zV b e D A X) mX13_link (dn + 1) 0 (vX13_link_0 g) := by
  unfold vX13_link_0
  refine s_aload_n hZ.1 dX13_link_0 rfl ?_
  refine s_iload_n hZ.1 dX13_link_1 rfl ?_
  refine s_callV hZ.1 (q10_ok hZ 160 0 _ _ rfl) (Nat.succ_le_succ (Nat.le_trans (Nat.le_of_ble_eq_true rfl) hd)) vy_X13_load zcl13 zw3367 zw267 (Or.inl zw3365) dX13_link_2 ?_
  refine s_istore_n hZ.1 dX13_link_5 rfl (Nat.le_of_ble_eq_true rfl) ?_
  refine s_aload_n hZ.1 dX13_link_6 rfl ?_
  refine s_iload_n hZ.1 dX13_link_7 rfl ?_
  refine s_callV hZ.1 (Met_X13_stateOf hZ) (Nat.succ_le_succ (Nat.le_trans (Nat.le_of_ble_eq_true rfl) hd)) vy_X13_stateOf zcl13 zw3371 zw268 (Or.inl zw3369) dX13_link_8 ?_
  refine s_istore_n hZ.1 dX13_link_11 rfl (Nat.le_of_ble_eq_true rfl) ?_
  refine s_iload_n hZ.1 dX13_link_12 rfl ?_
  exact s_if_ne dX13_link_13 (by decide) (wX13_link_37 hZ hg hd) (wX13_link_16 hZ hg hd)
noncomputable def FX13_link (g : Nat → List Nat → rx_H → Option (Nat × rx_H)) : List Nat → rx_H → Option (Nat × rx_H) := rx_ent 4 (vX13_link_0 g)
theorem Met_X13_link {dn : Nat} {g : Nat → List Nat → rx_H → Option (Nat × rx_H)} (hZ : zO b e D A X) (hg : ∀ i y M, vl18[i]? = some (y, M) → rx_Met (zV b e D A X) dn y M (g i)) (hd : 172 ≤ dn) : rx_Met (zV b e D A X) (dn + 1) yX13_link mX13_link (FX13_link g) := rx_entry hZ.1 (wX13_link_0 hZ hg hd) (by decide +kernel) rfl (fun h => by cases h)
noncomputable def vX13_linkWith_173 (g : Nat → List Nat → rx_H → Option (Nat × rx_H)) (j : Nat → rx_K) : rx_K := o_ld rx_isI 3 (o_ret1 rx_isI)
set_option maxRecDepth 20000 in
theorem wX13_linkWith_173 {dn : Nat} {g : Nat → List Nat → rx_H → Option (Nat × rx_H)} (hZ : zO b e D A X) (hg : ∀ i y M, vl18[i]? = some (y, M) → rx_Met (zV b e D A X) dn y M (g i)) (hd : 172 ≤ dn) (j : Nat → rx_K) (hj : ∀ k pc, [25, 94][k]? = some pc → rx_OK (zV b e D A X) mX13_linkWith (dn + 1) pc (j k)) : rx_OK (zV b e D A X) mX13_linkWith (dn + 1) 173 (vX13_linkWith_173 g j) := by
  unfold vX13_linkWith_173
  refine s_iload_n hZ.1 dX13_linkWith_173 rfl ?_
  exact s_iret hZ.1 rfl dX13_linkWith_174
noncomputable def vX13_linkWith_167 (g : Nat → List Nat → rx_H → Option (Nat × rx_H)) (j : Nat → rx_K) : rx_K := o_inc 5 (1) ((j 1))
set_option maxRecDepth 20000 in
theorem wX13_linkWith_167 {dn : Nat} {g : Nat → List Nat → rx_H → Option (Nat × rx_H)} (hZ : zO b e D A X) (hg : ∀ i y M, vl18[i]? = some (y, M) → rx_Met (zV b e D A X) dn y M (g i)) (hd : 172 ≤ dn) (j : Nat → rx_K) (hj : ∀ k pc, [25, 94][k]? = some pc → rx_OK (zV b e D A X) mX13_linkWith (dn + 1) pc (j k)) : rx_OK (zV b e D A X) mX13_linkWith (dn + 1) 167 (vX13_linkWith_167 g j) := by
  unfold vX13_linkWith_167
  refine s_iinc hZ.1 dX13_linkWith_167 (Nat.le_of_ble_eq_true rfl) ?_
  exact s_goto dX13_linkWith_170 (by decide) (hj 1 94 rfl)
noncomputable def vX13_linkWith_159 (g : Nat → List Nat → rx_H → Option (Nat × rx_H)) (j : Nat → rx_K) : rx_K := o_ld rx_isR 0 (o_ld rx_isI 5 (o_const 8 (o_callV 2 13 FX13_ask (o_st rx_isI 3 ((vX13_linkWith_167 g j))))))
set_option maxRecDepth 20000 in
theorem wX13_linkWith_159 {dn : Nat} {g : Nat → List Nat → rx_H → Option (Nat × rx_H)} (hZ : zO b e D A X) (hg : ∀ i y M, vl18[i]? = some (y, M) → rx_Met (zV b e D A X) dn y M (g i)) (hd : 172 ≤ dn) (j : Nat → rx_K) (hj : ∀ k pc, [25, 94][k]? = some pc → rx_OK (zV b e D A X) mX13_linkWith (dn + 1) pc (j k)) : rx_OK (zV b e D A X) mX13_linkWith (dn + 1) 159 (vX13_linkWith_159 g j) := by
  unfold vX13_linkWith_159
  refine s_aload_n hZ.1 dX13_linkWith_159 rfl ?_
  refine s_iload hZ.1 dX13_linkWith_160 ?_
  refine s_iconst dX13_linkWith_162 (by decide +kernel) ?_
  refine s_callV hZ.1 (Met_X13_ask hZ) (Nat.succ_le_succ (Nat.le_trans (Nat.le_of_ble_eq_true rfl) hd)) vy_X13_ask zcl13 zw3724 zw337 (Or.inl zw3722) dX13_linkWith_163 ?_
  refine s_istore_n hZ.1 dX13_linkWith_166 rfl (Nat.le_of_ble_eq_true rfl) ?_
  exact (wX13_linkWith_167 hZ hg hd j hj)
noncomputable def vX13_linkWith_147 (g : Nat → List Nat → rx_H → Option (Nat × rx_H)) (j : Nat → rx_K) : rx_K := o_ld rx_isR 0 (o_getf 13 119 (o_ld rx_isI 5 (o_ald 0 (o_const 120 (o_c2 rx_eq (vX13_linkWith_159 g j) (vX13_linkWith_167 g j))))))
set_option maxRecDepth 20000 in
theorem wX13_linkWith_147 {dn : Nat} {g : Nat → List Nat → rx_H → Option (Nat × rx_H)} (hZ : zO b e D A X) (hg : ∀ i y M, vl18[i]? = some (y, M) → rx_Met (zV b e D A X) dn y M (g i)) (hd : 172 ≤ dn) (j : Nat → rx_K) (hj : ∀ k pc, [25, 94][k]? = some pc → rx_OK (zV b e D A X) mX13_linkWith (dn + 1) pc (j k)) : rx_OK (zV b e D A X) mX13_linkWith (dn + 1) 147 (vX13_linkWith_147 g j) := by
  unfold vX13_linkWith_147
  refine s_aload_n hZ.1 dX13_linkWith_147 rfl ?_
  refine yg13_119 dX13_linkWith_148 zw4239 ?_
  refine s_iload hZ.1 dX13_linkWith_151 ?_
  refine s_iald (tt := 0) rfl dX13_linkWith_153 ?_
  refine s_bipush dX13_linkWith_154 (by decide +kernel) ?_
  exact s_icmp_ne dX13_linkWith_156 (by decide) (wX13_linkWith_167 hZ hg hd j hj) (wX13_linkWith_159 hZ hg hd j hj)
noncomputable def vX13_linkWith_135 (g : Nat → List Nat → rx_H → Option (Nat × rx_H)) (j : Nat → rx_K) : rx_K := o_ld rx_isR 0 (o_getf 13 119 (o_ld rx_isI 5 (o_ald 0 (o_const 136 (o_c2 rx_eq (vX13_linkWith_159 g j) (vX13_linkWith_147 g j))))))
set_option maxRecDepth 20000 in
theorem wX13_linkWith_135 {dn : Nat} {g : Nat → List Nat → rx_H → Option (Nat × rx_H)} (hZ : zO b e D A X) (hg : ∀ i y M, vl18[i]? = some (y, M) → rx_Met (zV b e D A X) dn y M (g i)) (hd : 172 ≤ dn) (j : Nat → rx_K) (hj : ∀ k pc, [25, 94][k]? = some pc → rx_OK (zV b e D A X) mX13_linkWith (dn + 1) pc (j k)) : rx_OK (zV b e D A X) mX13_linkWith (dn + 1) 135 (vX13_linkWith_135 g j) := by
  unfold vX13_linkWith_135
  refine s_aload_n hZ.1 dX13_linkWith_135 rfl ?_
  refine yg13_119 dX13_linkWith_136 zw4239 ?_
  refine s_iload hZ.1 dX13_linkWith_139 ?_
  refine s_iald (tt := 0) rfl dX13_linkWith_141 ?_
  refine s_bipush dX13_linkWith_142 (by decide +kernel) ?_
  exact s_icmp_eq dX13_linkWith_144 (by decide) (wX13_linkWith_159 hZ hg hd j hj) (wX13_linkWith_147 hZ hg hd j hj)
noncomputable def vX13_linkWith_124 (g : Nat → List Nat → rx_H → Option (Nat × rx_H)) (j : Nat → rx_K) : rx_K := o_ld rx_isR 0 (o_getf 13 120 (o_ld rx_isI 5 (o_ald 0 (o_ld rx_isI 1 (o_c2 rx_eq (vX13_linkWith_135 g j) (vX13_linkWith_167 g j))))))
set_option maxRecDepth 20000 in
theorem wX13_linkWith_124 {dn : Nat} {g : Nat → List Nat → rx_H → Option (Nat × rx_H)} (hZ : zO b e D A X) (hg : ∀ i y M, vl18[i]? = some (y, M) → rx_Met (zV b e D A X) dn y M (g i)) (hd : 172 ≤ dn) (j : Nat → rx_K) (hj : ∀ k pc, [25, 94][k]? = some pc → rx_OK (zV b e D A X) mX13_linkWith (dn + 1) pc (j k)) : rx_OK (zV b e D A X) mX13_linkWith (dn + 1) 124 (vX13_linkWith_124 g j) := by
  unfold vX13_linkWith_124
  refine s_aload_n hZ.1 dX13_linkWith_124 rfl ?_
  refine yg13_120 dX13_linkWith_125 zw4240 ?_
  refine s_iload hZ.1 dX13_linkWith_128 ?_
  refine s_iald (tt := 0) rfl dX13_linkWith_130 ?_
  refine s_iload_n hZ.1 dX13_linkWith_131 rfl ?_
  exact s_icmp_ne dX13_linkWith_132 (by decide) (wX13_linkWith_167 hZ hg hd j hj) (wX13_linkWith_135 hZ hg hd j hj)
noncomputable def vX13_linkWith_120 (g : Nat → List Nat → rx_H → Option (Nat × rx_H)) (j : Nat → rx_K) : rx_K := o_ld rx_isI 3 (o_c1 rx_eq (vX13_linkWith_124 g j) (vX13_linkWith_173 g j))
set_option maxRecDepth 20000 in
theorem wX13_linkWith_120 {dn : Nat} {g : Nat → List Nat → rx_H → Option (Nat × rx_H)} (hZ : zO b e D A X) (hg : ∀ i y M, vl18[i]? = some (y, M) → rx_Met (zV b e D A X) dn y M (g i)) (hd : 172 ≤ dn) (j : Nat → rx_K) (hj : ∀ k pc, [25, 94][k]? = some pc → rx_OK (zV b e D A X) mX13_linkWith (dn + 1) pc (j k)) : rx_OK (zV b e D A X) mX13_linkWith (dn + 1) 120 (vX13_linkWith_120 g j) := by
  unfold vX13_linkWith_120
  refine s_iload_n hZ.1 dX13_linkWith_120 rfl ?_
  exact s_if_ne dX13_linkWith_121 (by decide) (wX13_linkWith_173 hZ hg hd j hj) (wX13_linkWith_124 hZ hg hd j hj)
noncomputable def vX13_linkWith_101 (g : Nat → List Nat → rx_H → Option (Nat × rx_H)) (j : Nat → rx_K) : rx_K := o_ld rx_isI 5 (o_ld rx_isI 4 (o_const 14400 (o_bi (fun x y => x * y) (o_ld rx_isR 0 (o_getf 13 118 (o_ld rx_isI 4 (o_ald 0 (o_bi (fun x y => x + y) (o_c2 rx_lt (vX13_linkWith_120 g j) (vX13_linkWith_173 g j))))))))))
set_option maxRecDepth 20000 in
theorem wX13_linkWith_101 {dn : Nat} {g : Nat → List Nat → rx_H → Option (Nat × rx_H)} (hZ : zO b e D A X) (hg : ∀ i y M, vl18[i]? = some (y, M) → rx_Met (zV b e D A X) dn y M (g i)) (hd : 172 ≤ dn) (j : Nat → rx_K) (hj : ∀ k pc, [25, 94][k]? = some pc → rx_OK (zV b e D A X) mX13_linkWith (dn + 1) pc (j k)) : rx_OK (zV b e D A X) mX13_linkWith (dn + 1) 101 (vX13_linkWith_101 g j) := by
  unfold vX13_linkWith_101
  refine s_iload hZ.1 dX13_linkWith_101 ?_
  refine s_iload hZ.1 dX13_linkWith_103 ?_
  refine s_sipush dX13_linkWith_105 (by decide +kernel) ?_
  refine s_imul dX13_linkWith_108 ?_
  refine s_aload_n hZ.1 dX13_linkWith_109 rfl ?_
  refine yg13_118 dX13_linkWith_110 zw4238 ?_
  refine s_iload hZ.1 dX13_linkWith_113 ?_
  refine s_iald (tt := 0) rfl dX13_linkWith_115 ?_
  refine s_iadd dX13_linkWith_116 ?_
  exact s_icmp_ge dX13_linkWith_117 (by decide) (wX13_linkWith_173 hZ hg hd j hj) (wX13_linkWith_120 hZ hg hd j hj)
noncomputable def vX13_linkWith_94 (g : Nat → List Nat → rx_H → Option (Nat × rx_H)) (j : Nat → rx_K) : rx_K := o_ld rx_isI 4 (o_const 128 (o_c2 rx_lt (vX13_linkWith_101 g j) (vX13_linkWith_173 g j)))
set_option maxRecDepth 20000 in
theorem wX13_linkWith_94 {dn : Nat} {g : Nat → List Nat → rx_H → Option (Nat × rx_H)} (hZ : zO b e D A X) (hg : ∀ i y M, vl18[i]? = some (y, M) → rx_Met (zV b e D A X) dn y M (g i)) (hd : 172 ≤ dn) (j : Nat → rx_K) (hj : ∀ k pc, [25, 94][k]? = some pc → rx_OK (zV b e D A X) mX13_linkWith (dn + 1) pc (j k)) : rx_OK (zV b e D A X) mX13_linkWith (dn + 1) 94 (vX13_linkWith_94 g j) := by
  unfold vX13_linkWith_94
  refine s_iload hZ.1 dX13_linkWith_94 ?_
  refine s_bipush dX13_linkWith_96 (by decide +kernel) ?_
  exact s_icmp_ge dX13_linkWith_98 (by decide) (wX13_linkWith_173 hZ hg hd j hj) (wX13_linkWith_101 hZ hg hd j hj)
noncomputable def vX13_linkWith_80 (g : Nat → List Nat → rx_H → Option (Nat × rx_H)) (j : Nat → rx_K) : rx_K := o_ld rx_isI 1 (o_const 96 (o_bin (fun x y => x / y) (o_st rx_isI 4 (o_ld rx_isI 4 (o_const 14400 (o_bi (fun x y => x * y) (o_st rx_isI 5 ((vX13_linkWith_94 g j)))))))))
set_option maxRecDepth 20000 in
theorem wX13_linkWith_80 {dn : Nat} {g : Nat → List Nat → rx_H → Option (Nat × rx_H)} (hZ : zO b e D A X) (hg : ∀ i y M, vl18[i]? = some (y, M) → rx_Met (zV b e D A X) dn y M (g i)) (hd : 172 ≤ dn) (j : Nat → rx_K) (hj : ∀ k pc, [25, 94][k]? = some pc → rx_OK (zV b e D A X) mX13_linkWith (dn + 1) pc (j k)) : rx_OK (zV b e D A X) mX13_linkWith (dn + 1) 80 (vX13_linkWith_80 g j) := by
  unfold vX13_linkWith_80
  refine s_iload_n hZ.1 dX13_linkWith_80 rfl ?_
  refine s_bipush dX13_linkWith_81 (by decide +kernel) ?_
  refine s_idiv dX13_linkWith_83 ?_
  refine s_istore hZ.1 dX13_linkWith_84 (Nat.le_of_ble_eq_true rfl) ?_
  refine s_iload hZ.1 dX13_linkWith_86 ?_
  refine s_sipush dX13_linkWith_88 (by decide +kernel) ?_
  refine s_imul dX13_linkWith_91 ?_
  refine s_istore hZ.1 dX13_linkWith_92 (Nat.le_of_ble_eq_true rfl) ?_
  exact (wX13_linkWith_94 hZ hg hd j hj)
noncomputable def vX13_linkWith_78 (g : Nat → List Nat → rx_H → Option (Nat × rx_H)) (j : Nat → rx_K) : rx_K := o_const 24 (o_st rx_isI 3 ((vX13_linkWith_80 g j)))
set_option maxRecDepth 20000 in
theorem wX13_linkWith_78 {dn : Nat} {g : Nat → List Nat → rx_H → Option (Nat × rx_H)} (hZ : zO b e D A X) (hg : ∀ i y M, vl18[i]? = some (y, M) → rx_Met (zV b e D A X) dn y M (g i)) (hd : 172 ≤ dn) (j : Nat → rx_K) (hj : ∀ k pc, [25, 94][k]? = some pc → rx_OK (zV b e D A X) mX13_linkWith (dn + 1) pc (j k)) : rx_OK (zV b e D A X) mX13_linkWith (dn + 1) 78 (vX13_linkWith_78 g j) := by
  unfold vX13_linkWith_78
  refine s_iconst dX13_linkWith_78 (by decide +kernel) ?_
  refine s_istore_n hZ.1 dX13_linkWith_79 rfl (Nat.le_of_ble_eq_true rfl) ?_
  exact (wX13_linkWith_80 hZ hg hd j hj)
noncomputable def vX13_linkWith_70 (g : Nat → List Nat → rx_H → Option (Nat × rx_H)) (j : Nat → rx_K) : rx_K := o_ld rx_isR 0 (o_ld rx_isI 1 (o_callV 1 13 FX13_overridesFinal (o_c1 rx_eq (vX13_linkWith_80 g j) (vX13_linkWith_78 g j))))
set_option maxRecDepth 20000 in
theorem wX13_linkWith_70 {dn : Nat} {g : Nat → List Nat → rx_H → Option (Nat × rx_H)} (hZ : zO b e D A X) (hg : ∀ i y M, vl18[i]? = some (y, M) → rx_Met (zV b e D A X) dn y M (g i)) (hd : 172 ≤ dn) (j : Nat → rx_K) (hj : ∀ k pc, [25, 94][k]? = some pc → rx_OK (zV b e D A X) mX13_linkWith (dn + 1) pc (j k)) : rx_OK (zV b e D A X) mX13_linkWith (dn + 1) 70 (vX13_linkWith_70 g j) := by
  unfold vX13_linkWith_70
  refine s_aload_n hZ.1 dX13_linkWith_70 rfl ?_
  refine s_iload_n hZ.1 dX13_linkWith_71 rfl ?_
  refine s_callV hZ.1 (Met_X13_overridesFinal hZ) (Nat.succ_le_succ (Nat.le_trans (Nat.le_of_ble_eq_true rfl) hd)) vy_X13_overridesFinal zcl13 zw3832 zw355 (Or.inl zw3830) dX13_linkWith_72 ?_
  exact s_if_eq dX13_linkWith_75 (by decide) (wX13_linkWith_80 hZ hg hd j hj) (wX13_linkWith_78 hZ hg hd j hj)
noncomputable def vX13_linkWith_66 (g : Nat → List Nat → rx_H → Option (Nat × rx_H)) (j : Nat → rx_K) : rx_K := o_ld rx_isI 3 (o_c1 rx_eq (vX13_linkWith_70 g j) (vX13_linkWith_80 g j))
set_option maxRecDepth 20000 in
theorem wX13_linkWith_66 {dn : Nat} {g : Nat → List Nat → rx_H → Option (Nat × rx_H)} (hZ : zO b e D A X) (hg : ∀ i y M, vl18[i]? = some (y, M) → rx_Met (zV b e D A X) dn y M (g i)) (hd : 172 ≤ dn) (j : Nat → rx_K) (hj : ∀ k pc, [25, 94][k]? = some pc → rx_OK (zV b e D A X) mX13_linkWith (dn + 1) pc (j k)) : rx_OK (zV b e D A X) mX13_linkWith (dn + 1) 66 (vX13_linkWith_66 g j) := by
  unfold vX13_linkWith_66
  refine s_iload_n hZ.1 dX13_linkWith_66 rfl ?_
  exact s_if_ne dX13_linkWith_67 (by decide) (wX13_linkWith_80 hZ hg hd j hj) (wX13_linkWith_70 hZ hg hd j hj)
noncomputable def vX13_linkWith_40 (g : Nat → List Nat → rx_H → Option (Nat × rx_H)) (j : Nat → rx_K) : rx_K := o_ld rx_isR 0 (o_ld rx_isR 0 (o_ld rx_isR 0 (o_getf 13 30 (o_const 32 (o_ld rx_isI 1 (o_bi (fun x y => x * y) (o_ld rx_isI 4 (o_bi (fun x y => x + y) (o_ald 1 (o_callV 1 13 FX13_find (o_callV 1 13 (g 0) (o_st rx_isI 3 (o_inc 4 (1) ((j 0)))))))))))))))
set_option maxRecDepth 20000 in
theorem wX13_linkWith_40 {dn : Nat} {g : Nat → List Nat → rx_H → Option (Nat × rx_H)} (hZ : zO b e D A X) (hg : ∀ i y M, vl18[i]? = some (y, M) → rx_Met (zV b e D A X) dn y M (g i)) (hd : 172 ≤ dn) (j : Nat → rx_K) (hj : ∀ k pc, [25, 94][k]? = some pc → rx_OK (zV b e D A X) mX13_linkWith (dn + 1) pc (j k)) : rx_OK (zV b e D A X) mX13_linkWith (dn + 1) 40 (vX13_linkWith_40 g j) := by
  unfold vX13_linkWith_40
  refine s_aload_n hZ.1 dX13_linkWith_40 rfl ?_
  refine s_aload_n hZ.1 dX13_linkWith_41 rfl ?_
  refine s_aload_n hZ.1 dX13_linkWith_42 rfl ?_
  refine yg13_30 dX13_linkWith_43 zw4151 ?_
  refine s_iconst dX13_linkWith_46 (by decide +kernel) ?_
  refine s_iload_n hZ.1 dX13_linkWith_47 rfl ?_
  refine s_imul dX13_linkWith_48 ?_
  refine s_iload hZ.1 dX13_linkWith_49 ?_
  refine s_iadd dX13_linkWith_51 ?_
  refine s_lald (tt := 1) rfl dX13_linkWith_52 ?_
  refine s_callV hZ.1 (Met_X13_find hZ) (Nat.succ_le_succ (Nat.le_trans (Nat.le_of_ble_eq_true rfl) hd)) vy_X13_find zcl13 zw3186 zw226 (Or.inl zw3184) dX13_linkWith_53 ?_
  refine s_callV hZ.1 (hg 0 _ _ rfl) (Nat.le_refl _) vy_X13_link zcl13 zw3824 zw353 (Or.inl zw3822) dX13_linkWith_56 ?_
  refine s_istore_n hZ.1 dX13_linkWith_59 rfl (Nat.le_of_ble_eq_true rfl) ?_
  refine s_iinc hZ.1 dX13_linkWith_60 (Nat.le_of_ble_eq_true rfl) ?_
  exact s_goto dX13_linkWith_63 (by decide) (hj 0 25 rfl)
noncomputable def vX13_linkWith_36 (g : Nat → List Nat → rx_H → Option (Nat × rx_H)) (j : Nat → rx_K) : rx_K := o_ld rx_isI 3 (o_c1 rx_eq (vX13_linkWith_40 g j) (vX13_linkWith_66 g j))
set_option maxRecDepth 20000 in
theorem wX13_linkWith_36 {dn : Nat} {g : Nat → List Nat → rx_H → Option (Nat × rx_H)} (hZ : zO b e D A X) (hg : ∀ i y M, vl18[i]? = some (y, M) → rx_Met (zV b e D A X) dn y M (g i)) (hd : 172 ≤ dn) (j : Nat → rx_K) (hj : ∀ k pc, [25, 94][k]? = some pc → rx_OK (zV b e D A X) mX13_linkWith (dn + 1) pc (j k)) : rx_OK (zV b e D A X) mX13_linkWith (dn + 1) 36 (vX13_linkWith_36 g j) := by
  unfold vX13_linkWith_36
  refine s_iload_n hZ.1 dX13_linkWith_36 rfl ?_
  exact s_if_ne dX13_linkWith_37 (by decide) (wX13_linkWith_66 hZ hg hd j hj) (wX13_linkWith_40 hZ hg hd j hj)
noncomputable def vX13_linkWith_25 (g : Nat → List Nat → rx_H → Option (Nat × rx_H)) (j : Nat → rx_K) : rx_K := o_ld rx_isI 4 (o_ld rx_isR 0 (o_getf 13 32 (o_ld rx_isI 1 (o_ald 0 (o_c2 rx_lt (vX13_linkWith_36 g j) (vX13_linkWith_66 g j))))))
set_option maxRecDepth 20000 in
theorem wX13_linkWith_25 {dn : Nat} {g : Nat → List Nat → rx_H → Option (Nat × rx_H)} (hZ : zO b e D A X) (hg : ∀ i y M, vl18[i]? = some (y, M) → rx_Met (zV b e D A X) dn y M (g i)) (hd : 172 ≤ dn) (j : Nat → rx_K) (hj : ∀ k pc, [25, 94][k]? = some pc → rx_OK (zV b e D A X) mX13_linkWith (dn + 1) pc (j k)) : rx_OK (zV b e D A X) mX13_linkWith (dn + 1) 25 (vX13_linkWith_25 g j) := by
  unfold vX13_linkWith_25
  refine s_iload hZ.1 dX13_linkWith_25 ?_
  refine s_aload_n hZ.1 dX13_linkWith_27 rfl ?_
  refine yg13_32 dX13_linkWith_28 zw4153 ?_
  refine s_iload_n hZ.1 dX13_linkWith_31 rfl ?_
  refine s_iald (tt := 0) rfl dX13_linkWith_32 ?_
  exact s_icmp_ge dX13_linkWith_33 (by decide) (wX13_linkWith_66 hZ hg hd j hj) (wX13_linkWith_36 hZ hg hd j hj)
noncomputable def vX13_linkWith_21 (g : Nat → List Nat → rx_H → Option (Nat × rx_H)) (j : Nat → rx_K) : rx_K := o_st rx_isI 3 (o_const 0 (o_st rx_isI 4 ((vX13_linkWith_25 g j))))
set_option maxRecDepth 20000 in
theorem wX13_linkWith_21 {dn : Nat} {g : Nat → List Nat → rx_H → Option (Nat × rx_H)} (hZ : zO b e D A X) (hg : ∀ i y M, vl18[i]? = some (y, M) → rx_Met (zV b e D A X) dn y M (g i)) (hd : 172 ≤ dn) (j : Nat → rx_K) (hj : ∀ k pc, [25, 94][k]? = some pc → rx_OK (zV b e D A X) mX13_linkWith (dn + 1) pc (j k)) : rx_OK (zV b e D A X) mX13_linkWith (dn + 1) 21 (vX13_linkWith_21 g j) := by
  unfold vX13_linkWith_21
  refine s_istore_n hZ.1 dX13_linkWith_21 rfl (Nat.le_of_ble_eq_true rfl) ?_
  refine s_iconst dX13_linkWith_22 (by decide +kernel) ?_
  refine s_istore hZ.1 dX13_linkWith_23 (Nat.le_of_ble_eq_true rfl) ?_
  exact (wX13_linkWith_25 hZ hg hd j hj)
noncomputable def vX13_linkWith_16 (g : Nat → List Nat → rx_H → Option (Nat × rx_H)) (j : Nat → rx_K) : rx_K := o_ld rx_isR 0 (o_ld rx_isI 2 (o_callV 1 13 (g 0) ((vX13_linkWith_21 g j))))
set_option maxRecDepth 20000 in
theorem wX13_linkWith_16 {dn : Nat} {g : Nat → List Nat → rx_H → Option (Nat × rx_H)} (hZ : zO b e D A X) (hg : ∀ i y M, vl18[i]? = some (y, M) → rx_Met (zV b e D A X) dn y M (g i)) (hd : 172 ≤ dn) (j : Nat → rx_K) (hj : ∀ k pc, [25, 94][k]? = some pc → rx_OK (zV b e D A X) mX13_linkWith (dn + 1) pc (j k)) : rx_OK (zV b e D A X) mX13_linkWith (dn + 1) 16 (vX13_linkWith_16 g j) := by
  unfold vX13_linkWith_16
  refine s_aload_n hZ.1 dX13_linkWith_16 rfl ?_
  refine s_iload_n hZ.1 dX13_linkWith_17 rfl ?_
  refine s_callV hZ.1 (hg 0 _ _ rfl) (Nat.le_refl _) vy_X13_link zcl13 zw3824 zw353 (Or.inl zw3822) dX13_linkWith_18 ?_
  exact (wX13_linkWith_21 hZ hg hd j hj)
noncomputable def vX13_linkWith_12 (g : Nat → List Nat → rx_H → Option (Nat × rx_H)) (j : Nat → rx_K) : rx_K := o_const 0 ((vX13_linkWith_21 g j))
set_option maxRecDepth 20000 in
theorem wX13_linkWith_12 {dn : Nat} {g : Nat → List Nat → rx_H → Option (Nat × rx_H)} (hZ : zO b e D A X) (hg : ∀ i y M, vl18[i]? = some (y, M) → rx_Met (zV b e D A X) dn y M (g i)) (hd : 172 ≤ dn) (j : Nat → rx_K) (hj : ∀ k pc, [25, 94][k]? = some pc → rx_OK (zV b e D A X) mX13_linkWith (dn + 1) pc (j k)) : rx_OK (zV b e D A X) mX13_linkWith (dn + 1) 12 (vX13_linkWith_12 g j) := by
  unfold vX13_linkWith_12
  refine s_iconst dX13_linkWith_12 (by decide +kernel) ?_
  exact s_goto dX13_linkWith_13 (by decide) (wX13_linkWith_21 hZ hg hd j hj)
noncomputable def vX13_linkWith_0 (g : Nat → List Nat → rx_H → Option (Nat × rx_H)) (j : Nat → rx_K) : rx_K := o_ld rx_isR 0 (o_ld rx_isI 1 (o_callV 1 13 FX13_parent (o_st rx_isI 2 (o_ld rx_isI 2 (o_const 34359738352 (o_c2 rx_eq (vX13_linkWith_12 g j) (vX13_linkWith_16 g j)))))))
set_option maxRecDepth 20000 in
theorem wX13_linkWith_0 {dn : Nat} {g : Nat → List Nat → rx_H → Option (Nat × rx_H)} (hZ : zO b e D A X) (hg : ∀ i y M, vl18[i]? = some (y, M) → rx_Met (zV b e D A X) dn y M (g i)) (hd : 172 ≤ dn) (j : Nat → rx_K) (hj : ∀ k pc, [25, 94][k]? = some pc → rx_OK (zV b e D A X) mX13_linkWith (dn + 1) pc (j k)) : rx_OK (zV b e D A X) mX13_linkWith (dn + 1) 0 (vX13_linkWith_0 g j) := by
  unfold vX13_linkWith_0
  refine s_aload_n hZ.1 dX13_linkWith_0 rfl ?_
  refine s_iload_n hZ.1 dX13_linkWith_1 rfl ?_
  refine s_callV hZ.1 (Met_X13_parent hZ) (Nat.succ_le_succ (Nat.le_trans (Nat.le_of_ble_eq_true rfl) hd)) vy_X13_parent zcl13 zw3220 zw233 (Or.inl zw3218) dX13_linkWith_2 ?_
  refine s_istore_n hZ.1 dX13_linkWith_5 rfl (Nat.le_of_ble_eq_true rfl) ?_
  refine s_iload_n hZ.1 dX13_linkWith_6 rfl ?_
  refine s_bipush dX13_linkWith_7 (by decide +kernel) ?_
  exact s_icmp_ne dX13_linkWith_9 (by decide) (wX13_linkWith_16 hZ hg hd j hj) (wX13_linkWith_12 hZ hg hd j hj)
noncomputable def vhX13_linkWith (g : Nat → List Nat → rx_H → Option (Nat × rx_H)) (j : Nat → rx_K) : List rx_K := [vX13_linkWith_25 g j, vX13_linkWith_94 g j]
theorem vlX13_linkWith {dn : Nat} {g : Nat → List Nat → rx_H → Option (Nat × rx_H)} (hZ : zO b e D A X) (hg : ∀ i y M, vl18[i]? = some (y, M) → rx_Met (zV b e D A X) dn y M (g i)) (hd : 172 ≤ dn) : ∀ n k pc, [25, 94][k]? = some pc → rx_OK (zV b e D A X) mX13_linkWith (dn + 1) pc (rx_J (vhX13_linkWith g) n k) := rx_loop fun j hj k pc h => by
  match k, h with
  | 0, h =>
    have e9 := Option.some.inj (show some 25 = some pc from h)
    subst e9
    exact wX13_linkWith_25 hZ hg hd j hj
  | 1, h =>
    have e9 := Option.some.inj (show some 94 = some pc from h)
    subst e9
    exact wX13_linkWith_94 hZ hg hd j hj
  | _ + 2, h => exact absurd h (by simp)
noncomputable def FX13_linkWith (g : Nat → List Nat → rx_H → Option (Nat × rx_H)) : List Nat → rx_H → Option (Nat × rx_H) := rx_ent 6 (vX13_linkWith_0 g (rx_J (vhX13_linkWith g) 4000000000))
theorem Met_X13_linkWith {dn : Nat} {g : Nat → List Nat → rx_H → Option (Nat × rx_H)} (hZ : zO b e D A X) (hg : ∀ i y M, vl18[i]? = some (y, M) → rx_Met (zV b e D A X) dn y M (g i)) (hd : 172 ≤ dn) : rx_Met (zV b e D A X) (dn + 1) yX13_linkWith mX13_linkWith (FX13_linkWith g) := rx_entry hZ.1 (wX13_linkWith_0 hZ hg hd _ (vlX13_linkWith hZ hg hd 4000000000)) (by decide +kernel) rfl (fun h => by cases h)
noncomputable def q18 (n : Nat) : Nat → List Nat → rx_H → Option (Nat × rx_H) := Nat.rec (fun _ _ _ => none) (fun _ ih i => rx_nth [FX13_link ih, FX13_linkWith ih] i (fun _ _ => none)) n
theorem q18_ok (hZ : zO b e D A X) : ∀ n i y M, vl18[i]? = some (y, M) → rx_Met (zV b e D A X) (172 + n) y M (q18 n i)
  | 0 => fun i y M _ As h r h2 hf => by cases hf
  | n + 1 => fun i y M h => by
    match i, h with
    | 0, h => cases h; exact Met_X13_link hZ (q18_ok hZ n) (Nat.le_add_right 172 n)
    | 1, h => cases h; exact Met_X13_linkWith hZ (q18_ok hZ n) (Nat.le_add_right 172 n)
    | _ + 2, h => exact absurd h (by simp)
abbrev mX13_stands_ : rx_M := (RX13, cX13_stands_, 3, (some .boolean), false)
theorem vy_X13_stands_ : rx_Y (zV b e D A X) yX13_stands_ mX13_stands_ 1 := ⟨zw3717, zw431, by decide, by decide +kernel, by decide +kernel, by decide +kernel⟩
noncomputable def vX13_stands__50 : rx_K := o_ret1 rx_isZ
set_option maxRecDepth 20000 in
theorem wX13_stands__50 (hZ : zO b e D A X) : rx_OK (zV b e D A X) mX13_stands_ 2 50 vX13_stands__50 := by
  unfold vX13_stands__50
  exact s_zret rx_z_ok rfl dX13_stands__50
noncomputable def vX13_stands__49 : rx_K := o_const 0 (vX13_stands__50)
set_option maxRecDepth 20000 in
theorem wX13_stands__49 (hZ : zO b e D A X) : rx_OK (zV b e D A X) mX13_stands_ 2 49 vX13_stands__49 := by
  unfold vX13_stands__49
  refine s_iconst dX13_stands__49 (by decide +kernel) ?_
  exact (wX13_stands__50 hZ)
noncomputable def vX13_stands__45 : rx_K := o_const 8 (vX13_stands__50)
set_option maxRecDepth 20000 in
theorem wX13_stands__45 (hZ : zO b e D A X) : rx_OK (zV b e D A X) mX13_stands_ 2 45 vX13_stands__45 := by
  unfold vX13_stands__45
  refine s_iconst dX13_stands__45 (by decide +kernel) ?_
  exact s_goto dX13_stands__46 (by decide) (wX13_stands__50 hZ)
noncomputable def vX13_stands__21 : rx_K := o_ld rx_isR 0 (o_ld rx_isR 0 (o_getf 13 24 (o_ld rx_isR 0 (o_getf 13 120 (o_ld rx_isI 1 (o_ald 0 (o_ald 1 (o_callV 1 13 FX13_find (o_ld rx_isR 0 (o_getf 13 120 (o_ld rx_isI 1 (o_ald 0 (o_c2 rx_eq vX13_stands__45 vX13_stands__49)))))))))))))
set_option maxRecDepth 20000 in
theorem wX13_stands__21 (hZ : zO b e D A X) : rx_OK (zV b e D A X) mX13_stands_ 2 21 vX13_stands__21 := by
  unfold vX13_stands__21
  refine s_aload_n hZ.1 dX13_stands__21 rfl ?_
  refine s_aload_n hZ.1 dX13_stands__22 rfl ?_
  refine yg13_24 dX13_stands__23 zw4145 ?_
  refine s_aload_n hZ.1 dX13_stands__26 rfl ?_
  refine yg13_120 dX13_stands__27 zw4240 ?_
  refine s_iload_n hZ.1 dX13_stands__30 rfl ?_
  refine s_iald (tt := 0) rfl dX13_stands__31 ?_
  refine s_lald (tt := 1) rfl dX13_stands__32 ?_
  refine s_callV hZ.1 (Met_X13_find hZ) (Nat.le_of_ble_eq_true rfl) vy_X13_find zcl13 zw3186 zw226 (Or.inl zw3184) dX13_stands__33 ?_
  refine s_aload_n hZ.1 dX13_stands__36 rfl ?_
  refine yg13_120 dX13_stands__37 zw4240 ?_
  refine s_iload_n hZ.1 dX13_stands__40 rfl ?_
  refine s_iald (tt := 0) rfl dX13_stands__41 ?_
  exact s_icmp_ne dX13_stands__42 (by decide) (wX13_stands__49 hZ) (wX13_stands__45 hZ)
noncomputable def vX13_stands__0 : rx_K := o_ld rx_isI 1 (o_const 14400 (o_bin (fun x y => x / y) (o_st rx_isI 2 (o_ld rx_isR 0 (o_getf 13 90 (o_ld rx_isR 0 (o_getf 13 7 (o_ld rx_isI 2 (o_ald 0 (o_ald 0 (o_ld rx_isI 2 (o_c2 rx_eq vX13_stands__21 vX13_stands__49))))))))))))
set_option maxRecDepth 20000 in
theorem wX13_stands__0 (hZ : zO b e D A X) : rx_OK (zV b e D A X) mX13_stands_ 2 0 vX13_stands__0 := by
  unfold vX13_stands__0
  refine s_iload_n hZ.1 dX13_stands__0 rfl ?_
  refine s_sipush dX13_stands__1 (by decide +kernel) ?_
  refine s_idiv dX13_stands__4 ?_
  refine s_istore_n hZ.1 dX13_stands__5 rfl (Nat.le_of_ble_eq_true rfl) ?_
  refine s_aload_n hZ.1 dX13_stands__6 rfl ?_
  refine yg13_90 dX13_stands__7 zw4211 ?_
  refine s_aload_n hZ.1 dX13_stands__10 rfl ?_
  refine yg13_7 dX13_stands__11 zw4128 ?_
  refine s_iload_n hZ.1 dX13_stands__14 rfl ?_
  refine s_iald (tt := 0) rfl dX13_stands__15 ?_
  refine s_iald (tt := 0) rfl dX13_stands__16 ?_
  refine s_iload_n hZ.1 dX13_stands__17 rfl ?_
  exact s_icmp_ne dX13_stands__18 (by decide) (wX13_stands__49 hZ) (wX13_stands__21 hZ)
noncomputable def FX13_stands_ : List Nat → rx_H → Option (Nat × rx_H) := rx_ent 3 vX13_stands__0
theorem Met_X13_stands_ (hZ : zO b e D A X) : rx_Met (zV b e D A X) 2 yX13_stands_ mX13_stands_ (FX13_stands_) := rx_entry hZ.1 (wX13_stands__0 hZ) (by decide +kernel) rfl (fun h => by cases h)
abbrev mX13_foretell : rx_M := (RX13, cX13_foretell, 4, (some .int), false)
theorem vy_X13_foretell : rx_Y (zV b e D A X) yX13_foretell mX13_foretell 1 := ⟨zw3721, zw431, by decide, by decide +kernel, by decide +kernel, by decide +kernel⟩
noncomputable def vX13_foretell_0 : rx_K := o_ld rx_isR 0 (o_getf 13 134 (o_st rx_isI 2 (o_ld rx_isR 0 (o_const 512 (o_putf rx_isI 13 134 (o_ld rx_isR 0 (o_const 512 (o_callV 1 13 FX13_clearSet (o_ld rx_isR 0 (o_ld rx_isI 1 (o_const 0 (o_callV 2 13 FX13_ask (o_st rx_isI 3 (o_ld rx_isR 0 (o_ld rx_isI 2 (o_putf rx_isI 13 134 (o_ld rx_isI 3 (o_ret1 rx_isI))))))))))))))))))
set_option maxRecDepth 20000 in
theorem wX13_foretell_0 (hZ : zO b e D A X) : rx_OK (zV b e D A X) mX13_foretell 172 0 vX13_foretell_0 := by
  unfold vX13_foretell_0
  refine s_aload_n hZ.1 dX13_foretell_0 rfl ?_
  refine yg13_134 dX13_foretell_1 zw4254 ?_
  refine s_istore_n hZ.1 dX13_foretell_4 rfl (Nat.le_of_ble_eq_true rfl) ?_
  refine s_aload_n hZ.1 dX13_foretell_5 rfl ?_
  refine s_bipush dX13_foretell_6 (by decide +kernel) ?_
  refine yp13_134 hZ.1 dX13_foretell_8 zw4254 ?_
  refine s_aload_n hZ.1 dX13_foretell_11 rfl ?_
  refine s_bipush dX13_foretell_12 (by decide +kernel) ?_
  refine s_callV hZ.1 (Met_X13_clearSet hZ) (Nat.le_of_ble_eq_true rfl) vy_X13_clearSet zcl13 zw3613 zw322 (Or.inl zw3611) dX13_foretell_14 ?_
  refine s_aload_n hZ.1 dX13_foretell_17 rfl ?_
  refine s_iload_n hZ.1 dX13_foretell_18 rfl ?_
  refine s_iconst dX13_foretell_19 (by decide +kernel) ?_
  refine s_callV hZ.1 (Met_X13_ask hZ) (Nat.le_of_ble_eq_true rfl) vy_X13_ask zcl13 zw3724 zw337 (Or.inl zw3722) dX13_foretell_20 ?_
  refine s_istore_n hZ.1 dX13_foretell_23 rfl (Nat.le_of_ble_eq_true rfl) ?_
  refine s_aload_n hZ.1 dX13_foretell_24 rfl ?_
  refine s_iload_n hZ.1 dX13_foretell_25 rfl ?_
  refine yp13_134 hZ.1 dX13_foretell_26 zw4254 ?_
  refine s_iload_n hZ.1 dX13_foretell_29 rfl ?_
  exact s_iret hZ.1 rfl dX13_foretell_30
noncomputable def FX13_foretell : List Nat → rx_H → Option (Nat × rx_H) := rx_ent 4 vX13_foretell_0
theorem Met_X13_foretell (hZ : zO b e D A X) : rx_Met (zV b e D A X) 172 yX13_foretell mX13_foretell (FX13_foretell) := rx_entry hZ.1 (wX13_foretell_0 hZ) (by decide +kernel) rfl (fun h => by cases h)
abbrev mX13_meet : rx_M := (RX13, cX13_meet, 7, (some .int), false)
theorem vy_X13_meet : rx_Y (zV b e D A X) yX13_meet mX13_meet 3 := ⟨zw3713, zw431, by decide, by decide +kernel, by decide +kernel, by decide +kernel⟩
noncomputable def vX13_meet_91 (j : Nat → rx_K) : rx_K := o_ld rx_isI 5 (o_ret1 rx_isI)
set_option maxRecDepth 20000 in
theorem wX13_meet_91 (hZ : zO b e D A X) (j : Nat → rx_K) (hj : ∀ k pc, [57][k]? = some pc → rx_OK (zV b e D A X) mX13_meet 173 pc (j k)) : rx_OK (zV b e D A X) mX13_meet 173 91 (vX13_meet_91 j) := by
  unfold vX13_meet_91
  refine s_iload hZ.1 dX13_meet_91 ?_
  exact s_iret hZ.1 rfl dX13_meet_93
noncomputable def vX13_meet_66 (j : Nat → rx_K) : rx_K := o_ld rx_isR 0 (o_getf 13 138 (o_ld rx_isI 6 (o_ld rx_isR 0 (o_getf 13 131 (o_ld rx_isR 0 (o_getf 13 141 (o_ld rx_isI 6 (o_ald 0 (o_ald 0 (o_ast 0 (fun v => v) rx_isI (o_inc 6 (1) ((j 0)))))))))))))
set_option maxRecDepth 20000 in
theorem wX13_meet_66 (hZ : zO b e D A X) (j : Nat → rx_K) (hj : ∀ k pc, [57][k]? = some pc → rx_OK (zV b e D A X) mX13_meet 173 pc (j k)) : rx_OK (zV b e D A X) mX13_meet 173 66 (vX13_meet_66 j) := by
  unfold vX13_meet_66
  refine s_aload_n hZ.1 dX13_meet_66 rfl ?_
  refine yg13_138 dX13_meet_67 zw4258 ?_
  refine s_iload hZ.1 dX13_meet_70 ?_
  refine s_aload_n hZ.1 dX13_meet_72 rfl ?_
  refine yg13_131 dX13_meet_73 zw4251 ?_
  refine s_aload_n hZ.1 dX13_meet_76 rfl ?_
  refine yg13_141 dX13_meet_77 zw4261 ?_
  refine s_iload hZ.1 dX13_meet_80 ?_
  refine s_iald (tt := 0) rfl dX13_meet_82 ?_
  refine s_iald (tt := 0) rfl dX13_meet_83 ?_
  refine s_iast hZ.1 (tt := 0) rfl dX13_meet_84 ?_
  refine s_iinc hZ.1 dX13_meet_85 (Nat.le_of_ble_eq_true rfl) ?_
  exact s_goto dX13_meet_88 (by decide) (hj 0 57 rfl)
noncomputable def vX13_meet_57 (j : Nat → rx_K) : rx_K := o_ld rx_isI 6 (o_ld rx_isR 0 (o_getf 13 139 (o_c2 rx_lt (vX13_meet_66 j) (vX13_meet_91 j))))
set_option maxRecDepth 20000 in
theorem wX13_meet_57 (hZ : zO b e D A X) (j : Nat → rx_K) (hj : ∀ k pc, [57][k]? = some pc → rx_OK (zV b e D A X) mX13_meet 173 pc (j k)) : rx_OK (zV b e D A X) mX13_meet 173 57 (vX13_meet_57 j) := by
  unfold vX13_meet_57
  refine s_iload hZ.1 dX13_meet_57 ?_
  refine s_aload_n hZ.1 dX13_meet_59 rfl ?_
  refine yg13_139 dX13_meet_60 zw4259 ?_
  exact s_icmp_ge dX13_meet_63 (by decide) (wX13_meet_91 hZ j hj) (wX13_meet_66 hZ j hj)
noncomputable def vX13_meet_30 (j : Nat → rx_K) : rx_K := o_ld rx_isR 0 (o_ld rx_isI 4 (o_callV 1 13 FX13_foretell (o_st rx_isI 5 (o_ld rx_isR 0 (o_ld rx_isR 0 (o_getf 13 140 (o_putf rx_isI 13 137 (o_ld rx_isR 0 (o_ld rx_isR 0 (o_getf 13 142 (o_putf rx_isI 13 139 (o_const 0 (o_st rx_isI 6 ((vX13_meet_57 j)))))))))))))))
set_option maxRecDepth 20000 in
theorem wX13_meet_30 (hZ : zO b e D A X) (j : Nat → rx_K) (hj : ∀ k pc, [57][k]? = some pc → rx_OK (zV b e D A X) mX13_meet 173 pc (j k)) : rx_OK (zV b e D A X) mX13_meet 173 30 (vX13_meet_30 j) := by
  unfold vX13_meet_30
  refine s_aload_n hZ.1 dX13_meet_30 rfl ?_
  refine s_iload hZ.1 dX13_meet_31 ?_
  refine s_callV hZ.1 (Met_X13_foretell hZ) (Nat.le_of_ble_eq_true rfl) vy_X13_foretell zcl13 zw3720 zw336 (Or.inl zw3718) dX13_meet_33 ?_
  refine s_istore hZ.1 dX13_meet_36 (Nat.le_of_ble_eq_true rfl) ?_
  refine s_aload_n hZ.1 dX13_meet_38 rfl ?_
  refine s_aload_n hZ.1 dX13_meet_39 rfl ?_
  refine yg13_140 dX13_meet_40 zw4260 ?_
  refine yp13_137 hZ.1 dX13_meet_43 zw4257 ?_
  refine s_aload_n hZ.1 dX13_meet_46 rfl ?_
  refine s_aload_n hZ.1 dX13_meet_47 rfl ?_
  refine yg13_142 dX13_meet_48 zw4262 ?_
  refine yp13_139 hZ.1 dX13_meet_51 zw4259 ?_
  refine s_iconst dX13_meet_54 (by decide +kernel) ?_
  refine s_istore hZ.1 dX13_meet_55 (Nat.le_of_ble_eq_true rfl) ?_
  exact (wX13_meet_57 hZ j hj)
noncomputable def vX13_meet_27 (j : Nat → rx_K) : rx_K := o_const 34359738352 (o_ret1 rx_isI)
set_option maxRecDepth 20000 in
theorem wX13_meet_27 (hZ : zO b e D A X) (j : Nat → rx_K) (hj : ∀ k pc, [57][k]? = some pc → rx_OK (zV b e D A X) mX13_meet 173 pc (j k)) : rx_OK (zV b e D A X) mX13_meet 173 27 (vX13_meet_27 j) := by
  unfold vX13_meet_27
  refine s_bipush dX13_meet_27 (by decide +kernel) ?_
  exact s_iret hZ.1 rfl dX13_meet_29
noncomputable def vX13_meet_18 (j : Nat → rx_K) : rx_K := o_ld rx_isR 0 (o_ld rx_isI 4 (o_callV 1 13 FX13_stands_ (o_c1 rx_eq (vX13_meet_27 j) (vX13_meet_30 j))))
set_option maxRecDepth 20000 in
theorem wX13_meet_18 (hZ : zO b e D A X) (j : Nat → rx_K) (hj : ∀ k pc, [57][k]? = some pc → rx_OK (zV b e D A X) mX13_meet 173 pc (j k)) : rx_OK (zV b e D A X) mX13_meet 173 18 (vX13_meet_18 j) := by
  unfold vX13_meet_18
  refine s_aload_n hZ.1 dX13_meet_18 rfl ?_
  refine s_iload hZ.1 dX13_meet_19 ?_
  refine s_callV hZ.1 (Met_X13_stands_ hZ) (Nat.le_of_ble_eq_true rfl) vy_X13_stands_ zcl13 zw3716 zw335 (Or.inl zw3714) dX13_meet_21 ?_
  exact s_if_ne dX13_meet_24 (by decide) (wX13_meet_30 hZ j hj) (wX13_meet_27 hZ j hj)
noncomputable def vX13_meet_16 (j : Nat → rx_K) : rx_K := o_const 34359738360 (o_ret1 rx_isI)
set_option maxRecDepth 20000 in
theorem wX13_meet_16 (hZ : zO b e D A X) (j : Nat → rx_K) (hj : ∀ k pc, [57][k]? = some pc → rx_OK (zV b e D A X) mX13_meet 173 pc (j k)) : rx_OK (zV b e D A X) mX13_meet 173 16 (vX13_meet_16 j) := by
  unfold vX13_meet_16
  refine s_iconst dX13_meet_16 (by decide +kernel) ?_
  exact s_iret hZ.1 rfl dX13_meet_17
noncomputable def vX13_meet_0 (j : Nat → rx_K) : rx_K := o_ld rx_isR 0 (o_ld rx_isI 1 (o_ld rx_isI 2 (o_ld rx_isI 3 (o_callV 3 13 FX13_useAt (o_st rx_isI 4 (o_ld rx_isI 4 (o_const 34359738352 (o_c2 rx_eq (vX13_meet_16 j) (vX13_meet_18 j)))))))))
set_option maxRecDepth 20000 in
theorem wX13_meet_0 (hZ : zO b e D A X) (j : Nat → rx_K) (hj : ∀ k pc, [57][k]? = some pc → rx_OK (zV b e D A X) mX13_meet 173 pc (j k)) : rx_OK (zV b e D A X) mX13_meet 173 0 (vX13_meet_0 j) := by
  unfold vX13_meet_0
  refine s_aload_n hZ.1 dX13_meet_0 rfl ?_
  refine s_iload_n hZ.1 dX13_meet_1 rfl ?_
  refine s_iload_n hZ.1 dX13_meet_2 rfl ?_
  refine s_iload_n hZ.1 dX13_meet_3 rfl ?_
  refine s_callV hZ.1 (Met_X13_useAt hZ) (Nat.le_of_ble_eq_true rfl) vy_X13_useAt zcl13 zw3700 zw333 (Or.inl zw3698) dX13_meet_4 ?_
  refine s_istore hZ.1 dX13_meet_7 (Nat.le_of_ble_eq_true rfl) ?_
  refine s_iload hZ.1 dX13_meet_9 ?_
  refine s_bipush dX13_meet_11 (by decide +kernel) ?_
  exact s_icmp_ne dX13_meet_13 (by decide) (wX13_meet_18 hZ j hj) (wX13_meet_16 hZ j hj)
noncomputable def vhX13_meet (j : Nat → rx_K) : List rx_K := [vX13_meet_57 j]
theorem vlX13_meet (hZ : zO b e D A X) : ∀ n k pc, [57][k]? = some pc → rx_OK (zV b e D A X) mX13_meet 173 pc (rx_J (vhX13_meet) n k) := rx_loop fun j hj k pc h => by
  match k, h with
  | 0, h =>
    have e9 := Option.some.inj (show some 57 = some pc from h)
    subst e9
    exact wX13_meet_57 hZ j hj
  | _ + 1, h => exact absurd h (by simp)
noncomputable def FX13_meet : List Nat → rx_H → Option (Nat × rx_H) := rx_ent 7 (vX13_meet_0 (rx_J (vhX13_meet) 4000000000))
theorem Met_X13_meet (hZ : zO b e D A X) : rx_Met (zV b e D A X) 173 yX13_meet mX13_meet (FX13_meet) := rx_entry hZ.1 (wX13_meet_0 hZ _ (vlX13_meet hZ 4000000000)) (by decide +kernel) rfl (fun h => by cases h)
abbrev mX13_met : rx_M := (RX13, cX13_met, 2, (some .int), false)
theorem vy_X13_met : rx_Y (zV b e D A X) yX13_met mX13_met 0 := ⟨zw3773, zw431, by decide, by decide +kernel, by decide +kernel, by decide +kernel⟩
noncomputable def vX13_met_125 : rx_K := o_ld rx_isR 0 (o_getf 13 3 (o_ret1 rx_isI))
set_option maxRecDepth 20000 in
theorem wX13_met_125 (hZ : zO b e D A X) : rx_OK (zV b e D A X) mX13_met 7 125 vX13_met_125 := by
  unfold vX13_met_125
  refine s_aload_n hZ.1 dX13_met_125 rfl ?_
  refine yg13_3 dX13_met_126 zw4124 ?_
  exact s_iret hZ.1 rfl dX13_met_129
noncomputable def vX13_met_115 : rx_K := o_ld rx_isR 0 (o_ld rx_isR 0 (o_getf 13 53 (o_ld rx_isI 1 (o_ald 1 (o_callV 1 13 FX13_outType (vX13_met_125))))))
set_option maxRecDepth 20000 in
theorem wX13_met_115 (hZ : zO b e D A X) : rx_OK (zV b e D A X) mX13_met 7 115 vX13_met_115 := by
  unfold vX13_met_115
  refine s_aload_n hZ.1 dX13_met_115 rfl ?_
  refine s_aload_n hZ.1 dX13_met_116 rfl ?_
  refine yg13_53 dX13_met_117 zw4174 ?_
  refine s_iload_n hZ.1 dX13_met_120 rfl ?_
  refine s_lald (tt := 1) rfl dX13_met_121 ?_
  refine s_callV hZ.1 (Met_X13_outType hZ) (Nat.le_of_ble_eq_true rfl) vy_X13_outType zcl13 zw3679 zw330 (Or.inl zw3677) dX13_met_122 ?_
  exact (wX13_met_125 hZ)
noncomputable def vX13_met_100 : rx_K := o_ld rx_isR 0 (o_ld rx_isI 1 (o_callV 1 13 FX13_outParams (o_ld rx_isR 0 (o_getf 13 42 (o_ld rx_isI 1 (o_ald 0 (o_const 8 (o_c2 rx_eq vX13_met_115 vX13_met_125))))))))
set_option maxRecDepth 20000 in
theorem wX13_met_100 (hZ : zO b e D A X) : rx_OK (zV b e D A X) mX13_met 7 100 vX13_met_100 := by
  unfold vX13_met_100
  refine s_aload_n hZ.1 dX13_met_100 rfl ?_
  refine s_iload_n hZ.1 dX13_met_101 rfl ?_
  refine s_callV hZ.1 (Met_X13_outParams hZ) (Nat.le_of_ble_eq_true rfl) vy_X13_outParams zcl13 zw3683 zw331 (Or.inl zw3681) dX13_met_102 ?_
  refine s_aload_n hZ.1 dX13_met_105 rfl ?_
  refine yg13_42 dX13_met_106 zw4163 ?_
  refine s_iload_n hZ.1 dX13_met_109 rfl ?_
  refine s_iald (tt := 0) rfl dX13_met_110 ?_
  refine s_iconst dX13_met_111 (by decide +kernel) ?_
  exact s_icmp_ne dX13_met_112 (by decide) (wX13_met_125 hZ) (wX13_met_115 hZ)
noncomputable def vX13_met_81 : rx_K := o_ld rx_isR 0 (o_const 464 (o_callV 1 13 FX13_outByte (o_ld rx_isR 0 (o_ld rx_isR 0 (o_getf 13 53 (o_ld rx_isI 1 (o_ald 1 (o_callV 1 13 FX13_outType (vX13_met_125)))))))))
set_option maxRecDepth 20000 in
theorem wX13_met_81 (hZ : zO b e D A X) : rx_OK (zV b e D A X) mX13_met 7 81 vX13_met_81 := by
  unfold vX13_met_81
  refine s_aload_n hZ.1 dX13_met_81 rfl ?_
  refine s_bipush dX13_met_82 (by decide +kernel) ?_
  refine s_callV hZ.1 (Met_X13_outByte hZ) (Nat.le_of_ble_eq_true rfl) vy_X13_outByte zcl13 zw3648 zw327 (Or.inl zw3646) dX13_met_84 ?_
  refine s_aload_n hZ.1 dX13_met_87 rfl ?_
  refine s_aload_n hZ.1 dX13_met_88 rfl ?_
  refine yg13_53 dX13_met_89 zw4174 ?_
  refine s_iload_n hZ.1 dX13_met_92 rfl ?_
  refine s_lald (tt := 1) rfl dX13_met_93 ?_
  refine s_callV hZ.1 (Met_X13_outType hZ) (Nat.le_of_ble_eq_true rfl) vy_X13_outType zcl13 zw3679 zw330 (Or.inl zw3677) dX13_met_94 ?_
  exact s_goto dX13_met_97 (by decide) (wX13_met_125 hZ)
noncomputable def vX13_met_59 : rx_K := o_callV 1 13 FX13_outWord (o_ld rx_isR 0 (o_ld rx_isR 0 (o_getf 13 51 (o_ld rx_isI 1 (o_ald 1 (o_callV 1 13 FX13_outName (o_ld rx_isR 0 (o_getf 13 42 (o_ld rx_isI 1 (o_ald 0 (o_c1 rx_eq vX13_met_81 vX13_met_100)))))))))))
set_option maxRecDepth 20000 in
theorem wX13_met_59 (hZ : zO b e D A X) : rx_OK (zV b e D A X) mX13_met 7 59 vX13_met_59 := by
  unfold vX13_met_59
  refine s_callV hZ.1 (Met_X13_outWord hZ) (Nat.le_of_ble_eq_true rfl) vy_X13_outWord zcl13 zw3644 zw326 (Or.inl zw3642) dX13_met_59 ?_
  refine s_aload_n hZ.1 dX13_met_62 rfl ?_
  refine s_aload_n hZ.1 dX13_met_63 rfl ?_
  refine yg13_51 dX13_met_64 zw4172 ?_
  refine s_iload_n hZ.1 dX13_met_67 rfl ?_
  refine s_lald (tt := 1) rfl dX13_met_68 ?_
  refine s_callV hZ.1 (Met_X13_outName hZ) (Nat.le_of_ble_eq_true rfl) vy_X13_outName zcl13 zw3656 zw328 (Or.inl zw3654) dX13_met_69 ?_
  refine s_aload_n hZ.1 dX13_met_72 rfl ?_
  refine yg13_42 dX13_met_73 zw4163 ?_
  refine s_iload_n hZ.1 dX13_met_76 rfl ?_
  refine s_iald (tt := 0) rfl dX13_met_77 ?_
  exact s_if_ne dX13_met_78 (by decide) (wX13_met_100 hZ) (wX13_met_81 hZ)
noncomputable def vX13_met_56 : rx_K := o_const 1172 (vX13_met_59)
set_option maxRecDepth 20000 in
theorem wX13_met_56 (hZ : zO b e D A X) : rx_OK (zV b e D A X) mX13_met 7 56 vX13_met_56 := by
  unfold vX13_met_56
  refine s_ldcwS (k := 146) (zo_R146 hZ) dX13_met_56 ?_
  exact (wX13_met_59 hZ)
noncomputable def vX13_met_50 : rx_K := o_const 740 (vX13_met_59)
set_option maxRecDepth 20000 in
theorem wX13_met_50 (hZ : zO b e D A X) : rx_OK (zV b e D A X) mX13_met 7 50 vX13_met_50 := by
  unfold vX13_met_50
  refine s_ldcwS (k := 92) (zo_R92 hZ) dX13_met_50 ?_
  exact s_goto dX13_met_53 (by decide) (wX13_met_59 hZ)
noncomputable def vX13_met_14 : rx_K := o_ld rx_isR 0 (o_getf 13 137 (o_st rx_isI 1 (o_ld rx_isR 0 (o_ld rx_isR 0 (o_getf 13 24 (o_ld rx_isR 0 (o_ld rx_isI 1 (o_callV 1 13 FX13_classOfMember (o_ald 1 (o_callV 1 13 FX13_outName (o_ld rx_isR 0 (o_const 368 (o_callV 1 13 FX13_outByte (o_ld rx_isR 0 (o_ld rx_isR 0 (o_getf 13 42 (o_ld rx_isI 1 (o_ald 0 (o_const 16 (o_c2 rx_eq vX13_met_50 vX13_met_56))))))))))))))))))))
set_option maxRecDepth 20000 in
theorem wX13_met_14 (hZ : zO b e D A X) : rx_OK (zV b e D A X) mX13_met 7 14 vX13_met_14 := by
  unfold vX13_met_14
  refine s_aload_n hZ.1 dX13_met_14 rfl ?_
  refine yg13_137 dX13_met_15 zw4257 ?_
  refine s_istore_n hZ.1 dX13_met_18 rfl (Nat.le_of_ble_eq_true rfl) ?_
  refine s_aload_n hZ.1 dX13_met_19 rfl ?_
  refine s_aload_n hZ.1 dX13_met_20 rfl ?_
  refine yg13_24 dX13_met_21 zw4145 ?_
  refine s_aload_n hZ.1 dX13_met_24 rfl ?_
  refine s_iload_n hZ.1 dX13_met_25 rfl ?_
  refine s_callV hZ.1 (Met_X13_classOfMember hZ) (Nat.le_of_ble_eq_true rfl) vy_X13_classOfMember zcl13 zw3255 zw241 (Or.inl zw3253) dX13_met_26 ?_
  refine s_lald (tt := 1) rfl dX13_met_29 ?_
  refine s_callV hZ.1 (Met_X13_outName hZ) (Nat.le_of_ble_eq_true rfl) vy_X13_outName zcl13 zw3656 zw328 (Or.inl zw3654) dX13_met_30 ?_
  refine s_aload_n hZ.1 dX13_met_33 rfl ?_
  refine s_bipush dX13_met_34 (by decide +kernel) ?_
  refine s_callV hZ.1 (Met_X13_outByte hZ) (Nat.le_of_ble_eq_true rfl) vy_X13_outByte zcl13 zw3648 zw327 (Or.inl zw3646) dX13_met_36 ?_
  refine s_aload_n hZ.1 dX13_met_39 rfl ?_
  refine s_aload_n hZ.1 dX13_met_40 rfl ?_
  refine yg13_42 dX13_met_41 zw4163 ?_
  refine s_iload_n hZ.1 dX13_met_44 rfl ?_
  refine s_iald (tt := 0) rfl dX13_met_45 ?_
  refine s_iconst dX13_met_46 (by decide +kernel) ?_
  exact s_icmp_ne dX13_met_47 (by decide) (wX13_met_56 hZ) (wX13_met_50 hZ)
noncomputable def vX13_met_0 : rx_K := o_ld rx_isR 0 (o_const 0 (o_putf rx_isI 13 3 (o_ld rx_isR 0 (o_getf 13 137 (o_const 34359738352 (o_c2 rx_eq vX13_met_125 vX13_met_14))))))
set_option maxRecDepth 20000 in
theorem wX13_met_0 (hZ : zO b e D A X) : rx_OK (zV b e D A X) mX13_met 7 0 vX13_met_0 := by
  unfold vX13_met_0
  refine s_aload_n hZ.1 dX13_met_0 rfl ?_
  refine s_iconst dX13_met_1 (by decide +kernel) ?_
  refine yp13_3 hZ.1 dX13_met_2 zw4124 ?_
  refine s_aload_n hZ.1 dX13_met_5 rfl ?_
  refine yg13_137 dX13_met_6 zw4257 ?_
  refine s_bipush dX13_met_9 (by decide +kernel) ?_
  exact s_icmp_eq dX13_met_11 (by decide) (wX13_met_125 hZ) (wX13_met_14 hZ)
noncomputable def FX13_met : List Nat → rx_H → Option (Nat × rx_H) := rx_ent 2 vX13_met_0
theorem Met_X13_met (hZ : zO b e D A X) : rx_Met (zV b e D A X) 7 yX13_met mX13_met (FX13_met) := rx_entry hZ.1 (wX13_met_0 hZ) (by decide +kernel) rfl (fun h => by cases h)
abbrev mX13_looked : rx_M := (RX13, cX13_looked, 2, (some .int), false)
theorem vy_X13_looked : rx_Y (zV b e D A X) yX13_looked mX13_looked 1 := ⟨zw3777, zw431, by decide, by decide +kernel, by decide +kernel, by decide +kernel⟩
noncomputable def vX13_looked_22 : rx_K := o_ret1 rx_isI
set_option maxRecDepth 20000 in
theorem wX13_looked_22 (hZ : zO b e D A X) : rx_OK (zV b e D A X) mX13_looked 0 22 vX13_looked_22 := by
  unfold vX13_looked_22
  exact s_iret hZ.1 rfl dX13_looked_22
noncomputable def vX13_looked_16 : rx_K := o_ld rx_isR 0 (o_getf 13 138 (o_ld rx_isI 1 (o_ald 0 (vX13_looked_22))))
set_option maxRecDepth 20000 in
theorem wX13_looked_16 (hZ : zO b e D A X) : rx_OK (zV b e D A X) mX13_looked 0 16 vX13_looked_16 := by
  unfold vX13_looked_16
  refine s_aload_n hZ.1 dX13_looked_16 rfl ?_
  refine yg13_138 dX13_looked_17 zw4258 ?_
  refine s_iload_n hZ.1 dX13_looked_20 rfl ?_
  refine s_iald (tt := 0) rfl dX13_looked_21 ?_
  exact (wX13_looked_22 hZ)
noncomputable def vX13_looked_12 : rx_K := o_const 34359738360 (vX13_looked_22)
set_option maxRecDepth 20000 in
theorem wX13_looked_12 (hZ : zO b e D A X) : rx_OK (zV b e D A X) mX13_looked 0 12 vX13_looked_12 := by
  unfold vX13_looked_12
  refine s_iconst dX13_looked_12 (by decide +kernel) ?_
  exact s_goto dX13_looked_13 (by decide) (wX13_looked_22 hZ)
noncomputable def vX13_looked_4 : rx_K := o_ld rx_isI 1 (o_ld rx_isR 0 (o_getf 13 139 (o_c2 rx_lt vX13_looked_16 vX13_looked_12)))
set_option maxRecDepth 20000 in
theorem wX13_looked_4 (hZ : zO b e D A X) : rx_OK (zV b e D A X) mX13_looked 0 4 vX13_looked_4 := by
  unfold vX13_looked_4
  refine s_iload_n hZ.1 dX13_looked_4 rfl ?_
  refine s_aload_n hZ.1 dX13_looked_5 rfl ?_
  refine yg13_139 dX13_looked_6 zw4259 ?_
  exact s_icmp_lt dX13_looked_9 (by decide) (wX13_looked_16 hZ) (wX13_looked_12 hZ)
noncomputable def vX13_looked_0 : rx_K := o_ld rx_isI 1 (o_c1 rx_lt vX13_looked_12 vX13_looked_4)
set_option maxRecDepth 20000 in
theorem wX13_looked_0 (hZ : zO b e D A X) : rx_OK (zV b e D A X) mX13_looked 0 0 vX13_looked_0 := by
  unfold vX13_looked_0
  refine s_iload_n hZ.1 dX13_looked_0 rfl ?_
  exact s_if_lt dX13_looked_1 (by decide) (wX13_looked_12 hZ) (wX13_looked_4 hZ)
noncomputable def FX13_looked : List Nat → rx_H → Option (Nat × rx_H) := rx_ent 2 vX13_looked_0
theorem Met_X13_looked (hZ : zO b e D A X) : rx_Met (zV b e D A X) 0 yX13_looked mX13_looked (FX13_looked) := rx_entry hZ.1 (wX13_looked_0 hZ) (by decide +kernel) rfl (fun h => by cases h)
end ZM61

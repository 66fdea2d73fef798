section ZM39
variable {b : Nat} {e : Nat → Value} {D : va_G} {A : Nat → ClassId} {X : State → Prop}
abbrev mX13_wantWord : rx_M := (RX13, cX13_wantWord, 2, none, false)
theorem vy_X13_wantWord : rx_Y (zV b e D A X) yX13_wantWord mX13_wantWord 1 := ⟨zw3013, zw431, by decide, by decide +kernel, by decide +kernel, by decide +kernel⟩
noncomputable def vX13_wantWord_33 : rx_K := o_ret0
set_option maxRecDepth 20000 in
theorem wX13_wantWord_33 (hZ : zO b e D A X) : rx_OK (zV b e D A X) mX13_wantWord 6 33 vX13_wantWord_33 := by
  unfold vX13_wantWord_33
  exact s_vret rfl dX13_wantWord_33
noncomputable def vX13_wantWord_29 : rx_K := o_ld rx_isR 0 (o_callV 0 13 FX13_wrong (vX13_wantWord_33))
set_option maxRecDepth 20000 in
theorem wX13_wantWord_29 (hZ : zO b e D A X) : rx_OK (zV b e D A X) mX13_wantWord 6 29 vX13_wantWord_29 := by
  unfold vX13_wantWord_29
  refine s_aload_n hZ.1 dX13_wantWord_29 rfl ?_
  refine s_callV hZ.1 (Met_X13_wrong hZ) (Nat.le_of_ble_eq_true rfl) vy_X13_wrong zcl13 zw3016 zw192 (Or.inl zw3014) dX13_wantWord_30 ?_
  exact (wX13_wantWord_33 hZ)
noncomputable def vX13_wantWord_22 : rx_K := o_ld rx_isR 0 (o_getf 13 20 (o_c1 rx_eq vX13_wantWord_29 vX13_wantWord_33))
set_option maxRecDepth 20000 in
theorem wX13_wantWord_22 (hZ : zO b e D A X) : rx_OK (zV b e D A X) mX13_wantWord 6 22 vX13_wantWord_22 := by
  unfold vX13_wantWord_22
  refine s_aload_n hZ.1 dX13_wantWord_22 rfl ?_
  refine yg13_20 dX13_wantWord_23 zw4141 ?_
  exact s_if_ne dX13_wantWord_26 (by decide) (wX13_wantWord_33 hZ) (wX13_wantWord_29 hZ)
noncomputable def vX13_wantWord_15 : rx_K := o_ld rx_isR 0 (o_callV 0 13 FX13_step (vX13_wantWord_33))
set_option maxRecDepth 20000 in
theorem wX13_wantWord_15 (hZ : zO b e D A X) : rx_OK (zV b e D A X) mX13_wantWord 6 15 vX13_wantWord_15 := by
  unfold vX13_wantWord_15
  refine s_aload_n hZ.1 dX13_wantWord_15 rfl ?_
  refine s_callV hZ.1 (Met_X13_step hZ) (Nat.le_of_ble_eq_true rfl) vy_X13_step zcl13 zw2996 zw188 (Or.inl zw2994) dX13_wantWord_16 ?_
  exact s_goto dX13_wantWord_19 (by decide) (wX13_wantWord_33 hZ)
noncomputable def vX13_wantWord_7 : rx_K := o_ld rx_isR 0 (o_ld rx_isR 1 (o_callV 1 13 FX13_isWordAt (o_c1 rx_eq vX13_wantWord_22 vX13_wantWord_15)))
set_option maxRecDepth 20000 in
theorem wX13_wantWord_7 (hZ : zO b e D A X) : rx_OK (zV b e D A X) mX13_wantWord 6 7 vX13_wantWord_7 := by
  unfold vX13_wantWord_7
  refine s_aload_n hZ.1 dX13_wantWord_7 rfl ?_
  refine s_aload_n hZ.1 dX13_wantWord_8 rfl ?_
  refine s_callV hZ.1 (Met_X13_isWordAt hZ) (Nat.le_of_ble_eq_true rfl) vy_X13_isWordAt zcl13 zw2983 zw186 (Or.inl zw2981) dX13_wantWord_9 ?_
  exact s_if_eq dX13_wantWord_12 (by decide) (wX13_wantWord_22 hZ) (wX13_wantWord_15 hZ)
noncomputable def vX13_wantWord_0 : rx_K := o_ld rx_isR 0 (o_getf 13 20 (o_c1 rx_eq vX13_wantWord_7 vX13_wantWord_22))
set_option maxRecDepth 20000 in
theorem wX13_wantWord_0 (hZ : zO b e D A X) : rx_OK (zV b e D A X) mX13_wantWord 6 0 vX13_wantWord_0 := by
  unfold vX13_wantWord_0
  refine s_aload_n hZ.1 dX13_wantWord_0 rfl ?_
  refine yg13_20 dX13_wantWord_1 zw4141 ?_
  exact s_if_ne dX13_wantWord_4 (by decide) (wX13_wantWord_22 hZ) (wX13_wantWord_7 hZ)
noncomputable def FX13_wantWord : List Nat → rx_H → Option (Nat × rx_H) := rx_ent 2 vX13_wantWord_0
theorem Met_X13_wantWord (hZ : zO b e D A X) : rx_Met (zV b e D A X) 6 yX13_wantWord mX13_wantWord (FX13_wantWord) := rx_entry hZ.1 (wX13_wantWord_0 hZ) (by decide +kernel) rfl (fun h => by cases h)
abbrev mX13_takesWord : rx_M := (RX13, cX13_takesWord, 3, (some .boolean), false)
theorem vy_X13_takesWord : rx_Y (zV b e D A X) yX13_takesWord mX13_takesWord 1 := ⟨zw2980, zw431, by decide, by decide +kernel, by decide +kernel, by decide +kernel⟩
noncomputable def vX13_takesWord_29 : rx_K := o_ld rx_isI 2 (o_ret1 rx_isZ)
set_option maxRecDepth 20000 in
theorem wX13_takesWord_29 (hZ : zO b e D A X) : rx_OK (zV b e D A X) mX13_takesWord 6 29 vX13_takesWord_29 := by
  unfold vX13_takesWord_29
  refine s_iload_n hZ.1 dX13_takesWord_29 rfl ?_
  exact s_zret rx_z_ok rfl dX13_takesWord_30
noncomputable def vX13_takesWord_25 : rx_K := o_ld rx_isR 0 (o_callV 0 13 FX13_step (vX13_takesWord_29))
set_option maxRecDepth 20000 in
theorem wX13_takesWord_25 (hZ : zO b e D A X) : rx_OK (zV b e D A X) mX13_takesWord 6 25 vX13_takesWord_25 := by
  unfold vX13_takesWord_25
  refine s_aload_n hZ.1 dX13_takesWord_25 rfl ?_
  refine s_callV hZ.1 (Met_X13_step hZ) (Nat.le_of_ble_eq_true rfl) vy_X13_step zcl13 zw2996 zw188 (Or.inl zw2994) dX13_takesWord_26 ?_
  exact (wX13_takesWord_29 hZ)
noncomputable def vX13_takesWord_20 : rx_K := o_st rx_isI 2 (o_ld rx_isI 2 (o_c1 rx_eq vX13_takesWord_29 vX13_takesWord_25))
set_option maxRecDepth 20000 in
theorem wX13_takesWord_20 (hZ : zO b e D A X) : rx_OK (zV b e D A X) mX13_takesWord 6 20 vX13_takesWord_20 := by
  unfold vX13_takesWord_20
  refine s_istore_n hZ.1 dX13_takesWord_20 rfl (Nat.le_of_ble_eq_true rfl) ?_
  refine s_iload_n hZ.1 dX13_takesWord_21 rfl ?_
  exact s_if_eq dX13_takesWord_22 (by decide) (wX13_takesWord_29 hZ) (wX13_takesWord_25 hZ)
noncomputable def vX13_takesWord_19 : rx_K := o_const 0 (vX13_takesWord_20)
set_option maxRecDepth 20000 in
theorem wX13_takesWord_19 (hZ : zO b e D A X) : rx_OK (zV b e D A X) mX13_takesWord 6 19 vX13_takesWord_19 := by
  unfold vX13_takesWord_19
  refine s_iconst dX13_takesWord_19 (by decide +kernel) ?_
  exact (wX13_takesWord_20 hZ)
noncomputable def vX13_takesWord_15 : rx_K := o_const 8 (vX13_takesWord_20)
set_option maxRecDepth 20000 in
theorem wX13_takesWord_15 (hZ : zO b e D A X) : rx_OK (zV b e D A X) mX13_takesWord 6 15 vX13_takesWord_15 := by
  unfold vX13_takesWord_15
  refine s_iconst dX13_takesWord_15 (by decide +kernel) ?_
  exact s_goto dX13_takesWord_16 (by decide) (wX13_takesWord_20 hZ)
noncomputable def vX13_takesWord_7 : rx_K := o_ld rx_isR 0 (o_ld rx_isR 1 (o_callV 1 13 FX13_isWordAt (o_c1 rx_eq vX13_takesWord_19 vX13_takesWord_15)))
set_option maxRecDepth 20000 in
theorem wX13_takesWord_7 (hZ : zO b e D A X) : rx_OK (zV b e D A X) mX13_takesWord 6 7 vX13_takesWord_7 := by
  unfold vX13_takesWord_7
  refine s_aload_n hZ.1 dX13_takesWord_7 rfl ?_
  refine s_aload_n hZ.1 dX13_takesWord_8 rfl ?_
  refine s_callV hZ.1 (Met_X13_isWordAt hZ) (Nat.le_of_ble_eq_true rfl) vy_X13_isWordAt zcl13 zw2983 zw186 (Or.inl zw2981) dX13_takesWord_9 ?_
  exact s_if_eq dX13_takesWord_12 (by decide) (wX13_takesWord_19 hZ) (wX13_takesWord_15 hZ)
noncomputable def vX13_takesWord_0 : rx_K := o_ld rx_isR 0 (o_getf 13 20 (o_c1 rx_eq vX13_takesWord_7 vX13_takesWord_19))
set_option maxRecDepth 20000 in
theorem wX13_takesWord_0 (hZ : zO b e D A X) : rx_OK (zV b e D A X) mX13_takesWord 6 0 vX13_takesWord_0 := by
  unfold vX13_takesWord_0
  refine s_aload_n hZ.1 dX13_takesWord_0 rfl ?_
  refine yg13_20 dX13_takesWord_1 zw4141 ?_
  exact s_if_ne dX13_takesWord_4 (by decide) (wX13_takesWord_19 hZ) (wX13_takesWord_7 hZ)
noncomputable def FX13_takesWord : List Nat → rx_H → Option (Nat × rx_H) := rx_ent 3 vX13_takesWord_0
theorem Met_X13_takesWord (hZ : zO b e D A X) : rx_Met (zV b e D A X) 6 yX13_takesWord mX13_takesWord (FX13_takesWord) := rx_entry hZ.1 (wX13_takesWord_0 hZ) (by decide +kernel) rfl (fun h => by cases h)
abbrev mX13_want : rx_M := (RX13, cX13_want, 4, (some .int), false)
theorem vy_X13_want : rx_Y (zV b e D A X) yX13_want mX13_want 2 := ⟨zw3021, zw431, by decide, by decide +kernel, by decide +kernel, by decide +kernel⟩
noncomputable def vX13_want_59 : rx_K := o_ld rx_isI 3 (o_ret1 rx_isI)
set_option maxRecDepth 20000 in
theorem wX13_want_59 (hZ : zO b e D A X) : rx_OK (zV b e D A X) mX13_want 2 59 vX13_want_59 := by
  unfold vX13_want_59
  refine s_iload_n hZ.1 dX13_want_59 rfl ?_
  exact s_iret hZ.1 rfl dX13_want_60
noncomputable def vX13_want_55 : rx_K := o_ld rx_isR 0 (o_callV 0 13 FX13_step (vX13_want_59))
set_option maxRecDepth 20000 in
theorem wX13_want_55 (hZ : zO b e D A X) : rx_OK (zV b e D A X) mX13_want 2 55 vX13_want_55 := by
  unfold vX13_want_55
  refine s_aload_n hZ.1 dX13_want_55 rfl ?_
  refine s_callV hZ.1 (Met_X13_step hZ) (Nat.le_of_ble_eq_true rfl) vy_X13_step zcl13 zw2996 zw188 (Or.inl zw2994) dX13_want_56 ?_
  exact (wX13_want_59 hZ)
noncomputable def vX13_want_42 : rx_K := o_ld rx_isR 0 (o_const 24 (o_ld rx_isR 0 (o_ld rx_isR 0 (o_getf 13 22 (o_callV 1 13 FX13_placeAt (o_callV 2 13 FX13_fault (vX13_want_55)))))))
set_option maxRecDepth 20000 in
theorem wX13_want_42 (hZ : zO b e D A X) : rx_OK (zV b e D A X) mX13_want 2 42 vX13_want_42 := by
  unfold vX13_want_42
  refine s_aload_n hZ.1 dX13_want_42 rfl ?_
  refine s_iconst dX13_want_43 (by decide +kernel) ?_
  refine s_aload_n hZ.1 dX13_want_44 rfl ?_
  refine s_aload_n hZ.1 dX13_want_45 rfl ?_
  refine yg13_22 dX13_want_46 zw4143 ?_
  refine s_callV hZ.1 (Met_X13_placeAt hZ) (Nat.le_of_ble_eq_true rfl) vy_X13_placeAt zcl13 zw3000 zw189 (Or.inl zw2998) dX13_want_49 ?_
  refine s_callV hZ.1 (Met_X13_fault hZ) (Nat.le_of_ble_eq_true rfl) vy_X13_fault zcl13 zw3004 zw190 (Or.inl zw3002) dX13_want_52 ?_
  exact (wX13_want_55 hZ)
noncomputable def vX13_want_38 : rx_K := o_ld rx_isI 2 (o_c1 rx_eq vX13_want_55 vX13_want_42)
set_option maxRecDepth 20000 in
theorem wX13_want_38 (hZ : zO b e D A X) : rx_OK (zV b e D A X) mX13_want 2 38 vX13_want_38 := by
  unfold vX13_want_38
  refine s_iload_n hZ.1 dX13_want_38 rfl ?_
  exact s_if_eq dX13_want_39 (by decide) (wX13_want_55 hZ) (wX13_want_42 hZ)
noncomputable def vX13_want_31 : rx_K := o_ld rx_isR 0 (o_getf 13 20 (o_c1 rx_eq vX13_want_38 vX13_want_59))
set_option maxRecDepth 20000 in
theorem wX13_want_31 (hZ : zO b e D A X) : rx_OK (zV b e D A X) mX13_want 2 31 vX13_want_31 := by
  unfold vX13_want_31
  refine s_aload_n hZ.1 dX13_want_31 rfl ?_
  refine yg13_20 dX13_want_32 zw4141 ?_
  exact s_if_ne dX13_want_35 (by decide) (wX13_want_59 hZ) (wX13_want_38 hZ)
noncomputable def vX13_want_24 : rx_K := o_ld rx_isR 0 (o_callV 0 13 FX13_wrong (vX13_want_59))
set_option maxRecDepth 20000 in
theorem wX13_want_24 (hZ : zO b e D A X) : rx_OK (zV b e D A X) mX13_want 2 24 vX13_want_24 := by
  unfold vX13_want_24
  refine s_aload_n hZ.1 dX13_want_24 rfl ?_
  refine s_callV hZ.1 (Met_X13_wrong hZ) (Nat.le_of_ble_eq_true rfl) vy_X13_wrong zcl13 zw3016 zw192 (Or.inl zw3014) dX13_want_25 ?_
  exact s_goto dX13_want_28 (by decide) (wX13_want_59 hZ)
noncomputable def vX13_want_12 : rx_K := o_ld rx_isR 0 (o_ld rx_isR 0 (o_getf 13 22 (o_callV 1 13 FX13_kindAt (o_ld rx_isI 1 (o_c2 rx_eq vX13_want_31 vX13_want_24)))))
set_option maxRecDepth 20000 in
theorem wX13_want_12 (hZ : zO b e D A X) : rx_OK (zV b e D A X) mX13_want 2 12 vX13_want_12 := by
  unfold vX13_want_12
  refine s_aload_n hZ.1 dX13_want_12 rfl ?_
  refine s_aload_n hZ.1 dX13_want_13 rfl ?_
  refine yg13_22 dX13_want_14 zw4143 ?_
  refine s_callV hZ.1 (Met_X13_kindAt hZ) (Nat.le_of_ble_eq_true rfl) vy_X13_kindAt zcl13 zw2970 zw183 (Or.inl zw2968) dX13_want_17 ?_
  refine s_iload_n hZ.1 dX13_want_20 rfl ?_
  exact s_icmp_eq dX13_want_21 (by decide) (wX13_want_31 hZ) (wX13_want_24 hZ)
noncomputable def vX13_want_0 : rx_K := o_ld rx_isR 0 (o_getf 13 22 (o_st rx_isI 3 (o_ld rx_isR 0 (o_getf 13 20 (o_c1 rx_eq vX13_want_12 vX13_want_31)))))
set_option maxRecDepth 20000 in
theorem wX13_want_0 (hZ : zO b e D A X) : rx_OK (zV b e D A X) mX13_want 2 0 vX13_want_0 := by
  unfold vX13_want_0
  refine s_aload_n hZ.1 dX13_want_0 rfl ?_
  refine yg13_22 dX13_want_1 zw4143 ?_
  refine s_istore_n hZ.1 dX13_want_4 rfl (Nat.le_of_ble_eq_true rfl) ?_
  refine s_aload_n hZ.1 dX13_want_5 rfl ?_
  refine yg13_20 dX13_want_6 zw4141 ?_
  exact s_if_ne dX13_want_9 (by decide) (wX13_want_31 hZ) (wX13_want_12 hZ)
noncomputable def FX13_want : List Nat → rx_H → Option (Nat × rx_H) := rx_ent 4 vX13_want_0
theorem Met_X13_want (hZ : zO b e D A X) : rx_Met (zV b e D A X) 2 yX13_want mX13_want (FX13_want) := rx_entry hZ.1 (wX13_want_0 hZ) (by decide +kernel) rfl (fun h => by cases h)
abbrev mX13_node : rx_M := (RX13, cX13_node, 4, (some .int), false)
theorem vy_X13_node : rx_Y (zV b e D A X) yX13_node mX13_node 2 := ⟨zw3104, zw431, by decide, by decide +kernel, by decide +kernel, by decide +kernel⟩
noncomputable def vX13_node_143 : rx_K := o_getf 13 85 (o_ld rx_isI 3 (o_const 0 (o_ast 0 (fun v => v) rx_isI (o_ld rx_isR 0 (o_getf 13 87 (o_ld rx_isI 3 (o_const 34359738352 (o_ast 0 (fun v => v) rx_isI (o_ld rx_isR 0 (o_getf 13 88 (o_ld rx_isI 3 (o_const 34359738352 (o_ast 0 (fun v => v) rx_isI (o_ld rx_isI 3 (o_ret1 rx_isI)))))))))))))))
set_option maxRecDepth 20000 in
theorem wX13_node_143 (hZ : zO b e D A X) : rx_OK (zV b e D A X) mX13_node 0 143 vX13_node_143 := by
  unfold vX13_node_143
  refine yg13_85 dX13_node_143 zw4206 ?_
  refine s_iload_n hZ.1 dX13_node_146 rfl ?_
  refine s_iconst dX13_node_147 (by decide +kernel) ?_
  refine s_iast hZ.1 (tt := 0) rfl dX13_node_148 ?_
  refine s_aload_n hZ.1 dX13_node_149 rfl ?_
  refine yg13_87 dX13_node_150 zw4208 ?_
  refine s_iload_n hZ.1 dX13_node_153 rfl ?_
  refine s_bipush dX13_node_154 (by decide +kernel) ?_
  refine s_iast hZ.1 (tt := 0) rfl dX13_node_156 ?_
  refine s_aload_n hZ.1 dX13_node_157 rfl ?_
  refine yg13_88 dX13_node_158 zw4209 ?_
  refine s_iload_n hZ.1 dX13_node_161 rfl ?_
  refine s_bipush dX13_node_162 (by decide +kernel) ?_
  refine s_iast hZ.1 (tt := 0) rfl dX13_node_164 ?_
  refine s_iload_n hZ.1 dX13_node_165 rfl ?_
  exact s_iret hZ.1 rfl dX13_node_166
noncomputable def vX13_node_109 : rx_K := o_ld rx_isI 3 (o_const 34359738352 (o_ast 0 (fun v => v) rx_isI (o_ld rx_isR 0 (o_getf 13 81 (o_ld rx_isI 3 (o_const 0 (o_ast 0 (fun v => v) rx_isI (o_ld rx_isR 0 (o_getf 13 82 (o_ld rx_isI 3 (o_const 34359738352 (o_ast 0 (fun v => v) rx_isI (o_ld rx_isR 0 (o_getf 13 83 (o_ld rx_isI 3 (o_const 1 (o_ast 1 (fun v => v) rx_isL (o_ld rx_isR 0 (o_getf 13 84 (o_ld rx_isI 3 (o_const 1 (o_ast 1 (fun v => v) rx_isL (o_ld rx_isR 0 (vX13_node_143))))))))))))))))))))))))
set_option maxRecDepth 20000 in
theorem wX13_node_109 (hZ : zO b e D A X) : rx_OK (zV b e D A X) mX13_node 0 109 vX13_node_109 := by
  unfold vX13_node_109
  refine s_iload_n hZ.1 dX13_node_109 rfl ?_
  refine s_bipush dX13_node_110 (by decide +kernel) ?_
  refine s_iast hZ.1 (tt := 0) rfl dX13_node_112 ?_
  refine s_aload_n hZ.1 dX13_node_113 rfl ?_
  refine yg13_81 dX13_node_114 zw4202 ?_
  refine s_iload_n hZ.1 dX13_node_117 rfl ?_
  refine s_iconst dX13_node_118 (by decide +kernel) ?_
  refine s_iast hZ.1 (tt := 0) rfl dX13_node_119 ?_
  refine s_aload_n hZ.1 dX13_node_120 rfl ?_
  refine yg13_82 dX13_node_121 zw4203 ?_
  refine s_iload_n hZ.1 dX13_node_124 rfl ?_
  refine s_bipush dX13_node_125 (by decide +kernel) ?_
  refine s_iast hZ.1 (tt := 0) rfl dX13_node_127 ?_
  refine s_aload_n hZ.1 dX13_node_128 rfl ?_
  refine yg13_83 dX13_node_129 zw4204 ?_
  refine s_iload_n hZ.1 dX13_node_132 rfl ?_
  refine s_lconst dX13_node_133 (by decide +kernel) ?_
  refine s_last (tt := 1) rfl dX13_node_134 ?_
  refine s_aload_n hZ.1 dX13_node_135 rfl ?_
  refine yg13_84 dX13_node_136 zw4205 ?_
  refine s_iload_n hZ.1 dX13_node_139 rfl ?_
  refine s_lconst dX13_node_140 (by decide +kernel) ?_
  refine s_last (tt := 1) rfl dX13_node_141 ?_
  refine s_aload_n hZ.1 dX13_node_142 rfl ?_
  exact (wX13_node_143 hZ)
noncomputable def vX13_node_72 : rx_K := o_const 1 (o_ast 1 (fun v => v) rx_isL (o_ld rx_isR 0 (o_getf 13 76 (o_ld rx_isI 3 (o_const 1 (o_ast 1 (fun v => v) rx_isL (o_ld rx_isR 0 (o_getf 13 77 (o_ld rx_isI 3 (o_const 34359738352 (o_ast 0 (fun v => v) rx_isI (o_ld rx_isR 0 (o_getf 13 78 (o_ld rx_isI 3 (o_const 34359738352 (o_ast 0 (fun v => v) rx_isI (o_ld rx_isR 0 (o_getf 13 79 (o_ld rx_isI 3 (o_const 34359738352 (o_ast 0 (fun v => v) rx_isI (o_ld rx_isR 0 (o_getf 13 80 (vX13_node_109))))))))))))))))))))))))
set_option maxRecDepth 20000 in
theorem wX13_node_72 (hZ : zO b e D A X) : rx_OK (zV b e D A X) mX13_node 0 72 vX13_node_72 := by
  unfold vX13_node_72
  refine s_lconst dX13_node_72 (by decide +kernel) ?_
  refine s_last (tt := 1) rfl dX13_node_73 ?_
  refine s_aload_n hZ.1 dX13_node_74 rfl ?_
  refine yg13_76 dX13_node_75 zw4197 ?_
  refine s_iload_n hZ.1 dX13_node_78 rfl ?_
  refine s_lconst dX13_node_79 (by decide +kernel) ?_
  refine s_last (tt := 1) rfl dX13_node_80 ?_
  refine s_aload_n hZ.1 dX13_node_81 rfl ?_
  refine yg13_77 dX13_node_82 zw4198 ?_
  refine s_iload_n hZ.1 dX13_node_85 rfl ?_
  refine s_bipush dX13_node_86 (by decide +kernel) ?_
  refine s_iast hZ.1 (tt := 0) rfl dX13_node_88 ?_
  refine s_aload_n hZ.1 dX13_node_89 rfl ?_
  refine yg13_78 dX13_node_90 zw4199 ?_
  refine s_iload_n hZ.1 dX13_node_93 rfl ?_
  refine s_bipush dX13_node_94 (by decide +kernel) ?_
  refine s_iast hZ.1 (tt := 0) rfl dX13_node_96 ?_
  refine s_aload_n hZ.1 dX13_node_97 rfl ?_
  refine yg13_79 dX13_node_98 zw4200 ?_
  refine s_iload_n hZ.1 dX13_node_101 rfl ?_
  refine s_bipush dX13_node_102 (by decide +kernel) ?_
  refine s_iast hZ.1 (tt := 0) rfl dX13_node_104 ?_
  refine s_aload_n hZ.1 dX13_node_105 rfl ?_
  refine yg13_80 dX13_node_106 zw4201 ?_
  exact (wX13_node_109 hZ)
noncomputable def vX13_node_38 : rx_K := o_ast 0 (fun v => v) rx_isI (o_ld rx_isR 0 (o_getf 13 71 (o_ld rx_isI 3 (o_ld rx_isI 2 (o_ast 0 (fun v => v) rx_isI (o_ld rx_isR 0 (o_getf 13 72 (o_ld rx_isI 3 (o_ld rx_isI 2 (o_ast 0 (fun v => v) rx_isI (o_ld rx_isR 0 (o_getf 13 73 (o_ld rx_isI 3 (o_ld rx_isI 2 (o_ast 0 (fun v => v) rx_isI (o_ld rx_isR 0 (o_getf 13 74 (o_ld rx_isI 3 (o_const 1 (o_ast 1 (fun v => v) rx_isL (o_ld rx_isR 0 (o_getf 13 75 (o_ld rx_isI 3 (vX13_node_72))))))))))))))))))))))))
set_option maxRecDepth 20000 in
theorem wX13_node_38 (hZ : zO b e D A X) : rx_OK (zV b e D A X) mX13_node 0 38 vX13_node_38 := by
  unfold vX13_node_38
  refine s_iast hZ.1 (tt := 0) rfl dX13_node_38 ?_
  refine s_aload_n hZ.1 dX13_node_39 rfl ?_
  refine yg13_71 dX13_node_40 zw4192 ?_
  refine s_iload_n hZ.1 dX13_node_43 rfl ?_
  refine s_iload_n hZ.1 dX13_node_44 rfl ?_
  refine s_iast hZ.1 (tt := 0) rfl dX13_node_45 ?_
  refine s_aload_n hZ.1 dX13_node_46 rfl ?_
  refine yg13_72 dX13_node_47 zw4193 ?_
  refine s_iload_n hZ.1 dX13_node_50 rfl ?_
  refine s_iload_n hZ.1 dX13_node_51 rfl ?_
  refine s_iast hZ.1 (tt := 0) rfl dX13_node_52 ?_
  refine s_aload_n hZ.1 dX13_node_53 rfl ?_
  refine yg13_73 dX13_node_54 zw4194 ?_
  refine s_iload_n hZ.1 dX13_node_57 rfl ?_
  refine s_iload_n hZ.1 dX13_node_58 rfl ?_
  refine s_iast hZ.1 (tt := 0) rfl dX13_node_59 ?_
  refine s_aload_n hZ.1 dX13_node_60 rfl ?_
  refine yg13_74 dX13_node_61 zw4195 ?_
  refine s_iload_n hZ.1 dX13_node_64 rfl ?_
  refine s_lconst dX13_node_65 (by decide +kernel) ?_
  refine s_last (tt := 1) rfl dX13_node_66 ?_
  refine s_aload_n hZ.1 dX13_node_67 rfl ?_
  refine yg13_75 dX13_node_68 zw4196 ?_
  refine s_iload_n hZ.1 dX13_node_71 rfl ?_
  exact (wX13_node_72 hZ)
noncomputable def vX13_node_0 : rx_K := o_ld rx_isR 0 (o_getf 13 19 (o_const 13600 (o_bi (fun x y => x * y) (o_ld rx_isR 0 (o_getf 13 69 (o_ld rx_isR 0 (o_getf 13 19 (o_ald 0 (o_bi (fun x y => x + y) (o_st rx_isI 3 (o_ld rx_isR 0 (o_getf 13 69 (o_ld rx_isR 0 (o_getf 13 19 (o_dup2 (o_ald 0 (o_const 8 (o_bi (fun x y => x + y) (o_ast 0 (fun v => v) rx_isI (o_ld rx_isR 0 (o_getf 13 70 (o_ld rx_isI 3 (o_ld rx_isI 1 (vX13_node_38))))))))))))))))))))))))
set_option maxRecDepth 20000 in
theorem wX13_node_0 (hZ : zO b e D A X) : rx_OK (zV b e D A X) mX13_node 0 0 vX13_node_0 := by
  unfold vX13_node_0
  refine s_aload_n hZ.1 dX13_node_0 rfl ?_
  refine yg13_19 dX13_node_1 zw4140 ?_
  refine s_sipush dX13_node_4 (by decide +kernel) ?_
  refine s_imul dX13_node_7 ?_
  refine s_aload_n hZ.1 dX13_node_8 rfl ?_
  refine yg13_69 dX13_node_9 zw4190 ?_
  refine s_aload_n hZ.1 dX13_node_12 rfl ?_
  refine yg13_19 dX13_node_13 zw4140 ?_
  refine s_iald (tt := 0) rfl dX13_node_16 ?_
  refine s_iadd dX13_node_17 ?_
  refine s_istore_n hZ.1 dX13_node_18 rfl (Nat.le_of_ble_eq_true rfl) ?_
  refine s_aload_n hZ.1 dX13_node_19 rfl ?_
  refine yg13_69 dX13_node_20 zw4190 ?_
  refine s_aload_n hZ.1 dX13_node_23 rfl ?_
  refine yg13_19 dX13_node_24 zw4140 ?_
  refine s_dup2 hZ.1 dX13_node_27 ?_
  refine s_iald (tt := 0) rfl dX13_node_28 ?_
  refine s_iconst dX13_node_29 (by decide +kernel) ?_
  refine s_iadd dX13_node_30 ?_
  refine s_iast hZ.1 (tt := 0) rfl dX13_node_31 ?_
  refine s_aload_n hZ.1 dX13_node_32 rfl ?_
  refine yg13_70 dX13_node_33 zw4191 ?_
  refine s_iload_n hZ.1 dX13_node_36 rfl ?_
  refine s_iload_n hZ.1 dX13_node_37 rfl ?_
  exact (wX13_node_38 hZ)
noncomputable def FX13_node : List Nat → rx_H → Option (Nat × rx_H) := rx_ent 4 vX13_node_0
theorem Met_X13_node (hZ : zO b e D A X) : rx_Met (zV b e D A X) 0 yX13_node mX13_node (FX13_node) := rx_entry hZ.1 (wX13_node_0 hZ) (by decide +kernel) rfl (fun h => by cases h)
abbrev mX13_list : rx_M := (RX13, cX13_list, 8, (some .int), false)
theorem vy_X13_list : rx_Y (zV b e D A X) yX13_list mX13_list 4 := ⟨zw3027, zw431, by decide, by decide +kernel, by decide +kernel, by decide +kernel⟩
noncomputable def vX13_list_99 (j : Nat → rx_K) : rx_K := o_ld rx_isI 5 (o_ret1 rx_isI)
set_option maxRecDepth 20000 in
theorem wX13_list_99 (hZ : zO b e D A X) (j : Nat → rx_K) (hj : ∀ k pc, [6][k]? = some pc → rx_OK (zV b e D A X) mX13_list 3 pc (j k)) : rx_OK (zV b e D A X) mX13_list 3 99 (vX13_list_99 j) := by
  unfold vX13_list_99
  refine s_iload hZ.1 dX13_list_99 ?_
  exact s_iret hZ.1 rfl dX13_list_101
noncomputable def vX13_list_96 (j : Nat → rx_K) : rx_K := (j 0)
set_option maxRecDepth 20000 in
theorem wX13_list_96 (hZ : zO b e D A X) (j : Nat → rx_K) (hj : ∀ k pc, [6][k]? = some pc → rx_OK (zV b e D A X) mX13_list 3 pc (j k)) : rx_OK (zV b e D A X) mX13_list 3 96 (vX13_list_96 j) := by
  unfold vX13_list_96
  exact s_goto dX13_list_96 (by decide) (hj 0 6 rfl)
noncomputable def vX13_list_92 (j : Nat → rx_K) : rx_K := o_ld rx_isR 0 (o_callV 0 13 FX13_step ((vX13_list_96 j)))
set_option maxRecDepth 20000 in
theorem wX13_list_92 (hZ : zO b e D A X) (j : Nat → rx_K) (hj : ∀ k pc, [6][k]? = some pc → rx_OK (zV b e D A X) mX13_list 3 pc (j k)) : rx_OK (zV b e D A X) mX13_list 3 92 (vX13_list_92 j) := by
  unfold vX13_list_92
  refine s_aload_n hZ.1 dX13_list_92 rfl ?_
  refine s_callV hZ.1 (Met_X13_step hZ) (Nat.le_of_ble_eq_true rfl) vy_X13_step zcl13 zw2996 zw188 (Or.inl zw2994) dX13_list_93 ?_
  exact (wX13_list_96 hZ j hj)
noncomputable def vX13_list_85 (j : Nat → rx_K) : rx_K := o_st rx_isI 6 (o_ld rx_isI 6 (o_c1 rx_eq (vX13_list_96 j) (vX13_list_92 j)))
set_option maxRecDepth 20000 in
theorem wX13_list_85 (hZ : zO b e D A X) (j : Nat → rx_K) (hj : ∀ k pc, [6][k]? = some pc → rx_OK (zV b e D A X) mX13_list 3 pc (j k)) : rx_OK (zV b e D A X) mX13_list 3 85 (vX13_list_85 j) := by
  unfold vX13_list_85
  refine s_istore hZ.1 dX13_list_85 (Nat.le_of_ble_eq_true rfl) ?_
  refine s_iload hZ.1 dX13_list_87 ?_
  exact s_if_eq dX13_list_89 (by decide) (wX13_list_96 hZ j hj) (wX13_list_92 hZ j hj)
noncomputable def vX13_list_84 (j : Nat → rx_K) : rx_K := o_const 0 ((vX13_list_85 j))
set_option maxRecDepth 20000 in
theorem wX13_list_84 (hZ : zO b e D A X) (j : Nat → rx_K) (hj : ∀ k pc, [6][k]? = some pc → rx_OK (zV b e D A X) mX13_list 3 pc (j k)) : rx_OK (zV b e D A X) mX13_list 3 84 (vX13_list_84 j) := by
  unfold vX13_list_84
  refine s_iconst dX13_list_84 (by decide +kernel) ?_
  exact (wX13_list_85 hZ j hj)
noncomputable def vX13_list_80 (j : Nat → rx_K) : rx_K := o_const 8 ((vX13_list_85 j))
set_option maxRecDepth 20000 in
theorem wX13_list_80 (hZ : zO b e D A X) (j : Nat → rx_K) (hj : ∀ k pc, [6][k]? = some pc → rx_OK (zV b e D A X) mX13_list 3 pc (j k)) : rx_OK (zV b e D A X) mX13_list 3 80 (vX13_list_80 j) := by
  unfold vX13_list_80
  refine s_iconst dX13_list_80 (by decide +kernel) ?_
  exact s_goto dX13_list_81 (by decide) (wX13_list_85 hZ j hj)
noncomputable def vX13_list_71 (j : Nat → rx_K) : rx_K := o_ld rx_isR 0 (o_const 352 (o_callV 1 13 FX13_isSign (o_c1 rx_eq (vX13_list_84 j) (vX13_list_80 j))))
set_option maxRecDepth 20000 in
theorem wX13_list_71 (hZ : zO b e D A X) (j : Nat → rx_K) (hj : ∀ k pc, [6][k]? = some pc → rx_OK (zV b e D A X) mX13_list 3 pc (j k)) : rx_OK (zV b e D A X) mX13_list 3 71 (vX13_list_71 j) := by
  unfold vX13_list_71
  refine s_aload_n hZ.1 dX13_list_71 rfl ?_
  refine s_bipush dX13_list_72 (by decide +kernel) ?_
  refine s_callV hZ.1 (Met_X13_isSign hZ) (Nat.le_of_ble_eq_true rfl) vy_X13_isSign zcl13 zw3030 zw195 (Or.inl zw3028) dX13_list_74 ?_
  exact s_if_eq dX13_list_77 (by decide) (wX13_list_84 hZ j hj) (wX13_list_80 hZ j hj)
noncomputable def vX13_list_64 (j : Nat → rx_K) : rx_K := o_ld rx_isR 0 (o_getf 13 20 (o_c1 rx_eq (vX13_list_71 j) (vX13_list_84 j)))
set_option maxRecDepth 20000 in
theorem wX13_list_64 (hZ : zO b e D A X) (j : Nat → rx_K) (hj : ∀ k pc, [6][k]? = some pc → rx_OK (zV b e D A X) mX13_list 3 pc (j k)) : rx_OK (zV b e D A X) mX13_list 3 64 (vX13_list_64 j) := by
  unfold vX13_list_64
  refine s_aload_n hZ.1 dX13_list_64 rfl ?_
  refine yg13_20 dX13_list_65 zw4141 ?_
  exact s_if_ne dX13_list_68 (by decide) (wX13_list_84 hZ j hj) (wX13_list_71 hZ j hj)
noncomputable def vX13_list_37 (j : Nat → rx_K) : rx_K := o_ld rx_isR 1 (o_ld rx_isI 3 (o_ld rx_isI 5 (o_bi (fun x y => x + y) (o_ld rx_isR 0 (o_ld rx_isI 7 (o_callV 1 13 FX13_nameAt (o_ast 1 (fun v => v) rx_isL (o_ld rx_isR 2 (o_ld rx_isI 3 (o_ld rx_isI 5 (o_bi (fun x y => x + y) (o_ld rx_isR 0 (o_ld rx_isI 7 (o_callV 1 13 FX13_placeAt (o_ast 0 (fun v => v) rx_isI (o_inc 5 (1) ((vX13_list_64 j))))))))))))))))))
set_option maxRecDepth 20000 in
theorem wX13_list_37 (hZ : zO b e D A X) (j : Nat → rx_K) (hj : ∀ k pc, [6][k]? = some pc → rx_OK (zV b e D A X) mX13_list 3 pc (j k)) : rx_OK (zV b e D A X) mX13_list 3 37 (vX13_list_37 j) := by
  unfold vX13_list_37
  refine s_aload_n hZ.1 dX13_list_37 rfl ?_
  refine s_iload_n hZ.1 dX13_list_38 rfl ?_
  refine s_iload hZ.1 dX13_list_39 ?_
  refine s_iadd dX13_list_41 ?_
  refine s_aload_n hZ.1 dX13_list_42 rfl ?_
  refine s_iload hZ.1 dX13_list_43 ?_
  refine s_callV hZ.1 (Met_X13_nameAt hZ) (Nat.le_of_ble_eq_true rfl) vy_X13_nameAt zcl13 zw2987 zw187 (Or.inl zw2985) dX13_list_45 ?_
  refine s_last (tt := 1) rfl dX13_list_48 ?_
  refine s_aload_n hZ.1 dX13_list_49 rfl ?_
  refine s_iload_n hZ.1 dX13_list_50 rfl ?_
  refine s_iload hZ.1 dX13_list_51 ?_
  refine s_iadd dX13_list_53 ?_
  refine s_aload_n hZ.1 dX13_list_54 rfl ?_
  refine s_iload hZ.1 dX13_list_55 ?_
  refine s_callV hZ.1 (Met_X13_placeAt hZ) (Nat.le_of_ble_eq_true rfl) vy_X13_placeAt zcl13 zw3000 zw189 (Or.inl zw2998) dX13_list_57 ?_
  refine s_iast hZ.1 (tt := 0) rfl dX13_list_60 ?_
  refine s_iinc hZ.1 dX13_list_61 (Nat.le_of_ble_eq_true rfl) ?_
  exact (wX13_list_64 hZ j hj)
noncomputable def vX13_list_25 (j : Nat → rx_K) : rx_K := o_callV 2 13 FX13_want (o_st rx_isI 7 (o_ld rx_isR 0 (o_getf 13 20 (o_c1 rx_eq (vX13_list_37 j) (vX13_list_64 j)))))
set_option maxRecDepth 20000 in
theorem wX13_list_25 (hZ : zO b e D A X) (j : Nat → rx_K) (hj : ∀ k pc, [6][k]? = some pc → rx_OK (zV b e D A X) mX13_list 3 pc (j k)) : rx_OK (zV b e D A X) mX13_list 3 25 (vX13_list_25 j) := by
  unfold vX13_list_25
  refine s_callV hZ.1 (Met_X13_want hZ) (Nat.le_of_ble_eq_true rfl) vy_X13_want zcl13 zw3020 zw193 (Or.inl zw3018) dX13_list_25 ?_
  refine s_istore hZ.1 dX13_list_28 (Nat.le_of_ble_eq_true rfl) ?_
  refine s_aload_n hZ.1 dX13_list_30 rfl ?_
  refine yg13_20 dX13_list_31 zw4141 ?_
  exact s_if_ne dX13_list_34 (by decide) (wX13_list_64 hZ j hj) (wX13_list_37 hZ j hj)
noncomputable def vX13_list_24 (j : Nat → rx_K) : rx_K := o_const 0 ((vX13_list_25 j))
set_option maxRecDepth 20000 in
theorem wX13_list_24 (hZ : zO b e D A X) (j : Nat → rx_K) (hj : ∀ k pc, [6][k]? = some pc → rx_OK (zV b e D A X) mX13_list 3 pc (j k)) : rx_OK (zV b e D A X) mX13_list 3 24 (vX13_list_24 j) := by
  unfold vX13_list_24
  refine s_iconst dX13_list_24 (by decide +kernel) ?_
  exact (wX13_list_25 hZ j hj)
noncomputable def vX13_list_20 (j : Nat → rx_K) : rx_K := o_const 8 ((vX13_list_25 j))
set_option maxRecDepth 20000 in
theorem wX13_list_20 (hZ : zO b e D A X) (j : Nat → rx_K) (hj : ∀ k pc, [6][k]? = some pc → rx_OK (zV b e D A X) mX13_list 3 pc (j k)) : rx_OK (zV b e D A X) mX13_list 3 20 (vX13_list_20 j) := by
  unfold vX13_list_20
  refine s_iconst dX13_list_20 (by decide +kernel) ?_
  exact s_goto dX13_list_21 (by decide) (wX13_list_25 hZ j hj)
noncomputable def vX13_list_11 (j : Nat → rx_K) : rx_K := o_ld rx_isR 0 (o_const 8 (o_ld rx_isI 5 (o_ld rx_isI 4 (o_c2 rx_eq (vX13_list_20 j) (vX13_list_24 j)))))
set_option maxRecDepth 20000 in
theorem wX13_list_11 (hZ : zO b e D A X) (j : Nat → rx_K) (hj : ∀ k pc, [6][k]? = some pc → rx_OK (zV b e D A X) mX13_list 3 pc (j k)) : rx_OK (zV b e D A X) mX13_list 3 11 (vX13_list_11 j) := by
  unfold vX13_list_11
  refine s_aload_n hZ.1 dX13_list_11 rfl ?_
  refine s_iconst dX13_list_12 (by decide +kernel) ?_
  refine s_iload hZ.1 dX13_list_13 ?_
  refine s_iload hZ.1 dX13_list_15 ?_
  exact s_icmp_ne dX13_list_17 (by decide) (wX13_list_24 hZ j hj) (wX13_list_20 hZ j hj)
noncomputable def vX13_list_6 (j : Nat → rx_K) : rx_K := o_ld rx_isI 6 (o_c1 rx_eq (vX13_list_99 j) (vX13_list_11 j))
set_option maxRecDepth 20000 in
theorem wX13_list_6 (hZ : zO b e D A X) (j : Nat → rx_K) (hj : ∀ k pc, [6][k]? = some pc → rx_OK (zV b e D A X) mX13_list 3 pc (j k)) : rx_OK (zV b e D A X) mX13_list 3 6 (vX13_list_6 j) := by
  unfold vX13_list_6
  refine s_iload hZ.1 dX13_list_6 ?_
  exact s_if_eq dX13_list_8 (by decide) (wX13_list_99 hZ j hj) (wX13_list_11 hZ j hj)
noncomputable def vX13_list_0 (j : Nat → rx_K) : rx_K := o_const 0 (o_st rx_isI 5 (o_const 8 (o_st rx_isI 6 ((vX13_list_6 j)))))
set_option maxRecDepth 20000 in
theorem wX13_list_0 (hZ : zO b e D A X) (j : Nat → rx_K) (hj : ∀ k pc, [6][k]? = some pc → rx_OK (zV b e D A X) mX13_list 3 pc (j k)) : rx_OK (zV b e D A X) mX13_list 3 0 (vX13_list_0 j) := by
  unfold vX13_list_0
  refine s_iconst dX13_list_0 (by decide +kernel) ?_
  refine s_istore hZ.1 dX13_list_1 (Nat.le_of_ble_eq_true rfl) ?_
  refine s_iconst dX13_list_3 (by decide +kernel) ?_
  refine s_istore hZ.1 dX13_list_4 (Nat.le_of_ble_eq_true rfl) ?_
  exact (wX13_list_6 hZ j hj)
noncomputable def vhX13_list (j : Nat → rx_K) : List rx_K := [vX13_list_6 j]
theorem vlX13_list (hZ : zO b e D A X) : ∀ n k pc, [6][k]? = some pc → rx_OK (zV b e D A X) mX13_list 3 pc (rx_J (vhX13_list) n k) := rx_loop fun j hj k pc h => by
  match k, h with
  | 0, h =>
    have e9 := Option.some.inj (show some 6 = some pc from h)
    subst e9
    exact wX13_list_6 hZ j hj
  | _ + 1, h => exact absurd h (by simp)
noncomputable def FX13_list : List Nat → rx_H → Option (Nat × rx_H) := rx_ent 8 (vX13_list_0 (rx_J (vhX13_list) 4000000000))
theorem Met_X13_list (hZ : zO b e D A X) : rx_Met (zV b e D A X) 3 yX13_list mX13_list (FX13_list) := rx_entry hZ.1 (wX13_list_0 hZ _ (vlX13_list hZ 4000000000)) (by decide +kernel) rfl (fun h => by cases h)
abbrev mX13_beginsMember : rx_M := (RX13, cX13_beginsMember, 1, (some .boolean), false)
theorem vy_X13_beginsMember : rx_Y (zV b e D A X) yX13_beginsMember mX13_beginsMember 0 := ⟨zw3046, zw431, by decide, by decide +kernel, by decide +kernel, by decide +kernel⟩
noncomputable def vX13_beginsMember_112 : rx_K := o_ret1 rx_isZ
set_option maxRecDepth 20000 in
theorem wX13_beginsMember_112 (hZ : zO b e D A X) : rx_OK (zV b e D A X) mX13_beginsMember 6 112 vX13_beginsMember_112 := by
  unfold vX13_beginsMember_112
  exact s_zret rx_z_ok rfl dX13_beginsMember_112
noncomputable def vX13_beginsMember_111 : rx_K := o_const 0 (vX13_beginsMember_112)
set_option maxRecDepth 20000 in
theorem wX13_beginsMember_111 (hZ : zO b e D A X) : rx_OK (zV b e D A X) mX13_beginsMember 6 111 vX13_beginsMember_111 := by
  unfold vX13_beginsMember_111
  refine s_iconst dX13_beginsMember_111 (by decide +kernel) ?_
  exact (wX13_beginsMember_112 hZ)
noncomputable def vX13_beginsMember_107 : rx_K := o_const 8 (vX13_beginsMember_112)
set_option maxRecDepth 20000 in
theorem wX13_beginsMember_107 (hZ : zO b e D A X) : rx_OK (zV b e D A X) mX13_beginsMember 6 107 vX13_beginsMember_107 := by
  unfold vX13_beginsMember_107
  refine s_iconst dX13_beginsMember_107 (by decide +kernel) ?_
  exact s_goto dX13_beginsMember_108 (by decide) (wX13_beginsMember_112 hZ)
noncomputable def vX13_beginsMember_97 : rx_K := o_ld rx_isR 0 (o_const 756 (o_callV 1 13 FX13_isWordAt (o_c1 rx_eq vX13_beginsMember_111 vX13_beginsMember_107)))
set_option maxRecDepth 20000 in
theorem wX13_beginsMember_97 (hZ : zO b e D A X) : rx_OK (zV b e D A X) mX13_beginsMember 6 97 vX13_beginsMember_97 := by
  unfold vX13_beginsMember_97
  refine s_aload_n hZ.1 dX13_beginsMember_97 rfl ?_
  refine s_ldcwS (k := 94) (zo_R94 hZ) dX13_beginsMember_98 ?_
  refine s_callV hZ.1 (Met_X13_isWordAt hZ) (Nat.le_of_ble_eq_true rfl) vy_X13_isWordAt zcl13 zw2983 zw186 (Or.inl zw2981) dX13_beginsMember_101 ?_
  exact s_if_eq dX13_beginsMember_104 (by decide) (wX13_beginsMember_111 hZ) (wX13_beginsMember_107 hZ)
noncomputable def vX13_beginsMember_87 : rx_K := o_ld rx_isR 0 (o_const 740 (o_callV 1 13 FX13_isWordAt (o_c1 rx_eq vX13_beginsMember_97 vX13_beginsMember_107)))
set_option maxRecDepth 20000 in
theorem wX13_beginsMember_87 (hZ : zO b e D A X) : rx_OK (zV b e D A X) mX13_beginsMember 6 87 vX13_beginsMember_87 := by
  unfold vX13_beginsMember_87
  refine s_aload_n hZ.1 dX13_beginsMember_87 rfl ?_
  refine s_ldcwS (k := 92) (zo_R92 hZ) dX13_beginsMember_88 ?_
  refine s_callV hZ.1 (Met_X13_isWordAt hZ) (Nat.le_of_ble_eq_true rfl) vy_X13_isWordAt zcl13 zw2983 zw186 (Or.inl zw2981) dX13_beginsMember_91 ?_
  exact s_if_ne dX13_beginsMember_94 (by decide) (wX13_beginsMember_107 hZ) (wX13_beginsMember_97 hZ)
noncomputable def vX13_beginsMember_78 : rx_K := o_ld rx_isR 0 (o_const 500 (o_callV 1 13 FX13_isWordAt (o_c1 rx_eq vX13_beginsMember_87 vX13_beginsMember_107)))
set_option maxRecDepth 20000 in
theorem wX13_beginsMember_78 (hZ : zO b e D A X) : rx_OK (zV b e D A X) mX13_beginsMember 6 78 vX13_beginsMember_78 := by
  unfold vX13_beginsMember_78
  refine s_aload_n hZ.1 dX13_beginsMember_78 rfl ?_
  refine s_ldcS (k := 62) (zo_R62 hZ) dX13_beginsMember_79 ?_
  refine s_callV hZ.1 (Met_X13_isWordAt hZ) (Nat.le_of_ble_eq_true rfl) vy_X13_isWordAt zcl13 zw2983 zw186 (Or.inl zw2981) dX13_beginsMember_81 ?_
  exact s_if_ne dX13_beginsMember_84 (by decide) (wX13_beginsMember_107 hZ) (wX13_beginsMember_87 hZ)
noncomputable def vX13_beginsMember_69 : rx_K := o_ld rx_isR 0 (o_const 484 (o_callV 1 13 FX13_isWordAt (o_c1 rx_eq vX13_beginsMember_78 vX13_beginsMember_107)))
set_option maxRecDepth 20000 in
theorem wX13_beginsMember_69 (hZ : zO b e D A X) : rx_OK (zV b e D A X) mX13_beginsMember 6 69 vX13_beginsMember_69 := by
  unfold vX13_beginsMember_69
  refine s_aload_n hZ.1 dX13_beginsMember_69 rfl ?_
  refine s_ldcS (k := 60) (zo_R60 hZ) dX13_beginsMember_70 ?_
  refine s_callV hZ.1 (Met_X13_isWordAt hZ) (Nat.le_of_ble_eq_true rfl) vy_X13_isWordAt zcl13 zw2983 zw186 (Or.inl zw2981) dX13_beginsMember_72 ?_
  exact s_if_ne dX13_beginsMember_75 (by decide) (wX13_beginsMember_107 hZ) (wX13_beginsMember_78 hZ)
noncomputable def vX13_beginsMember_60 : rx_K := o_ld rx_isR 0 (o_const 676 (o_callV 1 13 FX13_isWordAt (o_c1 rx_eq vX13_beginsMember_69 vX13_beginsMember_107)))
set_option maxRecDepth 20000 in
theorem wX13_beginsMember_60 (hZ : zO b e D A X) : rx_OK (zV b e D A X) mX13_beginsMember 6 60 vX13_beginsMember_60 := by
  unfold vX13_beginsMember_60
  refine s_aload_n hZ.1 dX13_beginsMember_60 rfl ?_
  refine s_ldcS (k := 84) (zo_R84 hZ) dX13_beginsMember_61 ?_
  refine s_callV hZ.1 (Met_X13_isWordAt hZ) (Nat.le_of_ble_eq_true rfl) vy_X13_isWordAt zcl13 zw2983 zw186 (Or.inl zw2981) dX13_beginsMember_63 ?_
  exact s_if_ne dX13_beginsMember_66 (by decide) (wX13_beginsMember_107 hZ) (wX13_beginsMember_69 hZ)
noncomputable def vX13_beginsMember_51 : rx_K := o_ld rx_isR 0 (o_const 548 (o_callV 1 13 FX13_isWordAt (o_c1 rx_eq vX13_beginsMember_60 vX13_beginsMember_107)))
set_option maxRecDepth 20000 in
theorem wX13_beginsMember_51 (hZ : zO b e D A X) : rx_OK (zV b e D A X) mX13_beginsMember 6 51 vX13_beginsMember_51 := by
  unfold vX13_beginsMember_51
  refine s_aload_n hZ.1 dX13_beginsMember_51 rfl ?_
  refine s_ldcS (k := 68) (zo_R68 hZ) dX13_beginsMember_52 ?_
  refine s_callV hZ.1 (Met_X13_isWordAt hZ) (Nat.le_of_ble_eq_true rfl) vy_X13_isWordAt zcl13 zw2983 zw186 (Or.inl zw2981) dX13_beginsMember_54 ?_
  exact s_if_ne dX13_beginsMember_57 (by decide) (wX13_beginsMember_107 hZ) (wX13_beginsMember_60 hZ)
noncomputable def vX13_beginsMember_41 : rx_K := o_ld rx_isR 0 (o_const 724 (o_callV 1 13 FX13_isWordAt (o_c1 rx_eq vX13_beginsMember_51 vX13_beginsMember_107)))
set_option maxRecDepth 20000 in
theorem wX13_beginsMember_41 (hZ : zO b e D A X) : rx_OK (zV b e D A X) mX13_beginsMember 6 41 vX13_beginsMember_41 := by
  unfold vX13_beginsMember_41
  refine s_aload_n hZ.1 dX13_beginsMember_41 rfl ?_
  refine s_ldcwS (k := 90) (zo_R90 hZ) dX13_beginsMember_42 ?_
  refine s_callV hZ.1 (Met_X13_isWordAt hZ) (Nat.le_of_ble_eq_true rfl) vy_X13_isWordAt zcl13 zw2983 zw186 (Or.inl zw2981) dX13_beginsMember_45 ?_
  exact s_if_ne dX13_beginsMember_48 (by decide) (wX13_beginsMember_107 hZ) (wX13_beginsMember_51 hZ)
noncomputable def vX13_beginsMember_31 : rx_K := o_ld rx_isR 0 (o_const 708 (o_callV 1 13 FX13_isWordAt (o_c1 rx_eq vX13_beginsMember_41 vX13_beginsMember_107)))
set_option maxRecDepth 20000 in
theorem wX13_beginsMember_31 (hZ : zO b e D A X) : rx_OK (zV b e D A X) mX13_beginsMember 6 31 vX13_beginsMember_31 := by
  unfold vX13_beginsMember_31
  refine s_aload_n hZ.1 dX13_beginsMember_31 rfl ?_
  refine s_ldcwS (k := 88) (zo_R88 hZ) dX13_beginsMember_32 ?_
  refine s_callV hZ.1 (Met_X13_isWordAt hZ) (Nat.le_of_ble_eq_true rfl) vy_X13_isWordAt zcl13 zw2983 zw186 (Or.inl zw2981) dX13_beginsMember_35 ?_
  exact s_if_ne dX13_beginsMember_38 (by decide) (wX13_beginsMember_107 hZ) (wX13_beginsMember_41 hZ)
noncomputable def vX13_beginsMember_21 : rx_K := o_ld rx_isR 0 (o_const 692 (o_callV 1 13 FX13_isWordAt (o_c1 rx_eq vX13_beginsMember_31 vX13_beginsMember_107)))
set_option maxRecDepth 20000 in
theorem wX13_beginsMember_21 (hZ : zO b e D A X) : rx_OK (zV b e D A X) mX13_beginsMember 6 21 vX13_beginsMember_21 := by
  unfold vX13_beginsMember_21
  refine s_aload_n hZ.1 dX13_beginsMember_21 rfl ?_
  refine s_ldcwS (k := 86) (zo_R86 hZ) dX13_beginsMember_22 ?_
  refine s_callV hZ.1 (Met_X13_isWordAt hZ) (Nat.le_of_ble_eq_true rfl) vy_X13_isWordAt zcl13 zw2983 zw186 (Or.inl zw2981) dX13_beginsMember_25 ?_
  exact s_if_ne dX13_beginsMember_28 (by decide) (wX13_beginsMember_107 hZ) (wX13_beginsMember_31 hZ)
noncomputable def vX13_beginsMember_12 : rx_K := o_ld rx_isR 0 (o_const 532 (o_callV 1 13 FX13_isWordAt (o_c1 rx_eq vX13_beginsMember_21 vX13_beginsMember_107)))
set_option maxRecDepth 20000 in
theorem wX13_beginsMember_12 (hZ : zO b e D A X) : rx_OK (zV b e D A X) mX13_beginsMember 6 12 vX13_beginsMember_12 := by
  unfold vX13_beginsMember_12
  refine s_aload_n hZ.1 dX13_beginsMember_12 rfl ?_
  refine s_ldcS (k := 66) (zo_R66 hZ) dX13_beginsMember_13 ?_
  refine s_callV hZ.1 (Met_X13_isWordAt hZ) (Nat.le_of_ble_eq_true rfl) vy_X13_isWordAt zcl13 zw2983 zw186 (Or.inl zw2981) dX13_beginsMember_15 ?_
  exact s_if_ne dX13_beginsMember_18 (by decide) (wX13_beginsMember_107 hZ) (wX13_beginsMember_21 hZ)
noncomputable def vX13_beginsMember_0 : rx_K := o_ld rx_isR 0 (o_ld rx_isR 0 (o_getf 13 22 (o_callV 1 13 FX13_kindAt (o_const 8 (o_c2 rx_eq vX13_beginsMember_107 vX13_beginsMember_12)))))
set_option maxRecDepth 20000 in
theorem wX13_beginsMember_0 (hZ : zO b e D A X) : rx_OK (zV b e D A X) mX13_beginsMember 6 0 vX13_beginsMember_0 := by
  unfold vX13_beginsMember_0
  refine s_aload_n hZ.1 dX13_beginsMember_0 rfl ?_
  refine s_aload_n hZ.1 dX13_beginsMember_1 rfl ?_
  refine yg13_22 dX13_beginsMember_2 zw4143 ?_
  refine s_callV hZ.1 (Met_X13_kindAt hZ) (Nat.le_of_ble_eq_true rfl) vy_X13_kindAt zcl13 zw2970 zw183 (Or.inl zw2968) dX13_beginsMember_5 ?_
  refine s_iconst dX13_beginsMember_8 (by decide +kernel) ?_
  exact s_icmp_eq dX13_beginsMember_9 (by decide) (wX13_beginsMember_107 hZ) (wX13_beginsMember_12 hZ)
noncomputable def FX13_beginsMember : List Nat → rx_H → Option (Nat × rx_H) := rx_ent 1 vX13_beginsMember_0
theorem Met_X13_beginsMember (hZ : zO b e D A X) : rx_Met (zV b e D A X) 6 yX13_beginsMember mX13_beginsMember (FX13_beginsMember) := rx_entry hZ.1 (wX13_beginsMember_0 hZ) (by decide +kernel) rfl (fun h => by cases h)
abbrev mX13_beginsE : rx_M := (RX13, cX13_beginsE, 1, (some .boolean), false)
theorem vy_X13_beginsE : rx_Y (zV b e D A X) yX13_beginsE mX13_beginsE 0 := ⟨zw3082, zw431, by decide, by decide +kernel, by decide +kernel, by decide +kernel⟩
noncomputable def vX13_beginsE_90 : rx_K := o_ret1 rx_isZ
set_option maxRecDepth 20000 in
theorem wX13_beginsE_90 (hZ : zO b e D A X) : rx_OK (zV b e D A X) mX13_beginsE 6 90 vX13_beginsE_90 := by
  unfold vX13_beginsE_90
  exact s_zret rx_z_ok rfl dX13_beginsE_90
noncomputable def vX13_beginsE_89 : rx_K := o_const 0 (vX13_beginsE_90)
set_option maxRecDepth 20000 in
theorem wX13_beginsE_89 (hZ : zO b e D A X) : rx_OK (zV b e D A X) mX13_beginsE 6 89 vX13_beginsE_89 := by
  unfold vX13_beginsE_89
  refine s_iconst dX13_beginsE_89 (by decide +kernel) ?_
  exact (wX13_beginsE_90 hZ)
noncomputable def vX13_beginsE_85 : rx_K := o_const 8 (vX13_beginsE_90)
set_option maxRecDepth 20000 in
theorem wX13_beginsE_85 (hZ : zO b e D A X) : rx_OK (zV b e D A X) mX13_beginsE 6 85 vX13_beginsE_85 := by
  unfold vX13_beginsE_85
  refine s_iconst dX13_beginsE_85 (by decide +kernel) ?_
  exact s_goto dX13_beginsE_86 (by decide) (wX13_beginsE_90 hZ)
noncomputable def vX13_beginsE_75 : rx_K := o_ld rx_isR 0 (o_const 740 (o_callV 1 13 FX13_isWordAt (o_c1 rx_eq vX13_beginsE_89 vX13_beginsE_85)))
set_option maxRecDepth 20000 in
theorem wX13_beginsE_75 (hZ : zO b e D A X) : rx_OK (zV b e D A X) mX13_beginsE 6 75 vX13_beginsE_75 := by
  unfold vX13_beginsE_75
  refine s_aload_n hZ.1 dX13_beginsE_75 rfl ?_
  refine s_ldcwS (k := 92) (zo_R92 hZ) dX13_beginsE_76 ?_
  refine s_callV hZ.1 (Met_X13_isWordAt hZ) (Nat.le_of_ble_eq_true rfl) vy_X13_isWordAt zcl13 zw2983 zw186 (Or.inl zw2981) dX13_beginsE_79 ?_
  exact s_if_eq dX13_beginsE_82 (by decide) (wX13_beginsE_89 hZ) (wX13_beginsE_85 hZ)
noncomputable def vX13_beginsE_65 : rx_K := o_ld rx_isR 0 (o_const 804 (o_callV 1 13 FX13_isWordAt (o_c1 rx_eq vX13_beginsE_75 vX13_beginsE_85)))
set_option maxRecDepth 20000 in
theorem wX13_beginsE_65 (hZ : zO b e D A X) : rx_OK (zV b e D A X) mX13_beginsE 6 65 vX13_beginsE_65 := by
  unfold vX13_beginsE_65
  refine s_aload_n hZ.1 dX13_beginsE_65 rfl ?_
  refine s_ldcwS (k := 100) (zo_R100 hZ) dX13_beginsE_66 ?_
  refine s_callV hZ.1 (Met_X13_isWordAt hZ) (Nat.le_of_ble_eq_true rfl) vy_X13_isWordAt zcl13 zw2983 zw186 (Or.inl zw2981) dX13_beginsE_69 ?_
  exact s_if_ne dX13_beginsE_72 (by decide) (wX13_beginsE_85 hZ) (wX13_beginsE_75 hZ)
noncomputable def vX13_beginsE_55 : rx_K := o_ld rx_isR 0 (o_const 788 (o_callV 1 13 FX13_isWordAt (o_c1 rx_eq vX13_beginsE_65 vX13_beginsE_85)))
set_option maxRecDepth 20000 in
theorem wX13_beginsE_55 (hZ : zO b e D A X) : rx_OK (zV b e D A X) mX13_beginsE 6 55 vX13_beginsE_55 := by
  unfold vX13_beginsE_55
  refine s_aload_n hZ.1 dX13_beginsE_55 rfl ?_
  refine s_ldcwS (k := 98) (zo_R98 hZ) dX13_beginsE_56 ?_
  refine s_callV hZ.1 (Met_X13_isWordAt hZ) (Nat.le_of_ble_eq_true rfl) vy_X13_isWordAt zcl13 zw2983 zw186 (Or.inl zw2981) dX13_beginsE_59 ?_
  exact s_if_ne dX13_beginsE_62 (by decide) (wX13_beginsE_85 hZ) (wX13_beginsE_65 hZ)
noncomputable def vX13_beginsE_45 : rx_K := o_ld rx_isR 0 (o_const 772 (o_callV 1 13 FX13_isWordAt (o_c1 rx_eq vX13_beginsE_55 vX13_beginsE_85)))
set_option maxRecDepth 20000 in
theorem wX13_beginsE_45 (hZ : zO b e D A X) : rx_OK (zV b e D A X) mX13_beginsE 6 45 vX13_beginsE_45 := by
  unfold vX13_beginsE_45
  refine s_aload_n hZ.1 dX13_beginsE_45 rfl ?_
  refine s_ldcwS (k := 96) (zo_R96 hZ) dX13_beginsE_46 ?_
  refine s_callV hZ.1 (Met_X13_isWordAt hZ) (Nat.le_of_ble_eq_true rfl) vy_X13_isWordAt zcl13 zw2983 zw186 (Or.inl zw2981) dX13_beginsE_49 ?_
  exact s_if_ne dX13_beginsE_52 (by decide) (wX13_beginsE_85 hZ) (wX13_beginsE_55 hZ)
noncomputable def vX13_beginsE_36 : rx_K := o_ld rx_isR 0 (o_const 320 (o_callV 1 13 FX13_isSign (o_c1 rx_eq vX13_beginsE_45 vX13_beginsE_85)))
set_option maxRecDepth 20000 in
theorem wX13_beginsE_36 (hZ : zO b e D A X) : rx_OK (zV b e D A X) mX13_beginsE 6 36 vX13_beginsE_36 := by
  unfold vX13_beginsE_36
  refine s_aload_n hZ.1 dX13_beginsE_36 rfl ?_
  refine s_bipush dX13_beginsE_37 (by decide +kernel) ?_
  refine s_callV hZ.1 (Met_X13_isSign hZ) (Nat.le_of_ble_eq_true rfl) vy_X13_isSign zcl13 zw3030 zw195 (Or.inl zw3028) dX13_beginsE_39 ?_
  exact s_if_ne dX13_beginsE_42 (by decide) (wX13_beginsE_85 hZ) (wX13_beginsE_45 hZ)
noncomputable def vX13_beginsE_24 : rx_K := o_ld rx_isR 0 (o_ld rx_isR 0 (o_getf 13 22 (o_callV 1 13 FX13_kindAt (o_const 8 (o_c2 rx_eq vX13_beginsE_85 vX13_beginsE_36)))))
set_option maxRecDepth 20000 in
theorem wX13_beginsE_24 (hZ : zO b e D A X) : rx_OK (zV b e D A X) mX13_beginsE 6 24 vX13_beginsE_24 := by
  unfold vX13_beginsE_24
  refine s_aload_n hZ.1 dX13_beginsE_24 rfl ?_
  refine s_aload_n hZ.1 dX13_beginsE_25 rfl ?_
  refine yg13_22 dX13_beginsE_26 zw4143 ?_
  refine s_callV hZ.1 (Met_X13_kindAt hZ) (Nat.le_of_ble_eq_true rfl) vy_X13_kindAt zcl13 zw2970 zw183 (Or.inl zw2968) dX13_beginsE_29 ?_
  refine s_iconst dX13_beginsE_32 (by decide +kernel) ?_
  exact s_icmp_eq dX13_beginsE_33 (by decide) (wX13_beginsE_85 hZ) (wX13_beginsE_36 hZ)
noncomputable def vX13_beginsE_12 : rx_K := o_ld rx_isR 0 (o_ld rx_isR 0 (o_getf 13 22 (o_callV 1 13 FX13_kindAt (o_const 16 (o_c2 rx_eq vX13_beginsE_85 vX13_beginsE_24)))))
set_option maxRecDepth 20000 in
theorem wX13_beginsE_12 (hZ : zO b e D A X) : rx_OK (zV b e D A X) mX13_beginsE 6 12 vX13_beginsE_12 := by
  unfold vX13_beginsE_12
  refine s_aload_n hZ.1 dX13_beginsE_12 rfl ?_
  refine s_aload_n hZ.1 dX13_beginsE_13 rfl ?_
  refine yg13_22 dX13_beginsE_14 zw4143 ?_
  refine s_callV hZ.1 (Met_X13_kindAt hZ) (Nat.le_of_ble_eq_true rfl) vy_X13_kindAt zcl13 zw2970 zw183 (Or.inl zw2968) dX13_beginsE_17 ?_
  refine s_iconst dX13_beginsE_20 (by decide +kernel) ?_
  exact s_icmp_eq dX13_beginsE_21 (by decide) (wX13_beginsE_85 hZ) (wX13_beginsE_24 hZ)
noncomputable def vX13_beginsE_0 : rx_K := o_ld rx_isR 0 (o_ld rx_isR 0 (o_getf 13 22 (o_callV 1 13 FX13_kindAt (o_const 32 (o_c2 rx_eq vX13_beginsE_85 vX13_beginsE_12)))))
set_option maxRecDepth 20000 in
theorem wX13_beginsE_0 (hZ : zO b e D A X) : rx_OK (zV b e D A X) mX13_beginsE 6 0 vX13_beginsE_0 := by
  unfold vX13_beginsE_0
  refine s_aload_n hZ.1 dX13_beginsE_0 rfl ?_
  refine s_aload_n hZ.1 dX13_beginsE_1 rfl ?_
  refine yg13_22 dX13_beginsE_2 zw4143 ?_
  refine s_callV hZ.1 (Met_X13_kindAt hZ) (Nat.le_of_ble_eq_true rfl) vy_X13_kindAt zcl13 zw2970 zw183 (Or.inl zw2968) dX13_beginsE_5 ?_
  refine s_iconst dX13_beginsE_8 (by decide +kernel) ?_
  exact s_icmp_eq dX13_beginsE_9 (by decide) (wX13_beginsE_85 hZ) (wX13_beginsE_12 hZ)
noncomputable def FX13_beginsE : List Nat → rx_H → Option (Nat × rx_H) := rx_ent 1 vX13_beginsE_0
theorem Met_X13_beginsE (hZ : zO b e D A X) : rx_Met (zV b e D A X) 6 yX13_beginsE mX13_beginsE (FX13_beginsE) := rx_entry hZ.1 (wX13_beginsE_0 hZ) (by decide +kernel) rfl (fun h => by cases h)
abbrev mX13_beginsS : rx_M := (RX13, cX13_beginsS, 1, (some .boolean), false)
theorem vy_X13_beginsS : rx_Y (zV b e D A X) yX13_beginsS mX13_beginsS 0 := ⟨zw3078, zw431, by decide, by decide +kernel, by decide +kernel, by decide +kernel⟩
noncomputable def vX13_beginsS_91 : rx_K := o_ret1 rx_isZ
set_option maxRecDepth 20000 in
theorem wX13_beginsS_91 (hZ : zO b e D A X) : rx_OK (zV b e D A X) mX13_beginsS 7 91 vX13_beginsS_91 := by
  unfold vX13_beginsS_91
  exact s_zret rx_z_ok rfl dX13_beginsS_91
noncomputable def vX13_beginsS_90 : rx_K := o_const 0 (vX13_beginsS_91)
set_option maxRecDepth 20000 in
theorem wX13_beginsS_90 (hZ : zO b e D A X) : rx_OK (zV b e D A X) mX13_beginsS 7 90 vX13_beginsS_90 := by
  unfold vX13_beginsS_90
  refine s_iconst dX13_beginsS_90 (by decide +kernel) ?_
  exact (wX13_beginsS_91 hZ)
noncomputable def vX13_beginsS_86 : rx_K := o_const 8 (vX13_beginsS_91)
set_option maxRecDepth 20000 in
theorem wX13_beginsS_86 (hZ : zO b e D A X) : rx_OK (zV b e D A X) mX13_beginsS 7 86 vX13_beginsS_86 := by
  unfold vX13_beginsS_86
  refine s_iconst dX13_beginsS_86 (by decide +kernel) ?_
  exact s_goto dX13_beginsS_87 (by decide) (wX13_beginsS_91 hZ)
noncomputable def vX13_beginsS_76 : rx_K := o_ld rx_isR 0 (o_const 916 (o_callV 1 13 FX13_isWordAt (o_c1 rx_eq vX13_beginsS_90 vX13_beginsS_86)))
set_option maxRecDepth 20000 in
theorem wX13_beginsS_76 (hZ : zO b e D A X) : rx_OK (zV b e D A X) mX13_beginsS 7 76 vX13_beginsS_76 := by
  unfold vX13_beginsS_76
  refine s_aload_n hZ.1 dX13_beginsS_76 rfl ?_
  refine s_ldcwS (k := 114) (zo_R114 hZ) dX13_beginsS_77 ?_
  refine s_callV hZ.1 (Met_X13_isWordAt hZ) (Nat.le_of_ble_eq_true rfl) vy_X13_isWordAt zcl13 zw2983 zw186 (Or.inl zw2981) dX13_beginsS_80 ?_
  exact s_if_eq dX13_beginsS_83 (by decide) (wX13_beginsS_90 hZ) (wX13_beginsS_86 hZ)
noncomputable def vX13_beginsS_66 : rx_K := o_ld rx_isR 0 (o_const 900 (o_callV 1 13 FX13_isWordAt (o_c1 rx_eq vX13_beginsS_76 vX13_beginsS_86)))
set_option maxRecDepth 20000 in
theorem wX13_beginsS_66 (hZ : zO b e D A X) : rx_OK (zV b e D A X) mX13_beginsS 7 66 vX13_beginsS_66 := by
  unfold vX13_beginsS_66
  refine s_aload_n hZ.1 dX13_beginsS_66 rfl ?_
  refine s_ldcwS (k := 112) (zo_R112 hZ) dX13_beginsS_67 ?_
  refine s_callV hZ.1 (Met_X13_isWordAt hZ) (Nat.le_of_ble_eq_true rfl) vy_X13_isWordAt zcl13 zw2983 zw186 (Or.inl zw2981) dX13_beginsS_70 ?_
  exact s_if_ne dX13_beginsS_73 (by decide) (wX13_beginsS_86 hZ) (wX13_beginsS_76 hZ)
noncomputable def vX13_beginsS_56 : rx_K := o_ld rx_isR 0 (o_const 884 (o_callV 1 13 FX13_isWordAt (o_c1 rx_eq vX13_beginsS_66 vX13_beginsS_86)))
set_option maxRecDepth 20000 in
theorem wX13_beginsS_56 (hZ : zO b e D A X) : rx_OK (zV b e D A X) mX13_beginsS 7 56 vX13_beginsS_56 := by
  unfold vX13_beginsS_56
  refine s_aload_n hZ.1 dX13_beginsS_56 rfl ?_
  refine s_ldcwS (k := 110) (zo_R110 hZ) dX13_beginsS_57 ?_
  refine s_callV hZ.1 (Met_X13_isWordAt hZ) (Nat.le_of_ble_eq_true rfl) vy_X13_isWordAt zcl13 zw2983 zw186 (Or.inl zw2981) dX13_beginsS_60 ?_
  exact s_if_ne dX13_beginsS_63 (by decide) (wX13_beginsS_86 hZ) (wX13_beginsS_66 hZ)
noncomputable def vX13_beginsS_46 : rx_K := o_ld rx_isR 0 (o_const 868 (o_callV 1 13 FX13_isWordAt (o_c1 rx_eq vX13_beginsS_56 vX13_beginsS_86)))
set_option maxRecDepth 20000 in
theorem wX13_beginsS_46 (hZ : zO b e D A X) : rx_OK (zV b e D A X) mX13_beginsS 7 46 vX13_beginsS_46 := by
  unfold vX13_beginsS_46
  refine s_aload_n hZ.1 dX13_beginsS_46 rfl ?_
  refine s_ldcwS (k := 108) (zo_R108 hZ) dX13_beginsS_47 ?_
  refine s_callV hZ.1 (Met_X13_isWordAt hZ) (Nat.le_of_ble_eq_true rfl) vy_X13_isWordAt zcl13 zw2983 zw186 (Or.inl zw2981) dX13_beginsS_50 ?_
  exact s_if_ne dX13_beginsS_53 (by decide) (wX13_beginsS_86 hZ) (wX13_beginsS_56 hZ)
noncomputable def vX13_beginsS_36 : rx_K := o_ld rx_isR 0 (o_const 852 (o_callV 1 13 FX13_isWordAt (o_c1 rx_eq vX13_beginsS_46 vX13_beginsS_86)))
set_option maxRecDepth 20000 in
theorem wX13_beginsS_36 (hZ : zO b e D A X) : rx_OK (zV b e D A X) mX13_beginsS 7 36 vX13_beginsS_36 := by
  unfold vX13_beginsS_36
  refine s_aload_n hZ.1 dX13_beginsS_36 rfl ?_
  refine s_ldcwS (k := 106) (zo_R106 hZ) dX13_beginsS_37 ?_
  refine s_callV hZ.1 (Met_X13_isWordAt hZ) (Nat.le_of_ble_eq_true rfl) vy_X13_isWordAt zcl13 zw2983 zw186 (Or.inl zw2981) dX13_beginsS_40 ?_
  exact s_if_ne dX13_beginsS_43 (by decide) (wX13_beginsS_86 hZ) (wX13_beginsS_46 hZ)
noncomputable def vX13_beginsS_26 : rx_K := o_ld rx_isR 0 (o_const 836 (o_callV 1 13 FX13_isWordAt (o_c1 rx_eq vX13_beginsS_36 vX13_beginsS_86)))
set_option maxRecDepth 20000 in
theorem wX13_beginsS_26 (hZ : zO b e D A X) : rx_OK (zV b e D A X) mX13_beginsS 7 26 vX13_beginsS_26 := by
  unfold vX13_beginsS_26
  refine s_aload_n hZ.1 dX13_beginsS_26 rfl ?_
  refine s_ldcwS (k := 104) (zo_R104 hZ) dX13_beginsS_27 ?_
  refine s_callV hZ.1 (Met_X13_isWordAt hZ) (Nat.le_of_ble_eq_true rfl) vy_X13_isWordAt zcl13 zw2983 zw186 (Or.inl zw2981) dX13_beginsS_30 ?_
  exact s_if_ne dX13_beginsS_33 (by decide) (wX13_beginsS_86 hZ) (wX13_beginsS_36 hZ)
noncomputable def vX13_beginsS_16 : rx_K := o_ld rx_isR 0 (o_const 820 (o_callV 1 13 FX13_isWordAt (o_c1 rx_eq vX13_beginsS_26 vX13_beginsS_86)))
set_option maxRecDepth 20000 in
theorem wX13_beginsS_16 (hZ : zO b e D A X) : rx_OK (zV b e D A X) mX13_beginsS 7 16 vX13_beginsS_16 := by
  unfold vX13_beginsS_16
  refine s_aload_n hZ.1 dX13_beginsS_16 rfl ?_
  refine s_ldcwS (k := 102) (zo_R102 hZ) dX13_beginsS_17 ?_
  refine s_callV hZ.1 (Met_X13_isWordAt hZ) (Nat.le_of_ble_eq_true rfl) vy_X13_isWordAt zcl13 zw2983 zw186 (Or.inl zw2981) dX13_beginsS_20 ?_
  exact s_if_ne dX13_beginsS_23 (by decide) (wX13_beginsS_86 hZ) (wX13_beginsS_26 hZ)
noncomputable def vX13_beginsS_7 : rx_K := o_ld rx_isR 0 (o_const 984 (o_callV 1 13 FX13_isSign (o_c1 rx_eq vX13_beginsS_16 vX13_beginsS_86)))
set_option maxRecDepth 20000 in
theorem wX13_beginsS_7 (hZ : zO b e D A X) : rx_OK (zV b e D A X) mX13_beginsS 7 7 vX13_beginsS_7 := by
  unfold vX13_beginsS_7
  refine s_aload_n hZ.1 dX13_beginsS_7 rfl ?_
  refine s_bipush dX13_beginsS_8 (by decide +kernel) ?_
  refine s_callV hZ.1 (Met_X13_isSign hZ) (Nat.le_of_ble_eq_true rfl) vy_X13_isSign zcl13 zw3030 zw195 (Or.inl zw3028) dX13_beginsS_10 ?_
  exact s_if_ne dX13_beginsS_13 (by decide) (wX13_beginsS_86 hZ) (wX13_beginsS_16 hZ)
noncomputable def vX13_beginsS_0 : rx_K := o_ld rx_isR 0 (o_callV 0 13 FX13_beginsE (o_c1 rx_eq vX13_beginsS_7 vX13_beginsS_86))
set_option maxRecDepth 20000 in
theorem wX13_beginsS_0 (hZ : zO b e D A X) : rx_OK (zV b e D A X) mX13_beginsS 7 0 vX13_beginsS_0 := by
  unfold vX13_beginsS_0
  refine s_aload_n hZ.1 dX13_beginsS_0 rfl ?_
  refine s_callV hZ.1 (Met_X13_beginsE hZ) (Nat.le_of_ble_eq_true rfl) vy_X13_beginsE zcl13 zw3081 zw205 (Or.inl zw3079) dX13_beginsS_1 ?_
  exact s_if_ne dX13_beginsS_4 (by decide) (wX13_beginsS_86 hZ) (wX13_beginsS_7 hZ)
noncomputable def FX13_beginsS : List Nat → rx_H → Option (Nat × rx_H) := rx_ent 1 vX13_beginsS_0
theorem Met_X13_beginsS (hZ : zO b e D A X) : rx_Met (zV b e D A X) 7 yX13_beginsS mX13_beginsS (FX13_beginsS) := rx_entry hZ.1 (wX13_beginsS_0 hZ) (by decide +kernel) rfl (fun h => by cases h)
abbrev mX13_arguments : rx_M := (RX13, cX13_arguments, 5, (some .int), false)
theorem vy_X13_arguments : rx_Y (zV b e D A X) yX13_arguments mX13_arguments 0 := ⟨zw3128, zw431, by decide, by decide +kernel, by decide +kernel, by decide +kernel⟩
abbrev mX13_expression : rx_M := (RX13, cX13_expression, 3, (some .int), false)
theorem vy_X13_expression : rx_Y (zV b e D A X) yX13_expression mX13_expression 0 := ⟨zw3108, zw431, by decide, by decide +kernel, by decide +kernel, by decide +kernel⟩
abbrev mX13_first : rx_M := (RX13, cX13_first, 7, (some .int), false)
theorem vy_X13_first : rx_Y (zV b e D A X) yX13_first mX13_first 0 := ⟨zw3124, zw431, by decide, by decide +kernel, by decide +kernel, by decide +kernel⟩
abbrev mX13_inBrackets : rx_M := (RX13, cX13_inBrackets, 4, (some .int), false)
theorem vy_X13_inBrackets : rx_Y (zV b e D A X) yX13_inBrackets mX13_inBrackets 1 := ⟨zw3136, zw431, by decide, by decide +kernel, by decide +kernel, by decide +kernel⟩
abbrev mX13_ofClass : rx_M := (RX13, cX13_ofClass, 7, (some .int), false)
theorem vy_X13_ofClass : rx_Y (zV b e D A X) yX13_ofClass mX13_ofClass 1 := ⟨zw3132, zw431, by decide, by decide +kernel, by decide +kernel, by decide +kernel⟩
abbrev mX13_product : rx_M := (RX13, cX13_product, 3, (some .int), false)
theorem vy_X13_product : rx_Y (zV b e D A X) yX13_product mX13_product 0 := ⟨zw3116, zw431, by decide, by decide +kernel, by decide +kernel, by decide +kernel⟩
abbrev mX13_sum : rx_M := (RX13, cX13_sum, 3, (some .int), false)
theorem vy_X13_sum : rx_Y (zV b e D A X) yX13_sum mX13_sum 0 := ⟨zw3112, zw431, by decide, by decide +kernel, by decide +kernel, by decide +kernel⟩
abbrev mX13_unit : rx_M := (RX13, cX13_unit, 6, (some .int), false)
theorem vy_X13_unit : rx_Y (zV b e D A X) yX13_unit mX13_unit 0 := ⟨zw3120, zw431, by decide, by decide +kernel, by decide +kernel, by decide +kernel⟩
abbrev vl8 : List (MethodName × rx_M) := [(yX13_arguments, mX13_arguments), (yX13_expression, mX13_expression), (yX13_first, mX13_first), (yX13_inBrackets, mX13_inBrackets), (yX13_ofClass, mX13_ofClass), (yX13_product, mX13_product), (yX13_sum, mX13_sum), (yX13_unit, mX13_unit)]
noncomputable def vX13_arguments_120 (g : Nat → List Nat → rx_H → Option (Nat × rx_H)) (j : Nat → rx_K) : rx_K := o_ld rx_isR 0 (o_const 328 (o_callV 1 13 FX13_wantSign (o_ld rx_isI 1 (o_ret1 rx_isI))))
set_option maxRecDepth 20000 in
theorem wX13_arguments_120 {dn : Nat} {g : Nat → List Nat → rx_H → Option (Nat × rx_H)} (hZ : zO b e D A X) (hg : ∀ i y M, vl8[i]? = some (y, M) → rx_Met (zV b e D A X) dn y M (g i)) (hd : 7 ≤ dn) (j : Nat → rx_K) (hj : ∀ k pc, [47][k]? = some pc → rx_OK (zV b e D A X) mX13_arguments (dn + 1) pc (j k)) : rx_OK (zV b e D A X) mX13_arguments (dn + 1) 120 (vX13_arguments_120 g j) := by
  unfold vX13_arguments_120
  refine s_aload_n hZ.1 dX13_arguments_120 rfl ?_
  refine s_bipush dX13_arguments_121 (by decide +kernel) ?_
  refine s_callV hZ.1 (Met_X13_wantSign hZ) (Nat.succ_le_succ (Nat.le_trans (Nat.le_of_ble_eq_true rfl) hd)) vy_X13_wantSign zcl13 zw3037 zw196 (Or.inl zw3035) dX13_arguments_123 ?_
  refine s_iload_n hZ.1 dX13_arguments_126 rfl ?_
  exact s_iret hZ.1 rfl dX13_arguments_127
noncomputable def vX13_arguments_117 (g : Nat → List Nat → rx_H → Option (Nat × rx_H)) (j : Nat → rx_K) : rx_K := (j 0)
set_option maxRecDepth 20000 in
theorem wX13_arguments_117 {dn : Nat} {g : Nat → List Nat → rx_H → Option (Nat × rx_H)} (hZ : zO b e D A X) (hg : ∀ i y M, vl8[i]? = some (y, M) → rx_Met (zV b e D A X) dn y M (g i)) (hd : 7 ≤ dn) (j : Nat → rx_K) (hj : ∀ k pc, [47][k]? = some pc → rx_OK (zV b e D A X) mX13_arguments (dn + 1) pc (j k)) : rx_OK (zV b e D A X) mX13_arguments (dn + 1) 117 (vX13_arguments_117 g j) := by
  unfold vX13_arguments_117
  exact s_goto dX13_arguments_117 (by decide) (hj 0 47 rfl)
noncomputable def vX13_arguments_113 (g : Nat → List Nat → rx_H → Option (Nat × rx_H)) (j : Nat → rx_K) : rx_K := o_ld rx_isR 0 (o_callV 0 13 FX13_step ((vX13_arguments_117 g j)))
set_option maxRecDepth 20000 in
theorem wX13_arguments_113 {dn : Nat} {g : Nat → List Nat → rx_H → Option (Nat × rx_H)} (hZ : zO b e D A X) (hg : ∀ i y M, vl8[i]? = some (y, M) → rx_Met (zV b e D A X) dn y M (g i)) (hd : 7 ≤ dn) (j : Nat → rx_K) (hj : ∀ k pc, [47][k]? = some pc → rx_OK (zV b e D A X) mX13_arguments (dn + 1) pc (j k)) : rx_OK (zV b e D A X) mX13_arguments (dn + 1) 113 (vX13_arguments_113 g j) := by
  unfold vX13_arguments_113
  refine s_aload_n hZ.1 dX13_arguments_113 rfl ?_
  refine s_callV hZ.1 (Met_X13_step hZ) (Nat.succ_le_succ (Nat.le_trans (Nat.le_of_ble_eq_true rfl) hd)) vy_X13_step zcl13 zw2996 zw188 (Or.inl zw2994) dX13_arguments_114 ?_
  exact (wX13_arguments_117 hZ hg hd j hj)
noncomputable def vX13_arguments_108 (g : Nat → List Nat → rx_H → Option (Nat × rx_H)) (j : Nat → rx_K) : rx_K := o_st rx_isI 3 (o_ld rx_isI 3 (o_c1 rx_eq (vX13_arguments_117 g j) (vX13_arguments_113 g j)))
set_option maxRecDepth 20000 in
theorem wX13_arguments_108 {dn : Nat} {g : Nat → List Nat → rx_H → Option (Nat × rx_H)} (hZ : zO b e D A X) (hg : ∀ i y M, vl8[i]? = some (y, M) → rx_Met (zV b e D A X) dn y M (g i)) (hd : 7 ≤ dn) (j : Nat → rx_K) (hj : ∀ k pc, [47][k]? = some pc → rx_OK (zV b e D A X) mX13_arguments (dn + 1) pc (j k)) : rx_OK (zV b e D A X) mX13_arguments (dn + 1) 108 (vX13_arguments_108 g j) := by
  unfold vX13_arguments_108
  refine s_istore_n hZ.1 dX13_arguments_108 rfl (Nat.le_of_ble_eq_true rfl) ?_
  refine s_iload_n hZ.1 dX13_arguments_109 rfl ?_
  exact s_if_eq dX13_arguments_110 (by decide) (wX13_arguments_117 hZ hg hd j hj) (wX13_arguments_113 hZ hg hd j hj)
noncomputable def vX13_arguments_107 (g : Nat → List Nat → rx_H → Option (Nat × rx_H)) (j : Nat → rx_K) : rx_K := o_const 0 ((vX13_arguments_108 g j))
set_option maxRecDepth 20000 in
theorem wX13_arguments_107 {dn : Nat} {g : Nat → List Nat → rx_H → Option (Nat × rx_H)} (hZ : zO b e D A X) (hg : ∀ i y M, vl8[i]? = some (y, M) → rx_Met (zV b e D A X) dn y M (g i)) (hd : 7 ≤ dn) (j : Nat → rx_K) (hj : ∀ k pc, [47][k]? = some pc → rx_OK (zV b e D A X) mX13_arguments (dn + 1) pc (j k)) : rx_OK (zV b e D A X) mX13_arguments (dn + 1) 107 (vX13_arguments_107 g j) := by
  unfold vX13_arguments_107
  refine s_iconst dX13_arguments_107 (by decide +kernel) ?_
  exact (wX13_arguments_108 hZ hg hd j hj)
noncomputable def vX13_arguments_103 (g : Nat → List Nat → rx_H → Option (Nat × rx_H)) (j : Nat → rx_K) : rx_K := o_const 8 ((vX13_arguments_108 g j))
set_option maxRecDepth 20000 in
theorem wX13_arguments_103 {dn : Nat} {g : Nat → List Nat → rx_H → Option (Nat × rx_H)} (hZ : zO b e D A X) (hg : ∀ i y M, vl8[i]? = some (y, M) → rx_Met (zV b e D A X) dn y M (g i)) (hd : 7 ≤ dn) (j : Nat → rx_K) (hj : ∀ k pc, [47][k]? = some pc → rx_OK (zV b e D A X) mX13_arguments (dn + 1) pc (j k)) : rx_OK (zV b e D A X) mX13_arguments (dn + 1) 103 (vX13_arguments_103 g j) := by
  unfold vX13_arguments_103
  refine s_iconst dX13_arguments_103 (by decide +kernel) ?_
  exact s_goto dX13_arguments_104 (by decide) (wX13_arguments_108 hZ hg hd j hj)
noncomputable def vX13_arguments_94 (g : Nat → List Nat → rx_H → Option (Nat × rx_H)) (j : Nat → rx_K) : rx_K := o_ld rx_isR 0 (o_const 352 (o_callV 1 13 FX13_isSign (o_c1 rx_eq (vX13_arguments_107 g j) (vX13_arguments_103 g j))))
set_option maxRecDepth 20000 in
theorem wX13_arguments_94 {dn : Nat} {g : Nat → List Nat → rx_H → Option (Nat × rx_H)} (hZ : zO b e D A X) (hg : ∀ i y M, vl8[i]? = some (y, M) → rx_Met (zV b e D A X) dn y M (g i)) (hd : 7 ≤ dn) (j : Nat → rx_K) (hj : ∀ k pc, [47][k]? = some pc → rx_OK (zV b e D A X) mX13_arguments (dn + 1) pc (j k)) : rx_OK (zV b e D A X) mX13_arguments (dn + 1) 94 (vX13_arguments_94 g j) := by
  unfold vX13_arguments_94
  refine s_aload_n hZ.1 dX13_arguments_94 rfl ?_
  refine s_bipush dX13_arguments_95 (by decide +kernel) ?_
  refine s_callV hZ.1 (Met_X13_isSign hZ) (Nat.succ_le_succ (Nat.le_trans (Nat.le_of_ble_eq_true rfl) hd)) vy_X13_isSign zcl13 zw3030 zw195 (Or.inl zw3028) dX13_arguments_97 ?_
  exact s_if_eq dX13_arguments_100 (by decide) (wX13_arguments_107 hZ hg hd j hj) (wX13_arguments_103 hZ hg hd j hj)
noncomputable def vX13_arguments_84 (g : Nat → List Nat → rx_H → Option (Nat × rx_H)) (j : Nat → rx_K) : rx_K := o_ld rx_isI 4 (o_st rx_isI 2 (o_ld rx_isR 0 (o_getf 13 20 (o_c1 rx_eq (vX13_arguments_94 g j) (vX13_arguments_107 g j)))))
set_option maxRecDepth 20000 in
theorem wX13_arguments_84 {dn : Nat} {g : Nat → List Nat → rx_H → Option (Nat × rx_H)} (hZ : zO b e D A X) (hg : ∀ i y M, vl8[i]? = some (y, M) → rx_Met (zV b e D A X) dn y M (g i)) (hd : 7 ≤ dn) (j : Nat → rx_K) (hj : ∀ k pc, [47][k]? = some pc → rx_OK (zV b e D A X) mX13_arguments (dn + 1) pc (j k)) : rx_OK (zV b e D A X) mX13_arguments (dn + 1) 84 (vX13_arguments_84 g j) := by
  unfold vX13_arguments_84
  refine s_iload hZ.1 dX13_arguments_84 ?_
  refine s_istore_n hZ.1 dX13_arguments_86 rfl (Nat.le_of_ble_eq_true rfl) ?_
  refine s_aload_n hZ.1 dX13_arguments_87 rfl ?_
  refine yg13_20 dX13_arguments_88 zw4141 ?_
  exact s_if_ne dX13_arguments_91 (by decide) (wX13_arguments_107 hZ hg hd j hj) (wX13_arguments_94 hZ hg hd j hj)
noncomputable def vX13_arguments_76 (g : Nat → List Nat → rx_H → Option (Nat × rx_H)) (j : Nat → rx_K) : rx_K := o_ld rx_isR 0 (o_getf 13 80 (o_ld rx_isI 2 (o_ld rx_isI 4 (o_ast 0 (fun v => v) rx_isI ((vX13_arguments_84 g j))))))
set_option maxRecDepth 20000 in
theorem wX13_arguments_76 {dn : Nat} {g : Nat → List Nat → rx_H → Option (Nat × rx_H)} (hZ : zO b e D A X) (hg : ∀ i y M, vl8[i]? = some (y, M) → rx_Met (zV b e D A X) dn y M (g i)) (hd : 7 ≤ dn) (j : Nat → rx_K) (hj : ∀ k pc, [47][k]? = some pc → rx_OK (zV b e D A X) mX13_arguments (dn + 1) pc (j k)) : rx_OK (zV b e D A X) mX13_arguments (dn + 1) 76 (vX13_arguments_76 g j) := by
  unfold vX13_arguments_76
  refine s_aload_n hZ.1 dX13_arguments_76 rfl ?_
  refine yg13_80 dX13_arguments_77 zw4201 ?_
  refine s_iload_n hZ.1 dX13_arguments_80 rfl ?_
  refine s_iload hZ.1 dX13_arguments_81 ?_
  refine s_iast hZ.1 (tt := 0) rfl dX13_arguments_83 ?_
  exact (wX13_arguments_84 hZ hg hd j hj)
noncomputable def vX13_arguments_69 (g : Nat → List Nat → rx_H → Option (Nat × rx_H)) (j : Nat → rx_K) : rx_K := o_ld rx_isI 4 (o_const 34359738352 (o_c2 rx_eq (vX13_arguments_84 g j) (vX13_arguments_76 g j)))
set_option maxRecDepth 20000 in
theorem wX13_arguments_69 {dn : Nat} {g : Nat → List Nat → rx_H → Option (Nat × rx_H)} (hZ : zO b e D A X) (hg : ∀ i y M, vl8[i]? = some (y, M) → rx_Met (zV b e D A X) dn y M (g i)) (hd : 7 ≤ dn) (j : Nat → rx_K) (hj : ∀ k pc, [47][k]? = some pc → rx_OK (zV b e D A X) mX13_arguments (dn + 1) pc (j k)) : rx_OK (zV b e D A X) mX13_arguments (dn + 1) 69 (vX13_arguments_69 g j) := by
  unfold vX13_arguments_69
  refine s_iload hZ.1 dX13_arguments_69 ?_
  refine s_bipush dX13_arguments_71 (by decide +kernel) ?_
  exact s_icmp_eq dX13_arguments_73 (by decide) (wX13_arguments_84 hZ hg hd j hj) (wX13_arguments_76 hZ hg hd j hj)
noncomputable def vX13_arguments_63 (g : Nat → List Nat → rx_H → Option (Nat × rx_H)) (j : Nat → rx_K) : rx_K := o_ld rx_isI 4 (o_st rx_isI 1 ((vX13_arguments_84 g j)))
set_option maxRecDepth 20000 in
theorem wX13_arguments_63 {dn : Nat} {g : Nat → List Nat → rx_H → Option (Nat × rx_H)} (hZ : zO b e D A X) (hg : ∀ i y M, vl8[i]? = some (y, M) → rx_Met (zV b e D A X) dn y M (g i)) (hd : 7 ≤ dn) (j : Nat → rx_K) (hj : ∀ k pc, [47][k]? = some pc → rx_OK (zV b e D A X) mX13_arguments (dn + 1) pc (j k)) : rx_OK (zV b e D A X) mX13_arguments (dn + 1) 63 (vX13_arguments_63 g j) := by
  unfold vX13_arguments_63
  refine s_iload hZ.1 dX13_arguments_63 ?_
  refine s_istore_n hZ.1 dX13_arguments_65 rfl (Nat.le_of_ble_eq_true rfl) ?_
  exact s_goto dX13_arguments_66 (by decide) (wX13_arguments_84 hZ hg hd j hj)
noncomputable def vX13_arguments_51 (g : Nat → List Nat → rx_H → Option (Nat × rx_H)) (j : Nat → rx_K) : rx_K := o_ld rx_isR 0 (o_callV 0 13 (g 1) (o_st rx_isI 4 (o_ld rx_isI 2 (o_const 34359738352 (o_c2 rx_eq (vX13_arguments_63 g j) (vX13_arguments_69 g j))))))
set_option maxRecDepth 20000 in
theorem wX13_arguments_51 {dn : Nat} {g : Nat → List Nat → rx_H → Option (Nat × rx_H)} (hZ : zO b e D A X) (hg : ∀ i y M, vl8[i]? = some (y, M) → rx_Met (zV b e D A X) dn y M (g i)) (hd : 7 ≤ dn) (j : Nat → rx_K) (hj : ∀ k pc, [47][k]? = some pc → rx_OK (zV b e D A X) mX13_arguments (dn + 1) pc (j k)) : rx_OK (zV b e D A X) mX13_arguments (dn + 1) 51 (vX13_arguments_51 g j) := by
  unfold vX13_arguments_51
  refine s_aload_n hZ.1 dX13_arguments_51 rfl ?_
  refine s_callV hZ.1 (hg 1 _ _ rfl) (Nat.le_refl _) vy_X13_expression zcl13 zw3107 zw209 (Or.inl zw3105) dX13_arguments_52 ?_
  refine s_istore hZ.1 dX13_arguments_55 (Nat.le_of_ble_eq_true rfl) ?_
  refine s_iload_n hZ.1 dX13_arguments_57 rfl ?_
  refine s_bipush dX13_arguments_58 (by decide +kernel) ?_
  exact s_icmp_ne dX13_arguments_60 (by decide) (wX13_arguments_69 hZ hg hd j hj) (wX13_arguments_63 hZ hg hd j hj)
noncomputable def vX13_arguments_47 (g : Nat → List Nat → rx_H → Option (Nat × rx_H)) (j : Nat → rx_K) : rx_K := o_ld rx_isI 3 (o_c1 rx_eq (vX13_arguments_120 g j) (vX13_arguments_51 g j))
set_option maxRecDepth 20000 in
theorem wX13_arguments_47 {dn : Nat} {g : Nat → List Nat → rx_H → Option (Nat × rx_H)} (hZ : zO b e D A X) (hg : ∀ i y M, vl8[i]? = some (y, M) → rx_Met (zV b e D A X) dn y M (g i)) (hd : 7 ≤ dn) (j : Nat → rx_K) (hj : ∀ k pc, [47][k]? = some pc → rx_OK (zV b e D A X) mX13_arguments (dn + 1) pc (j k)) : rx_OK (zV b e D A X) mX13_arguments (dn + 1) 47 (vX13_arguments_47 g j) := by
  unfold vX13_arguments_47
  refine s_iload_n hZ.1 dX13_arguments_47 rfl ?_
  exact s_if_eq dX13_arguments_48 (by decide) (wX13_arguments_120 hZ hg hd j hj) (wX13_arguments_51 hZ hg hd j hj)
noncomputable def vX13_arguments_46 (g : Nat → List Nat → rx_H → Option (Nat × rx_H)) (j : Nat → rx_K) : rx_K := o_st rx_isI 3 ((vX13_arguments_47 g j))
set_option maxRecDepth 20000 in
theorem wX13_arguments_46 {dn : Nat} {g : Nat → List Nat → rx_H → Option (Nat × rx_H)} (hZ : zO b e D A X) (hg : ∀ i y M, vl8[i]? = some (y, M) → rx_Met (zV b e D A X) dn y M (g i)) (hd : 7 ≤ dn) (j : Nat → rx_K) (hj : ∀ k pc, [47][k]? = some pc → rx_OK (zV b e D A X) mX13_arguments (dn + 1) pc (j k)) : rx_OK (zV b e D A X) mX13_arguments (dn + 1) 46 (vX13_arguments_46 g j) := by
  unfold vX13_arguments_46
  refine s_istore_n hZ.1 dX13_arguments_46 rfl (Nat.le_of_ble_eq_true rfl) ?_
  exact (wX13_arguments_47 hZ hg hd j hj)
noncomputable def vX13_arguments_45 (g : Nat → List Nat → rx_H → Option (Nat × rx_H)) (j : Nat → rx_K) : rx_K := o_const 0 ((vX13_arguments_46 g j))
set_option maxRecDepth 20000 in
theorem wX13_arguments_45 {dn : Nat} {g : Nat → List Nat → rx_H → Option (Nat × rx_H)} (hZ : zO b e D A X) (hg : ∀ i y M, vl8[i]? = some (y, M) → rx_Met (zV b e D A X) dn y M (g i)) (hd : 7 ≤ dn) (j : Nat → rx_K) (hj : ∀ k pc, [47][k]? = some pc → rx_OK (zV b e D A X) mX13_arguments (dn + 1) pc (j k)) : rx_OK (zV b e D A X) mX13_arguments (dn + 1) 45 (vX13_arguments_45 g j) := by
  unfold vX13_arguments_45
  refine s_iconst dX13_arguments_45 (by decide +kernel) ?_
  exact (wX13_arguments_46 hZ hg hd j hj)
noncomputable def vX13_arguments_41 (g : Nat → List Nat → rx_H → Option (Nat × rx_H)) (j : Nat → rx_K) : rx_K := o_const 8 ((vX13_arguments_46 g j))
set_option maxRecDepth 20000 in
theorem wX13_arguments_41 {dn : Nat} {g : Nat → List Nat → rx_H → Option (Nat × rx_H)} (hZ : zO b e D A X) (hg : ∀ i y M, vl8[i]? = some (y, M) → rx_Met (zV b e D A X) dn y M (g i)) (hd : 7 ≤ dn) (j : Nat → rx_K) (hj : ∀ k pc, [47][k]? = some pc → rx_OK (zV b e D A X) mX13_arguments (dn + 1) pc (j k)) : rx_OK (zV b e D A X) mX13_arguments (dn + 1) 41 (vX13_arguments_41 g j) := by
  unfold vX13_arguments_41
  refine s_iconst dX13_arguments_41 (by decide +kernel) ?_
  exact s_goto dX13_arguments_42 (by decide) (wX13_arguments_46 hZ hg hd j hj)
noncomputable def vX13_arguments_31 (g : Nat → List Nat → rx_H → Option (Nat × rx_H)) (j : Nat → rx_K) : rx_K := o_const 34359738352 (o_st rx_isI 2 (o_ld rx_isR 0 (o_getf 13 20 (o_c1 rx_eq (vX13_arguments_41 g j) (vX13_arguments_45 g j)))))
set_option maxRecDepth 20000 in
theorem wX13_arguments_31 {dn : Nat} {g : Nat → List Nat → rx_H → Option (Nat × rx_H)} (hZ : zO b e D A X) (hg : ∀ i y M, vl8[i]? = some (y, M) → rx_Met (zV b e D A X) dn y M (g i)) (hd : 7 ≤ dn) (j : Nat → rx_K) (hj : ∀ k pc, [47][k]? = some pc → rx_OK (zV b e D A X) mX13_arguments (dn + 1) pc (j k)) : rx_OK (zV b e D A X) mX13_arguments (dn + 1) 31 (vX13_arguments_31 g j) := by
  unfold vX13_arguments_31
  refine s_bipush dX13_arguments_31 (by decide +kernel) ?_
  refine s_istore_n hZ.1 dX13_arguments_33 rfl (Nat.le_of_ble_eq_true rfl) ?_
  refine s_aload_n hZ.1 dX13_arguments_34 rfl ?_
  refine yg13_20 dX13_arguments_35 zw4141 ?_
  exact s_if_ne dX13_arguments_38 (by decide) (wX13_arguments_45 hZ hg hd j hj) (wX13_arguments_41 hZ hg hd j hj)
noncomputable def vX13_arguments_25 (g : Nat → List Nat → rx_H → Option (Nat × rx_H)) (j : Nat → rx_K) : rx_K := o_ld rx_isR 0 (o_callV 0 13 FX13_step (o_ld rx_isI 1 (o_ret1 rx_isI)))
set_option maxRecDepth 20000 in
theorem wX13_arguments_25 {dn : Nat} {g : Nat → List Nat → rx_H → Option (Nat × rx_H)} (hZ : zO b e D A X) (hg : ∀ i y M, vl8[i]? = some (y, M) → rx_Met (zV b e D A X) dn y M (g i)) (hd : 7 ≤ dn) (j : Nat → rx_K) (hj : ∀ k pc, [47][k]? = some pc → rx_OK (zV b e D A X) mX13_arguments (dn + 1) pc (j k)) : rx_OK (zV b e D A X) mX13_arguments (dn + 1) 25 (vX13_arguments_25 g j) := by
  unfold vX13_arguments_25
  refine s_aload_n hZ.1 dX13_arguments_25 rfl ?_
  refine s_callV hZ.1 (Met_X13_step hZ) (Nat.succ_le_succ (Nat.le_trans (Nat.le_of_ble_eq_true rfl) hd)) vy_X13_step zcl13 zw2996 zw188 (Or.inl zw2994) dX13_arguments_26 ?_
  refine s_iload_n hZ.1 dX13_arguments_29 rfl ?_
  exact s_iret hZ.1 rfl dX13_arguments_30
noncomputable def vX13_arguments_16 (g : Nat → List Nat → rx_H → Option (Nat × rx_H)) (j : Nat → rx_K) : rx_K := o_ld rx_isR 0 (o_const 328 (o_callV 1 13 FX13_isSign (o_c1 rx_eq (vX13_arguments_31 g j) (vX13_arguments_25 g j))))
set_option maxRecDepth 20000 in
theorem wX13_arguments_16 {dn : Nat} {g : Nat → List Nat → rx_H → Option (Nat × rx_H)} (hZ : zO b e D A X) (hg : ∀ i y M, vl8[i]? = some (y, M) → rx_Met (zV b e D A X) dn y M (g i)) (hd : 7 ≤ dn) (j : Nat → rx_K) (hj : ∀ k pc, [47][k]? = some pc → rx_OK (zV b e D A X) mX13_arguments (dn + 1) pc (j k)) : rx_OK (zV b e D A X) mX13_arguments (dn + 1) 16 (vX13_arguments_16 g j) := by
  unfold vX13_arguments_16
  refine s_aload_n hZ.1 dX13_arguments_16 rfl ?_
  refine s_bipush dX13_arguments_17 (by decide +kernel) ?_
  refine s_callV hZ.1 (Met_X13_isSign hZ) (Nat.succ_le_succ (Nat.le_trans (Nat.le_of_ble_eq_true rfl) hd)) vy_X13_isSign zcl13 zw3030 zw195 (Or.inl zw3028) dX13_arguments_19 ?_
  exact s_if_eq dX13_arguments_22 (by decide) (wX13_arguments_31 hZ hg hd j hj) (wX13_arguments_25 hZ hg hd j hj)
noncomputable def vX13_arguments_0 (g : Nat → List Nat → rx_H → Option (Nat × rx_H)) (j : Nat → rx_K) : rx_K := o_ld rx_isR 0 (o_const 320 (o_callV 1 13 FX13_wantSign (o_const 34359738352 (o_st rx_isI 1 (o_ld rx_isR 0 (o_getf 13 20 (o_c1 rx_eq (vX13_arguments_16 g j) (vX13_arguments_31 g j))))))))
set_option maxRecDepth 20000 in
theorem wX13_arguments_0 {dn : Nat} {g : Nat → List Nat → rx_H → Option (Nat × rx_H)} (hZ : zO b e D A X) (hg : ∀ i y M, vl8[i]? = some (y, M) → rx_Met (zV b e D A X) dn y M (g i)) (hd : 7 ≤ dn) (j : Nat → rx_K) (hj : ∀ k pc, [47][k]? = some pc → rx_OK (zV b e D A X) mX13_arguments (dn + 1) pc (j k)) : rx_OK (zV b e D A X) mX13_arguments (dn + 1) 0 (vX13_arguments_0 g j) := by
  unfold vX13_arguments_0
  refine s_aload_n hZ.1 dX13_arguments_0 rfl ?_
  refine s_bipush dX13_arguments_1 (by decide +kernel) ?_
  refine s_callV hZ.1 (Met_X13_wantSign hZ) (Nat.succ_le_succ (Nat.le_trans (Nat.le_of_ble_eq_true rfl) hd)) vy_X13_wantSign zcl13 zw3037 zw196 (Or.inl zw3035) dX13_arguments_3 ?_
  refine s_bipush dX13_arguments_6 (by decide +kernel) ?_
  refine s_istore_n hZ.1 dX13_arguments_8 rfl (Nat.le_of_ble_eq_true rfl) ?_
  refine s_aload_n hZ.1 dX13_arguments_9 rfl ?_
  refine yg13_20 dX13_arguments_10 zw4141 ?_
  exact s_if_ne dX13_arguments_13 (by decide) (wX13_arguments_31 hZ hg hd j hj) (wX13_arguments_16 hZ hg hd j hj)
noncomputable def vhX13_arguments (g : Nat → List Nat → rx_H → Option (Nat × rx_H)) (j : Nat → rx_K) : List rx_K := [vX13_arguments_47 g j]
theorem vlX13_arguments {dn : Nat} {g : Nat → List Nat → rx_H → Option (Nat × rx_H)} (hZ : zO b e D A X) (hg : ∀ i y M, vl8[i]? = some (y, M) → rx_Met (zV b e D A X) dn y M (g i)) (hd : 7 ≤ dn) : ∀ n k pc, [47][k]? = some pc → rx_OK (zV b e D A X) mX13_arguments (dn + 1) pc (rx_J (vhX13_arguments g) n k) := rx_loop fun j hj k pc h => by
  match k, h with
  | 0, h =>
    have e9 := Option.some.inj (show some 47 = some pc from h)
    subst e9
    exact wX13_arguments_47 hZ hg hd j hj
  | _ + 1, h => exact absurd h (by simp)
noncomputable def FX13_arguments (g : Nat → List Nat → rx_H → Option (Nat × rx_H)) : List Nat → rx_H → Option (Nat × rx_H) := rx_ent 5 (vX13_arguments_0 g (rx_J (vhX13_arguments g) 4000000000))
theorem Met_X13_arguments {dn : Nat} {g : Nat → List Nat → rx_H → Option (Nat × rx_H)} (hZ : zO b e D A X) (hg : ∀ i y M, vl8[i]? = some (y, M) → rx_Met (zV b e D A X) dn y M (g i)) (hd : 7 ≤ dn) : rx_Met (zV b e D A X) (dn + 1) yX13_arguments mX13_arguments (FX13_arguments g) := rx_entry hZ.1 (wX13_arguments_0 hZ hg hd _ (vlX13_arguments hZ hg hd 4000000000)) (by decide +kernel) rfl (fun h => by cases h)
end ZM39

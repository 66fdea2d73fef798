section ZM8
variable {b : Nat} {e : Nat → Value} {D : va_G} {A : Nat → ClassId} {X : State → Prop}
abbrev mX13_parse : rx_M := (RX13, cX13_parse, 1, none, false)
noncomputable def bX13_parse_55 : rx_K := o_ret0
set_option maxRecDepth 20000 in
theorem kX13_parse_55 (hZ : zO b e D A X) : rx_OK (zV b e D A X) mX13_parse 1 55 bX13_parse_55 := by
  unfold bX13_parse_55
  exact s_vret rfl dX13_parse_55
noncomputable def bX13_parse_37 : rx_K := q_ld q_isR 0 (q_ld q_isR 0 (q_getf 13 22 (o_callV 1 13 fX13_kindAt (q_eq1 bX13_parse_55 o_none))))
set_option maxRecDepth 20000 in
theorem kX13_parse_37 (hZ : zO b e D A X) : rx_OK (zV b e D A X) mX13_parse 1 37 bX13_parse_37 := by
  unfold bX13_parse_37
  refine rx_by (e_ldR _ _) (s_aload_n hZ.1 dX13_parse_37 rfl ?_)
  refine rx_by (e_ldR _ _) (s_aload_n hZ.1 dX13_parse_38 rfl ?_)
  refine zg13_22 dX13_parse_39 zw4143 ?_
  refine s_callV hZ.1 (met_X13_kindAt hZ) (by decide) zy_X13_kindAt zcl13 zw2970 zw183 (Or.inl zw2968) dX13_parse_42 ?_
  exact rx_by (e_eq1 _ _) (s_if_eq dX13_parse_45 (by decide) (kX13_parse_55 hZ) (s_none (pc := 48)))
noncomputable def bX13_parse_0 : rx_K := q_ld q_isR 0 (o_const 0 (p_putf q_isI 13 22 (q_ld q_isR 0 (o_const 0 (p_putf q_isI 13 89 (q_ld q_isR 0 (q_getf 13 23 (q_ld q_isR 0 (q_getf 13 19 (o_const 0 (p_ast 0 (fun v => v) q_isI (q_ld q_isR 0 (q_getf 13 69 (q_ld q_isR 0 (q_getf 13 19 (o_const 0 (p_ast 0 (fun v => v) q_isI (q_ld q_isR 0 (q_getf 13 20 (q_eq1 bX13_parse_37 bX13_parse_55))))))))))))))))))))
set_option maxRecDepth 20000 in
theorem kX13_parse_0 (hZ : zO b e D A X) : rx_OK (zV b e D A X) mX13_parse 1 0 bX13_parse_0 := by
  unfold bX13_parse_0
  refine rx_by (e_ldR _ _) (s_aload_n hZ.1 dX13_parse_0 rfl ?_)
  refine s_iconst dX13_parse_1 (by decide +kernel) ?_
  refine zp13_22 hZ.1 dX13_parse_2 zw4143 ?_
  refine rx_by (e_ldR _ _) (s_aload_n hZ.1 dX13_parse_5 rfl ?_)
  refine s_iconst dX13_parse_6 (by decide +kernel) ?_
  refine zp13_89 hZ.1 dX13_parse_7 zw4210 ?_
  refine rx_by (e_ldR _ _) (s_aload_n hZ.1 dX13_parse_10 rfl ?_)
  refine zg13_23 dX13_parse_11 zw4144 ?_
  refine rx_by (e_ldR _ _) (s_aload_n hZ.1 dX13_parse_14 rfl ?_)
  refine zg13_19 dX13_parse_15 zw4140 ?_
  refine s_iconst dX13_parse_18 (by decide +kernel) ?_
  refine rx_by2 (l_astI _ _ _) (s_iast hZ.1 (tt := 0) rfl dX13_parse_19 ?_)
  refine rx_by (e_ldR _ _) (s_aload_n hZ.1 dX13_parse_20 rfl ?_)
  refine zg13_69 dX13_parse_21 zw4190 ?_
  refine rx_by (e_ldR _ _) (s_aload_n hZ.1 dX13_parse_24 rfl ?_)
  refine zg13_19 dX13_parse_25 zw4140 ?_
  refine s_iconst dX13_parse_28 (by decide +kernel) ?_
  refine rx_by2 (l_astI _ _ _) (s_iast hZ.1 (tt := 0) rfl dX13_parse_29 ?_)
  refine rx_by (e_ldR _ _) (s_aload_n hZ.1 dX13_parse_30 rfl ?_)
  refine zg13_20 dX13_parse_31 zw4141 ?_
  exact rx_by (e_eq1 _ _) (s_if_ne dX13_parse_34 (by decide) (kX13_parse_55 hZ) (kX13_parse_37 hZ))
noncomputable def fX13_parse : List Nat → rx_H → Option (Nat × rx_H) := rx_ent 1 bX13_parse_0
theorem met_X13_parse (hZ : zO b e D A X) : rx_Met (zV b e D A X) 1 yX13_parse mX13_parse fX13_parse := rx_entry hZ.1 (kX13_parse_0 hZ) (by decide +kernel) rfl (fun h => by cases h)
theorem zy_X13_parse : rx_Y (zV b e D A X) yX13_parse mX13_parse 0 := ⟨zw2967, zw431, by decide, by decide +kernel, by decide +kernel, by decide +kernel⟩
abbrev mX13_heads : rx_M := (RX13, cX13_heads, 3, none, false)
noncomputable def bX13_heads_99 : rx_K := o_ret0
set_option maxRecDepth 20000 in
theorem kX13_heads_99 (hZ : zO b e D A X) : rx_OK (zV b e D A X) mX13_heads 0 99 bX13_heads_99 := by
  unfold bX13_heads_99
  exact s_vret rfl dX13_heads_99
noncomputable def bX13_heads_41 : rx_K := o_const 0 (q_st q_isI 1 (q_ld q_isI 1 (q_ld q_isR 0 (q_getf 13 23 (q_ld q_isR 0 (q_getf 13 19 (q_ald 0 (q_lt2 o_none bX13_heads_99))))))))
set_option maxRecDepth 20000 in
theorem kX13_heads_41 (hZ : zO b e D A X) : rx_OK (zV b e D A X) mX13_heads 0 41 bX13_heads_41 := by
  unfold bX13_heads_41
  refine s_iconst dX13_heads_41 (by decide +kernel) ?_
  refine rx_by (e_stI _ _) (s_istore_n hZ.1 dX13_heads_42 rfl (Nat.le_of_ble_eq_true rfl) ?_)
  refine rx_by (e_ldI _ _) (s_iload_n hZ.1 dX13_heads_43 rfl ?_)
  refine rx_by (e_ldR _ _) (s_aload_n hZ.1 dX13_heads_44 rfl ?_)
  refine zg13_23 dX13_heads_45 zw4144 ?_
  refine rx_by (e_ldR _ _) (s_aload_n hZ.1 dX13_heads_48 rfl ?_)
  refine zg13_19 dX13_heads_49 zw4140 ?_
  refine rx_by (e_ald _ _) (s_iald (tt := 0) rfl dX13_heads_52 ?_)
  exact rx_by (e_lt2 _ _) (s_icmp_ge dX13_heads_53 (by decide) (kX13_heads_99 hZ) (s_none (pc := 56)))
noncomputable def bX13_heads_0 : rx_K := o_const 0 (q_st q_isI 1 (q_ld q_isI 1 (q_ld q_isR 0 (q_getf 13 23 (q_ld q_isR 0 (q_getf 13 19 (q_ald 0 (q_lt2 o_none bX13_heads_41))))))))
set_option maxRecDepth 20000 in
theorem kX13_heads_0 (hZ : zO b e D A X) : rx_OK (zV b e D A X) mX13_heads 0 0 bX13_heads_0 := by
  unfold bX13_heads_0
  refine s_iconst dX13_heads_0 (by decide +kernel) ?_
  refine rx_by (e_stI _ _) (s_istore_n hZ.1 dX13_heads_1 rfl (Nat.le_of_ble_eq_true rfl) ?_)
  refine rx_by (e_ldI _ _) (s_iload_n hZ.1 dX13_heads_2 rfl ?_)
  refine rx_by (e_ldR _ _) (s_aload_n hZ.1 dX13_heads_3 rfl ?_)
  refine zg13_23 dX13_heads_4 zw4144 ?_
  refine rx_by (e_ldR _ _) (s_aload_n hZ.1 dX13_heads_7 rfl ?_)
  refine zg13_19 dX13_heads_8 zw4140 ?_
  refine rx_by (e_ald _ _) (s_iald (tt := 0) rfl dX13_heads_11 ?_)
  exact rx_by (e_lt2 _ _) (s_icmp_ge dX13_heads_12 (by decide) (kX13_heads_41 hZ) (s_none (pc := 15)))
noncomputable def fX13_heads : List Nat → rx_H → Option (Nat × rx_H) := rx_ent 3 bX13_heads_0
theorem met_X13_heads (hZ : zO b e D A X) : rx_Met (zV b e D A X) 0 yX13_heads mX13_heads fX13_heads := rx_entry hZ.1 (kX13_heads_0 hZ) (by decide +kernel) rfl (fun h => by cases h)
theorem zy_X13_heads : rx_Y (zV b e D A X) yX13_heads mX13_heads 0 := ⟨zw3167, zw431, by decide, by decide +kernel, by decide +kernel, by decide +kernel⟩
abbrev mX13_membersOf : rx_M := (RX13, cX13_membersOf, 8, none, false)
noncomputable def bX13_membersOf_320 : rx_K := o_ret0
set_option maxRecDepth 20000 in
theorem kX13_membersOf_320 (hZ : zO b e D A X) : rx_OK (zV b e D A X) mX13_membersOf 0 320 bX13_membersOf_320 := by
  unfold bX13_membersOf_320
  exact s_vret rfl dX13_membersOf_320
noncomputable def bX13_membersOf_0 : rx_K := o_const 0 (q_st q_isI 1 (q_ld q_isI 1 (q_ld q_isR 0 (q_getf 13 23 (q_ld q_isR 0 (q_getf 13 19 (q_ald 0 (q_lt2 o_none bX13_membersOf_320))))))))
set_option maxRecDepth 20000 in
theorem kX13_membersOf_0 (hZ : zO b e D A X) : rx_OK (zV b e D A X) mX13_membersOf 0 0 bX13_membersOf_0 := by
  unfold bX13_membersOf_0
  refine s_iconst dX13_membersOf_0 (by decide +kernel) ?_
  refine rx_by (e_stI _ _) (s_istore_n hZ.1 dX13_membersOf_1 rfl (Nat.le_of_ble_eq_true rfl) ?_)
  refine rx_by (e_ldI _ _) (s_iload_n hZ.1 dX13_membersOf_2 rfl ?_)
  refine rx_by (e_ldR _ _) (s_aload_n hZ.1 dX13_membersOf_3 rfl ?_)
  refine zg13_23 dX13_membersOf_4 zw4144 ?_
  refine rx_by (e_ldR _ _) (s_aload_n hZ.1 dX13_membersOf_7 rfl ?_)
  refine zg13_19 dX13_membersOf_8 zw4140 ?_
  refine rx_by (e_ald _ _) (s_iald (tt := 0) rfl dX13_membersOf_11 ?_)
  exact rx_by (e_lt2 _ _) (s_icmp_ge dX13_membersOf_12 (by decide) (kX13_membersOf_320 hZ) (s_none (pc := 15)))
noncomputable def fX13_membersOf : List Nat → rx_H → Option (Nat × rx_H) := rx_ent 8 bX13_membersOf_0
theorem met_X13_membersOf (hZ : zO b e D A X) : rx_Met (zV b e D A X) 0 yX13_membersOf mX13_membersOf fX13_membersOf := rx_entry hZ.1 (kX13_membersOf_0 hZ) (by decide +kernel) rfl (fun h => by cases h)
theorem zy_X13_membersOf : rx_Y (zV b e D A X) yX13_membersOf mX13_membersOf 0 := ⟨zw3225, zw431, by decide, by decide +kernel, by decide +kernel, by decide +kernel⟩
abbrev mX13_againstAbove : rx_M := (RX13, cX13_againstAbove, 6, none, false)
noncomputable def bX13_againstAbove_135 : rx_K := o_ret0
set_option maxRecDepth 20000 in
theorem kX13_againstAbove_135 (hZ : zO b e D A X) : rx_OK (zV b e D A X) mX13_againstAbove 0 135 bX13_againstAbove_135 := by
  unfold bX13_againstAbove_135
  exact s_vret rfl dX13_againstAbove_135
noncomputable def bX13_againstAbove_0 : rx_K := o_const 0 (q_st q_isI 1 (q_ld q_isI 1 (q_ld q_isR 0 (q_getf 13 23 (q_ld q_isR 0 (q_getf 13 19 (q_ald 0 (q_lt2 o_none bX13_againstAbove_135))))))))
set_option maxRecDepth 20000 in
theorem kX13_againstAbove_0 (hZ : zO b e D A X) : rx_OK (zV b e D A X) mX13_againstAbove 0 0 bX13_againstAbove_0 := by
  unfold bX13_againstAbove_0
  refine s_iconst dX13_againstAbove_0 (by decide +kernel) ?_
  refine rx_by (e_stI _ _) (s_istore_n hZ.1 dX13_againstAbove_1 rfl (Nat.le_of_ble_eq_true rfl) ?_)
  refine rx_by (e_ldI _ _) (s_iload_n hZ.1 dX13_againstAbove_2 rfl ?_)
  refine rx_by (e_ldR _ _) (s_aload_n hZ.1 dX13_againstAbove_3 rfl ?_)
  refine zg13_23 dX13_againstAbove_4 zw4144 ?_
  refine rx_by (e_ldR _ _) (s_aload_n hZ.1 dX13_againstAbove_7 rfl ?_)
  refine zg13_19 dX13_againstAbove_8 zw4140 ?_
  refine rx_by (e_ald _ _) (s_iald (tt := 0) rfl dX13_againstAbove_11 ?_)
  exact rx_by (e_lt2 _ _) (s_icmp_ge dX13_againstAbove_12 (by decide) (kX13_againstAbove_135 hZ) (s_none (pc := 15)))
noncomputable def fX13_againstAbove : List Nat → rx_H → Option (Nat × rx_H) := rx_ent 6 bX13_againstAbove_0
theorem met_X13_againstAbove (hZ : zO b e D A X) : rx_Met (zV b e D A X) 0 yX13_againstAbove mX13_againstAbove fX13_againstAbove := rx_entry hZ.1 (kX13_againstAbove_0 hZ) (by decide +kernel) rfl (fun h => by cases h)
theorem zy_X13_againstAbove : rx_Y (zV b e D A X) yX13_againstAbove mX13_againstAbove 0 := ⟨zw3248, zw431, by decide, by decide +kernel, by decide +kernel, by decide +kernel⟩
abbrev mX13_makersAndBridges : rx_M := (RX13, cX13_makersAndBridges, 5, none, false)
noncomputable def bX13_makersAndBridges_223 : rx_K := o_ret0
set_option maxRecDepth 20000 in
theorem kX13_makersAndBridges_223 (hZ : zO b e D A X) : rx_OK (zV b e D A X) mX13_makersAndBridges 0 223 bX13_makersAndBridges_223 := by
  unfold bX13_makersAndBridges_223
  exact s_vret rfl dX13_makersAndBridges_223
noncomputable def bX13_makersAndBridges_182 : rx_K := o_const 0 (q_st q_isI 1 (q_ld q_isI 1 (q_ld q_isR 0 (q_getf 13 23 (q_ld q_isR 0 (q_getf 13 19 (q_ald 0 (q_lt2 o_none bX13_makersAndBridges_223))))))))
set_option maxRecDepth 20000 in
theorem kX13_makersAndBridges_182 (hZ : zO b e D A X) : rx_OK (zV b e D A X) mX13_makersAndBridges 0 182 bX13_makersAndBridges_182 := by
  unfold bX13_makersAndBridges_182
  refine s_iconst dX13_makersAndBridges_182 (by decide +kernel) ?_
  refine rx_by (e_stI _ _) (s_istore_n hZ.1 dX13_makersAndBridges_183 rfl (Nat.le_of_ble_eq_true rfl) ?_)
  refine rx_by (e_ldI _ _) (s_iload_n hZ.1 dX13_makersAndBridges_184 rfl ?_)
  refine rx_by (e_ldR _ _) (s_aload_n hZ.1 dX13_makersAndBridges_185 rfl ?_)
  refine zg13_23 dX13_makersAndBridges_186 zw4144 ?_
  refine rx_by (e_ldR _ _) (s_aload_n hZ.1 dX13_makersAndBridges_189 rfl ?_)
  refine zg13_19 dX13_makersAndBridges_190 zw4140 ?_
  refine rx_by (e_ald _ _) (s_iald (tt := 0) rfl dX13_makersAndBridges_193 ?_)
  exact rx_by (e_lt2 _ _) (s_icmp_ge dX13_makersAndBridges_194 (by decide) (kX13_makersAndBridges_223 hZ) (s_none (pc := 197)))
noncomputable def bX13_makersAndBridges_0 : rx_K := o_const 0 (q_st q_isI 1 (q_ld q_isI 1 (q_ld q_isR 0 (q_getf 13 23 (q_ld q_isR 0 (q_getf 13 19 (q_ald 0 (q_lt2 o_none bX13_makersAndBridges_182))))))))
set_option maxRecDepth 20000 in
theorem kX13_makersAndBridges_0 (hZ : zO b e D A X) : rx_OK (zV b e D A X) mX13_makersAndBridges 0 0 bX13_makersAndBridges_0 := by
  unfold bX13_makersAndBridges_0
  refine s_iconst dX13_makersAndBridges_0 (by decide +kernel) ?_
  refine rx_by (e_stI _ _) (s_istore_n hZ.1 dX13_makersAndBridges_1 rfl (Nat.le_of_ble_eq_true rfl) ?_)
  refine rx_by (e_ldI _ _) (s_iload_n hZ.1 dX13_makersAndBridges_2 rfl ?_)
  refine rx_by (e_ldR _ _) (s_aload_n hZ.1 dX13_makersAndBridges_3 rfl ?_)
  refine zg13_23 dX13_makersAndBridges_4 zw4144 ?_
  refine rx_by (e_ldR _ _) (s_aload_n hZ.1 dX13_makersAndBridges_7 rfl ?_)
  refine zg13_19 dX13_makersAndBridges_8 zw4140 ?_
  refine rx_by (e_ald _ _) (s_iald (tt := 0) rfl dX13_makersAndBridges_11 ?_)
  exact rx_by (e_lt2 _ _) (s_icmp_ge dX13_makersAndBridges_12 (by decide) (kX13_makersAndBridges_182 hZ) (s_none (pc := 15)))
noncomputable def fX13_makersAndBridges : List Nat → rx_H → Option (Nat × rx_H) := rx_ent 5 bX13_makersAndBridges_0
theorem met_X13_makersAndBridges (hZ : zO b e D A X) : rx_Met (zV b e D A X) 0 yX13_makersAndBridges mX13_makersAndBridges fX13_makersAndBridges := rx_entry hZ.1 (kX13_makersAndBridges_0 hZ) (by decide +kernel) rfl (fun h => by cases h)
theorem zy_X13_makersAndBridges : rx_Y (zV b e D A X) yX13_makersAndBridges mX13_makersAndBridges 0 := ⟨zw3284, zw431, by decide, by decide +kernel, by decide +kernel, by decide +kernel⟩
abbrev mX13_lacking : rx_M := (RX13, cX13_lacking, 6, none, false)
noncomputable def bX13_lacking_135 : rx_K := o_ret0
set_option maxRecDepth 20000 in
theorem kX13_lacking_135 (hZ : zO b e D A X) : rx_OK (zV b e D A X) mX13_lacking 0 135 bX13_lacking_135 := by
  unfold bX13_lacking_135
  exact s_vret rfl dX13_lacking_135
noncomputable def bX13_lacking_0 : rx_K := o_const 0 (q_st q_isI 1 (q_ld q_isI 1 (q_ld q_isR 0 (q_getf 13 23 (q_ld q_isR 0 (q_getf 13 19 (q_ald 0 (q_lt2 o_none bX13_lacking_135))))))))
set_option maxRecDepth 20000 in
theorem kX13_lacking_0 (hZ : zO b e D A X) : rx_OK (zV b e D A X) mX13_lacking 0 0 bX13_lacking_0 := by
  unfold bX13_lacking_0
  refine s_iconst dX13_lacking_0 (by decide +kernel) ?_
  refine rx_by (e_stI _ _) (s_istore_n hZ.1 dX13_lacking_1 rfl (Nat.le_of_ble_eq_true rfl) ?_)
  refine rx_by (e_ldI _ _) (s_iload_n hZ.1 dX13_lacking_2 rfl ?_)
  refine rx_by (e_ldR _ _) (s_aload_n hZ.1 dX13_lacking_3 rfl ?_)
  refine zg13_23 dX13_lacking_4 zw4144 ?_
  refine rx_by (e_ldR _ _) (s_aload_n hZ.1 dX13_lacking_7 rfl ?_)
  refine zg13_19 dX13_lacking_8 zw4140 ?_
  refine rx_by (e_ald _ _) (s_iald (tt := 0) rfl dX13_lacking_11 ?_)
  exact rx_by (e_lt2 _ _) (s_icmp_ge dX13_lacking_12 (by decide) (kX13_lacking_135 hZ) (s_none (pc := 15)))
noncomputable def fX13_lacking : List Nat → rx_H → Option (Nat × rx_H) := rx_ent 6 bX13_lacking_0
theorem met_X13_lacking (hZ : zO b e D A X) : rx_Met (zV b e D A X) 0 yX13_lacking mX13_lacking fX13_lacking := rx_entry hZ.1 (kX13_lacking_0 hZ) (by decide +kernel) rfl (fun h => by cases h)
theorem zy_X13_lacking : rx_Y (zV b e D A X) yX13_lacking mX13_lacking 0 := ⟨zw3308, zw431, by decide, by decide +kernel, by decide +kernel, by decide +kernel⟩
abbrev mX13_constants : rx_M := (RX13, cX13_constants, 7, none, false)
noncomputable def bX13_constants_176 : rx_K := o_ret0
set_option maxRecDepth 20000 in
theorem kX13_constants_176 (hZ : zO b e D A X) : rx_OK (zV b e D A X) mX13_constants 0 176 bX13_constants_176 := by
  unfold bX13_constants_176
  exact s_vret rfl dX13_constants_176
noncomputable def bX13_constants_0 : rx_K := o_const 0 (q_st q_isI 1 (q_ld q_isI 1 (q_ld q_isR 0 (q_getf 13 23 (q_ld q_isR 0 (q_getf 13 19 (q_ald 0 (q_lt2 o_none bX13_constants_176))))))))
set_option maxRecDepth 20000 in
theorem kX13_constants_0 (hZ : zO b e D A X) : rx_OK (zV b e D A X) mX13_constants 0 0 bX13_constants_0 := by
  unfold bX13_constants_0
  refine s_iconst dX13_constants_0 (by decide +kernel) ?_
  refine rx_by (e_stI _ _) (s_istore_n hZ.1 dX13_constants_1 rfl (Nat.le_of_ble_eq_true rfl) ?_)
  refine rx_by (e_ldI _ _) (s_iload_n hZ.1 dX13_constants_2 rfl ?_)
  refine rx_by (e_ldR _ _) (s_aload_n hZ.1 dX13_constants_3 rfl ?_)
  refine zg13_23 dX13_constants_4 zw4144 ?_
  refine rx_by (e_ldR _ _) (s_aload_n hZ.1 dX13_constants_7 rfl ?_)
  refine zg13_19 dX13_constants_8 zw4140 ?_
  refine rx_by (e_ald _ _) (s_iald (tt := 0) rfl dX13_constants_11 ?_)
  exact rx_by (e_lt2 _ _) (s_icmp_ge dX13_constants_12 (by decide) (kX13_constants_176 hZ) (s_none (pc := 15)))
noncomputable def fX13_constants : List Nat → rx_H → Option (Nat × rx_H) := rx_ent 7 bX13_constants_0
theorem met_X13_constants (hZ : zO b e D A X) : rx_Met (zV b e D A X) 0 yX13_constants mX13_constants fX13_constants := rx_entry hZ.1 (kX13_constants_0 hZ) (by decide +kernel) rfl (fun h => by cases h)
theorem zy_X13_constants : rx_Y (zV b e D A X) yX13_constants mX13_constants 0 := ⟨zw3332, zw431, by decide, by decide +kernel, by decide +kernel, by decide +kernel⟩
abbrev mX13_bodies : rx_M := (RX13, cX13_bodies, 4, none, false)
noncomputable def bX13_bodies_88 : rx_K := o_ret0
set_option maxRecDepth 20000 in
theorem kX13_bodies_88 (hZ : zO b e D A X) : rx_OK (zV b e D A X) mX13_bodies 0 88 bX13_bodies_88 := by
  unfold bX13_bodies_88
  exact s_vret rfl dX13_bodies_88
noncomputable def bX13_bodies_0 : rx_K := o_const 0 (q_st q_isI 1 (q_ld q_isI 1 (q_ld q_isR 0 (q_getf 13 23 (q_ld q_isR 0 (q_getf 13 19 (q_ald 0 (q_lt2 o_none bX13_bodies_88))))))))
set_option maxRecDepth 20000 in
theorem kX13_bodies_0 (hZ : zO b e D A X) : rx_OK (zV b e D A X) mX13_bodies 0 0 bX13_bodies_0 := by
  unfold bX13_bodies_0
  refine s_iconst dX13_bodies_0 (by decide +kernel) ?_
  refine rx_by (e_stI _ _) (s_istore_n hZ.1 dX13_bodies_1 rfl (Nat.le_of_ble_eq_true rfl) ?_)
  refine rx_by (e_ldI _ _) (s_iload_n hZ.1 dX13_bodies_2 rfl ?_)
  refine rx_by (e_ldR _ _) (s_aload_n hZ.1 dX13_bodies_3 rfl ?_)
  refine zg13_23 dX13_bodies_4 zw4144 ?_
  refine rx_by (e_ldR _ _) (s_aload_n hZ.1 dX13_bodies_7 rfl ?_)
  refine zg13_19 dX13_bodies_8 zw4140 ?_
  refine rx_by (e_ald _ _) (s_iald (tt := 0) rfl dX13_bodies_11 ?_)
  exact rx_by (e_lt2 _ _) (s_icmp_ge dX13_bodies_12 (by decide) (kX13_bodies_88 hZ) (s_none (pc := 15)))
noncomputable def fX13_bodies : List Nat → rx_H → Option (Nat × rx_H) := rx_ent 4 bX13_bodies_0
theorem met_X13_bodies (hZ : zO b e D A X) : rx_Met (zV b e D A X) 0 yX13_bodies mX13_bodies fX13_bodies := rx_entry hZ.1 (kX13_bodies_0 hZ) (by decide +kernel) rfl (fun h => by cases h)
theorem zy_X13_bodies : rx_Y (zV b e D A X) yX13_bodies mX13_bodies 0 := ⟨zw3391, zw431, by decide, by decide +kernel, by decide +kernel, by decide +kernel⟩
abbrev mX13_usesOfAll : rx_M := (RX13, cX13_usesOfAll, 2, none, false)
noncomputable def bX13_usesOfAll_44 : rx_K := o_ret0
set_option maxRecDepth 20000 in
theorem kX13_usesOfAll_44 (hZ : zO b e D A X) : rx_OK (zV b e D A X) mX13_usesOfAll 0 44 bX13_usesOfAll_44 := by
  unfold bX13_usesOfAll_44
  exact s_vret rfl dX13_usesOfAll_44
noncomputable def bX13_usesOfAll_0 : rx_K := q_ld q_isR 0 (q_getf 13 118 (q_ld q_isR 0 (q_getf 13 19 (o_const 0 (p_ast 0 (fun v => v) q_isI (o_const 0 (q_st q_isI 1 (q_ld q_isI 1 (q_ld q_isR 0 (q_getf 13 23 (q_ld q_isR 0 (q_getf 13 19 (q_ald 0 (q_lt2 o_none bX13_usesOfAll_44))))))))))))))
set_option maxRecDepth 20000 in
theorem kX13_usesOfAll_0 (hZ : zO b e D A X) : rx_OK (zV b e D A X) mX13_usesOfAll 0 0 bX13_usesOfAll_0 := by
  unfold bX13_usesOfAll_0
  refine rx_by (e_ldR _ _) (s_aload_n hZ.1 dX13_usesOfAll_0 rfl ?_)
  refine zg13_118 dX13_usesOfAll_1 zw4238 ?_
  refine rx_by (e_ldR _ _) (s_aload_n hZ.1 dX13_usesOfAll_4 rfl ?_)
  refine zg13_19 dX13_usesOfAll_5 zw4140 ?_
  refine s_iconst dX13_usesOfAll_8 (by decide +kernel) ?_
  refine rx_by2 (l_astI _ _ _) (s_iast hZ.1 (tt := 0) rfl dX13_usesOfAll_9 ?_)
  refine s_iconst dX13_usesOfAll_10 (by decide +kernel) ?_
  refine rx_by (e_stI _ _) (s_istore_n hZ.1 dX13_usesOfAll_11 rfl (Nat.le_of_ble_eq_true rfl) ?_)
  refine rx_by (e_ldI _ _) (s_iload_n hZ.1 dX13_usesOfAll_12 rfl ?_)
  refine rx_by (e_ldR _ _) (s_aload_n hZ.1 dX13_usesOfAll_13 rfl ?_)
  refine zg13_23 dX13_usesOfAll_14 zw4144 ?_
  refine rx_by (e_ldR _ _) (s_aload_n hZ.1 dX13_usesOfAll_17 rfl ?_)
  refine zg13_19 dX13_usesOfAll_18 zw4140 ?_
  refine rx_by (e_ald _ _) (s_iald (tt := 0) rfl dX13_usesOfAll_21 ?_)
  exact rx_by (e_lt2 _ _) (s_icmp_ge dX13_usesOfAll_22 (by decide) (kX13_usesOfAll_44 hZ) (s_none (pc := 25)))
noncomputable def fX13_usesOfAll : List Nat → rx_H → Option (Nat × rx_H) := rx_ent 2 bX13_usesOfAll_0
theorem met_X13_usesOfAll (hZ : zO b e D A X) : rx_Met (zV b e D A X) 0 yX13_usesOfAll mX13_usesOfAll fX13_usesOfAll := rx_entry hZ.1 (kX13_usesOfAll_0 hZ) (by decide +kernel) rfl (fun h => by cases h)
theorem zy_X13_usesOfAll : rx_Y (zV b e D A X) yX13_usesOfAll mX13_usesOfAll 0 := ⟨zw3506, zw431, by decide, by decide +kernel, by decide +kernel, by decide +kernel⟩
abbrev mX13_judgeAll : rx_M := (RX13, cX13_judgeAll, 1, none, false)
noncomputable def bX13_judgeAll_82 : rx_K := q_ld q_isR 0 (o_const 34359738352 (p_putf q_isI 13 91 (o_ret0)))
set_option maxRecDepth 20000 in
theorem kX13_judgeAll_82 (hZ : zO b e D A X) : rx_OK (zV b e D A X) mX13_judgeAll 1 82 bX13_judgeAll_82 := by
  unfold bX13_judgeAll_82
  refine rx_by (e_ldR _ _) (s_aload_n hZ.1 dX13_judgeAll_82 rfl ?_)
  refine s_bipush dX13_judgeAll_83 (by decide +kernel) ?_
  refine zp13_91 hZ.1 dX13_judgeAll_85 zw4212 ?_
  exact s_vret rfl dX13_judgeAll_88
noncomputable def bX13_judgeAll_78 : rx_K := q_ld q_isR 0 (o_callV 0 13 fX13_usesOfAll (bX13_judgeAll_82))
set_option maxRecDepth 20000 in
theorem kX13_judgeAll_78 (hZ : zO b e D A X) : rx_OK (zV b e D A X) mX13_judgeAll 1 78 bX13_judgeAll_78 := by
  unfold bX13_judgeAll_78
  refine rx_by (e_ldR _ _) (s_aload_n hZ.1 dX13_judgeAll_78 rfl ?_)
  refine s_callV hZ.1 (met_X13_usesOfAll hZ) (by decide) zy_X13_usesOfAll zcl13 zw3505 zw300 (Or.inl zw3503) dX13_judgeAll_79 ?_
  exact (kX13_judgeAll_82 hZ)
noncomputable def bX13_judgeAll_71 : rx_K := q_ld q_isR 0 (q_getf 13 20 (q_eq1 bX13_judgeAll_78 bX13_judgeAll_82))
set_option maxRecDepth 20000 in
theorem kX13_judgeAll_71 (hZ : zO b e D A X) : rx_OK (zV b e D A X) mX13_judgeAll 1 71 bX13_judgeAll_71 := by
  unfold bX13_judgeAll_71
  refine rx_by (e_ldR _ _) (s_aload_n hZ.1 dX13_judgeAll_71 rfl ?_)
  refine zg13_20 dX13_judgeAll_72 zw4141 ?_
  exact rx_by (e_eq1 _ _) (s_if_ne dX13_judgeAll_75 (by decide) (kX13_judgeAll_82 hZ) (kX13_judgeAll_78 hZ))
noncomputable def bX13_judgeAll_63 : rx_K := q_ld q_isR 0 (o_callV 0 13 fX13_constants (q_ld q_isR 0 (o_callV 0 13 fX13_bodies (bX13_judgeAll_71))))
set_option maxRecDepth 20000 in
theorem kX13_judgeAll_63 (hZ : zO b e D A X) : rx_OK (zV b e D A X) mX13_judgeAll 1 63 bX13_judgeAll_63 := by
  unfold bX13_judgeAll_63
  refine rx_by (e_ldR _ _) (s_aload_n hZ.1 dX13_judgeAll_63 rfl ?_)
  refine s_callV hZ.1 (met_X13_constants hZ) (by decide) zy_X13_constants zcl13 zw3331 zw259 (Or.inl zw3329) dX13_judgeAll_64 ?_
  refine rx_by (e_ldR _ _) (s_aload_n hZ.1 dX13_judgeAll_67 rfl ?_)
  refine s_callV hZ.1 (met_X13_bodies hZ) (by decide) zy_X13_bodies zcl13 zw3390 zw272 (Or.inl zw3388) dX13_judgeAll_68 ?_
  exact (kX13_judgeAll_71 hZ)
noncomputable def bX13_judgeAll_56 : rx_K := q_ld q_isR 0 (q_getf 13 20 (q_eq1 bX13_judgeAll_63 bX13_judgeAll_71))
set_option maxRecDepth 20000 in
theorem kX13_judgeAll_56 (hZ : zO b e D A X) : rx_OK (zV b e D A X) mX13_judgeAll 1 56 bX13_judgeAll_56 := by
  unfold bX13_judgeAll_56
  refine rx_by (e_ldR _ _) (s_aload_n hZ.1 dX13_judgeAll_56 rfl ?_)
  refine zg13_20 dX13_judgeAll_57 zw4141 ?_
  exact rx_by (e_eq1 _ _) (s_if_ne dX13_judgeAll_60 (by decide) (kX13_judgeAll_71 hZ) (kX13_judgeAll_63 hZ))
noncomputable def bX13_judgeAll_52 : rx_K := q_ld q_isR 0 (o_callV 0 13 fX13_lacking (bX13_judgeAll_56))
set_option maxRecDepth 20000 in
theorem kX13_judgeAll_52 (hZ : zO b e D A X) : rx_OK (zV b e D A X) mX13_judgeAll 1 52 bX13_judgeAll_52 := by
  unfold bX13_judgeAll_52
  refine rx_by (e_ldR _ _) (s_aload_n hZ.1 dX13_judgeAll_52 rfl ?_)
  refine s_callV hZ.1 (met_X13_lacking hZ) (by decide) zy_X13_lacking zcl13 zw3307 zw253 (Or.inl zw3305) dX13_judgeAll_53 ?_
  exact (kX13_judgeAll_56 hZ)
noncomputable def bX13_judgeAll_45 : rx_K := q_ld q_isR 0 (q_getf 13 20 (q_eq1 bX13_judgeAll_52 bX13_judgeAll_56))
set_option maxRecDepth 20000 in
theorem kX13_judgeAll_45 (hZ : zO b e D A X) : rx_OK (zV b e D A X) mX13_judgeAll 1 45 bX13_judgeAll_45 := by
  unfold bX13_judgeAll_45
  refine rx_by (e_ldR _ _) (s_aload_n hZ.1 dX13_judgeAll_45 rfl ?_)
  refine zg13_20 dX13_judgeAll_46 zw4141 ?_
  exact rx_by (e_eq1 _ _) (s_if_ne dX13_judgeAll_49 (by decide) (kX13_judgeAll_56 hZ) (kX13_judgeAll_52 hZ))
noncomputable def bX13_judgeAll_41 : rx_K := q_ld q_isR 0 (o_callV 0 13 fX13_makersAndBridges (bX13_judgeAll_45))
set_option maxRecDepth 20000 in
theorem kX13_judgeAll_41 (hZ : zO b e D A X) : rx_OK (zV b e D A X) mX13_judgeAll 1 41 bX13_judgeAll_41 := by
  unfold bX13_judgeAll_41
  refine rx_by (e_ldR _ _) (s_aload_n hZ.1 dX13_judgeAll_41 rfl ?_)
  refine s_callV hZ.1 (met_X13_makersAndBridges hZ) (by decide) zy_X13_makersAndBridges zcl13 zw3283 zw247 (Or.inl zw3281) dX13_judgeAll_42 ?_
  exact (kX13_judgeAll_45 hZ)
noncomputable def bX13_judgeAll_34 : rx_K := q_ld q_isR 0 (q_getf 13 20 (q_eq1 bX13_judgeAll_41 bX13_judgeAll_45))
set_option maxRecDepth 20000 in
theorem kX13_judgeAll_34 (hZ : zO b e D A X) : rx_OK (zV b e D A X) mX13_judgeAll 1 34 bX13_judgeAll_34 := by
  unfold bX13_judgeAll_34
  refine rx_by (e_ldR _ _) (s_aload_n hZ.1 dX13_judgeAll_34 rfl ?_)
  refine zg13_20 dX13_judgeAll_35 zw4141 ?_
  exact rx_by (e_eq1 _ _) (s_if_ne dX13_judgeAll_38 (by decide) (kX13_judgeAll_45 hZ) (kX13_judgeAll_41 hZ))
noncomputable def bX13_judgeAll_30 : rx_K := q_ld q_isR 0 (o_callV 0 13 fX13_againstAbove (bX13_judgeAll_34))
set_option maxRecDepth 20000 in
theorem kX13_judgeAll_30 (hZ : zO b e D A X) : rx_OK (zV b e D A X) mX13_judgeAll 1 30 bX13_judgeAll_30 := by
  unfold bX13_judgeAll_30
  refine rx_by (e_ldR _ _) (s_aload_n hZ.1 dX13_judgeAll_30 rfl ?_)
  refine s_callV hZ.1 (met_X13_againstAbove hZ) (by decide) zy_X13_againstAbove zcl13 zw3247 zw239 (Or.inl zw3245) dX13_judgeAll_31 ?_
  exact (kX13_judgeAll_34 hZ)
noncomputable def bX13_judgeAll_23 : rx_K := q_ld q_isR 0 (q_getf 13 20 (q_eq1 bX13_judgeAll_30 bX13_judgeAll_34))
set_option maxRecDepth 20000 in
theorem kX13_judgeAll_23 (hZ : zO b e D A X) : rx_OK (zV b e D A X) mX13_judgeAll 1 23 bX13_judgeAll_23 := by
  unfold bX13_judgeAll_23
  refine rx_by (e_ldR _ _) (s_aload_n hZ.1 dX13_judgeAll_23 rfl ?_)
  refine zg13_20 dX13_judgeAll_24 zw4141 ?_
  exact rx_by (e_eq1 _ _) (s_if_ne dX13_judgeAll_27 (by decide) (kX13_judgeAll_34 hZ) (kX13_judgeAll_30 hZ))
noncomputable def bX13_judgeAll_19 : rx_K := q_ld q_isR 0 (o_callV 0 13 fX13_membersOf (bX13_judgeAll_23))
set_option maxRecDepth 20000 in
theorem kX13_judgeAll_19 (hZ : zO b e D A X) : rx_OK (zV b e D A X) mX13_judgeAll 1 19 bX13_judgeAll_19 := by
  unfold bX13_judgeAll_19
  refine rx_by (e_ldR _ _) (s_aload_n hZ.1 dX13_judgeAll_19 rfl ?_)
  refine s_callV hZ.1 (met_X13_membersOf hZ) (by decide) zy_X13_membersOf zcl13 zw3224 zw234 (Or.inl zw3222) dX13_judgeAll_20 ?_
  exact (kX13_judgeAll_23 hZ)
noncomputable def bX13_judgeAll_0 : rx_K := q_ld q_isR 0 (q_ld q_isR 0 (q_getf 13 19 (p_putf q_isI 13 91 (q_ld q_isR 0 (o_callV 0 13 fX13_heads (q_ld q_isR 0 (q_getf 13 20 (q_eq1 bX13_judgeAll_19 bX13_judgeAll_23))))))))
set_option maxRecDepth 20000 in
theorem kX13_judgeAll_0 (hZ : zO b e D A X) : rx_OK (zV b e D A X) mX13_judgeAll 1 0 bX13_judgeAll_0 := by
  unfold bX13_judgeAll_0
  refine rx_by (e_ldR _ _) (s_aload_n hZ.1 dX13_judgeAll_0 rfl ?_)
  refine rx_by (e_ldR _ _) (s_aload_n hZ.1 dX13_judgeAll_1 rfl ?_)
  refine zg13_19 dX13_judgeAll_2 zw4140 ?_
  refine zp13_91 hZ.1 dX13_judgeAll_5 zw4212 ?_
  refine rx_by (e_ldR _ _) (s_aload_n hZ.1 dX13_judgeAll_8 rfl ?_)
  refine s_callV hZ.1 (met_X13_heads hZ) (by decide) zy_X13_heads zcl13 zw3166 zw223 (Or.inl zw3164) dX13_judgeAll_9 ?_
  refine rx_by (e_ldR _ _) (s_aload_n hZ.1 dX13_judgeAll_12 rfl ?_)
  refine zg13_20 dX13_judgeAll_13 zw4141 ?_
  exact rx_by (e_eq1 _ _) (s_if_ne dX13_judgeAll_16 (by decide) (kX13_judgeAll_23 hZ) (kX13_judgeAll_19 hZ))
noncomputable def fX13_judgeAll : List Nat → rx_H → Option (Nat × rx_H) := rx_ent 1 bX13_judgeAll_0
theorem met_X13_judgeAll (hZ : zO b e D A X) : rx_Met (zV b e D A X) 1 yX13_judgeAll mX13_judgeAll fX13_judgeAll := rx_entry hZ.1 (kX13_judgeAll_0 hZ) (by decide +kernel) rfl (fun h => by cases h)
theorem zy_X13_judgeAll : rx_Y (zV b e D A X) yX13_judgeAll mX13_judgeAll 0 := ⟨zw3163, zw431, by decide, by decide +kernel, by decide +kernel, by decide +kernel⟩
abbrev mX13_make : rx_M := (RX13, cX13_make, 3, (some .int), false)
noncomputable def bX13_make_207 : rx_K := o_const 8 (q_bi q_Fadd (p_putf q_isI 13 10 (q_ld q_isR 0 (q_getf 13 9 (q_ld q_isI 1 (q_ald 0 (o_const 8 (q_bi q_Fsub (o_ret1 rx_isI)))))))))
set_option maxRecDepth 20000 in
theorem kX13_make_207 (hZ : zO b e D A X) : rx_OK (zV b e D A X) mX13_make 2 207 bX13_make_207 := by
  unfold bX13_make_207
  refine s_iconst dX13_make_207 (by decide +kernel) ?_
  refine rx_by (e_add _) (s_iadd dX13_make_208 ?_)
  refine zp13_10 hZ.1 dX13_make_209 zw4131 ?_
  refine rx_by (e_ldR _ _) (s_aload_n hZ.1 dX13_make_212 rfl ?_)
  refine zg13_9 dX13_make_213 zw4130 ?_
  refine rx_by (e_ldI _ _) (s_iload_n hZ.1 dX13_make_216 rfl ?_)
  refine rx_by (e_ald _ _) (s_iald (tt := 0) rfl dX13_make_217 ?_)
  refine s_iconst dX13_make_218 (by decide +kernel) ?_
  refine rx_by (e_sub _) (s_isub dX13_make_219 ?_)
  exact s_iret hZ.1 rfl dX13_make_220
noncomputable def bX13_make_172 : rx_K := q_ld q_isR 0 (q_getf 13 8 (o_const 64 (q_ld q_isI 1 (q_bi q_Fmul (q_ld q_isR 0 (q_getf 13 9 (q_ld q_isI 1 (q_ald 0 (q_bi q_Fadd (q_ld q_isR 0 (q_getf 13 19 (p_ast 0 (fun v => v) q_isI (q_ld q_isR 0 (q_getf 13 9 (q_ld q_isI 1 (o_dup2 (q_ald 0 (o_const 8 (q_bi q_Fadd (p_ast 0 (fun v => v) q_isI (q_ld q_isR 0 (q_dup (q_getf 13 10 (bX13_make_207))))))))))))))))))))))))
set_option maxRecDepth 20000 in
theorem kX13_make_172 (hZ : zO b e D A X) : rx_OK (zV b e D A X) mX13_make 2 172 bX13_make_172 := by
  unfold bX13_make_172
  refine rx_by (e_ldR _ _) (s_aload_n hZ.1 dX13_make_172 rfl ?_)
  refine zg13_8 dX13_make_173 zw4129 ?_
  refine s_bipush dX13_make_176 (by decide +kernel) ?_
  refine rx_by (e_ldI _ _) (s_iload_n hZ.1 dX13_make_178 rfl ?_)
  refine rx_by (e_mul _) (s_imul dX13_make_179 ?_)
  refine rx_by (e_ldR _ _) (s_aload_n hZ.1 dX13_make_180 rfl ?_)
  refine zg13_9 dX13_make_181 zw4130 ?_
  refine rx_by (e_ldI _ _) (s_iload_n hZ.1 dX13_make_184 rfl ?_)
  refine rx_by (e_ald _ _) (s_iald (tt := 0) rfl dX13_make_185 ?_)
  refine rx_by (e_add _) (s_iadd dX13_make_186 ?_)
  refine rx_by (e_ldR _ _) (s_aload_n hZ.1 dX13_make_187 rfl ?_)
  refine zg13_19 dX13_make_188 zw4140 ?_
  refine rx_by2 (l_astI _ _ _) (s_iast hZ.1 (tt := 0) rfl dX13_make_191 ?_)
  refine rx_by (e_ldR _ _) (s_aload_n hZ.1 dX13_make_192 rfl ?_)
  refine zg13_9 dX13_make_193 zw4130 ?_
  refine rx_by (e_ldI _ _) (s_iload_n hZ.1 dX13_make_196 rfl ?_)
  refine s_dup2 hZ.1 dX13_make_197 ?_
  refine rx_by (e_ald _ _) (s_iald (tt := 0) rfl dX13_make_198 ?_)
  refine s_iconst dX13_make_199 (by decide +kernel) ?_
  refine rx_by (e_add _) (s_iadd dX13_make_200 ?_)
  refine rx_by2 (l_astI _ _ _) (s_iast hZ.1 (tt := 0) rfl dX13_make_201 ?_)
  refine rx_by (e_ldR _ _) (s_aload_n hZ.1 dX13_make_202 rfl ?_)
  refine rx_by (e_dup _) (s_dup hZ.1 dX13_make_203 ?_)
  refine zg13_10 dX13_make_204 zw4131 ?_
  exact (kX13_make_207 hZ)
noncomputable def bX13_make_154 : rx_K := p_putf q_isI 13 128 (q_ld q_isR 0 (q_getf 13 20 (q_eq1 bX13_make_172 o_none)))
set_option maxRecDepth 20000 in
theorem kX13_make_154 (hZ : zO b e D A X) : rx_OK (zV b e D A X) mX13_make 2 154 bX13_make_154 := by
  unfold bX13_make_154
  refine zp13_128 hZ.1 dX13_make_154 zw4248 ?_
  refine rx_by (e_ldR _ _) (s_aload_n hZ.1 dX13_make_157 rfl ?_)
  refine zg13_20 dX13_make_158 zw4141 ?_
  exact rx_by (e_eq1 _ _) (s_if_eq dX13_make_161 (by decide) (kX13_make_172 hZ) (s_none (pc := 164)))
noncomputable def bX13_make_145 : rx_K := o_const 34359738352 (bX13_make_154)
set_option maxRecDepth 20000 in
theorem kX13_make_145 (hZ : zO b e D A X) : rx_OK (zV b e D A X) mX13_make 2 145 bX13_make_145 := by
  unfold bX13_make_145
  refine s_bipush dX13_make_145 (by decide +kernel) ?_
  exact s_goto dX13_make_147 (by decide) (kX13_make_154 hZ)
noncomputable def bX13_make_137 : rx_K := q_ld q_isR 0 (q_ld q_isR 0 (q_getf 13 20 (q_eq1 bX13_make_145 o_none)))
set_option maxRecDepth 20000 in
theorem kX13_make_137 (hZ : zO b e D A X) : rx_OK (zV b e D A X) mX13_make 2 137 bX13_make_137 := by
  unfold bX13_make_137
  refine rx_by (e_ldR _ _) (s_aload_n hZ.1 dX13_make_137 rfl ?_)
  refine rx_by (e_ldR _ _) (s_aload_n hZ.1 dX13_make_138 rfl ?_)
  refine zg13_20 dX13_make_139 zw4141 ?_
  exact rx_by (e_eq1 _ _) (s_if_ne dX13_make_142 (by decide) (s_none (pc := 150)) (kX13_make_145 hZ))
noncomputable def bX13_make_133 : rx_K := q_ld q_isR 0 (o_callV 0 13 fX13_judgeAll (bX13_make_137))
set_option maxRecDepth 20000 in
theorem kX13_make_133 (hZ : zO b e D A X) : rx_OK (zV b e D A X) mX13_make 2 133 bX13_make_133 := by
  unfold bX13_make_133
  refine rx_by (e_ldR _ _) (s_aload_n hZ.1 dX13_make_133 rfl ?_)
  refine s_callV hZ.1 (met_X13_judgeAll hZ) (by decide) zy_X13_judgeAll zcl13 zw3162 zw222 (Or.inl zw3160) dX13_make_134 ?_
  exact (kX13_make_137 hZ)
noncomputable def bX13_make_122 : rx_K := q_ld q_isR 0 (o_callV 0 13 fX13_parse (q_ld q_isR 0 (q_getf 13 20 (q_eq1 bX13_make_133 bX13_make_137))))
set_option maxRecDepth 20000 in
theorem kX13_make_122 (hZ : zO b e D A X) : rx_OK (zV b e D A X) mX13_make 2 122 bX13_make_122 := by
  unfold bX13_make_122
  refine rx_by (e_ldR _ _) (s_aload_n hZ.1 dX13_make_122 rfl ?_)
  refine s_callV hZ.1 (met_X13_parse hZ) (by decide) zy_X13_parse zcl13 zw2966 zw182 (Or.inl zw2964) dX13_make_123 ?_
  refine rx_by (e_ldR _ _) (s_aload_n hZ.1 dX13_make_126 rfl ?_)
  refine zg13_20 dX13_make_127 zw4141 ?_
  exact rx_by (e_eq1 _ _) (s_if_ne dX13_make_130 (by decide) (kX13_make_137 hZ) (kX13_make_133 hZ))
noncomputable def bX13_make_79 : rx_K := q_ld q_isR 0 (q_getf 13 6 (q_ld q_isR 0 (q_getf 13 19 (q_ld q_isR 0 (q_getf 13 1 (p_ast 0 (fun v => v) q_isI (q_ld q_isR 0 (q_getf 13 7 (q_ld q_isR 0 (q_getf 13 19 (q_ld q_isI 1 (p_ast 0 (fun v => v) q_isI (q_ld q_isR 0 (o_const 0 (p_putf q_isI 13 1 (q_ld q_isR 0 (o_const 0 (p_putf q_isI 13 20 (q_ld q_isR 0 (o_const 34359738352 (p_putf q_isI 13 21 (q_ld q_isR 0 (o_callV 0 13 fX13_tokenize (bX13_make_122))))))))))))))))))))))))
set_option maxRecDepth 20000 in
theorem kX13_make_79 (hZ : zO b e D A X) : rx_OK (zV b e D A X) mX13_make 2 79 bX13_make_79 := by
  unfold bX13_make_79
  refine rx_by (e_ldR _ _) (s_aload_n hZ.1 dX13_make_79 rfl ?_)
  refine zg13_6 dX13_make_80 zw4127 ?_
  refine rx_by (e_ldR _ _) (s_aload_n hZ.1 dX13_make_83 rfl ?_)
  refine zg13_19 dX13_make_84 zw4140 ?_
  refine rx_by (e_ldR _ _) (s_aload_n hZ.1 dX13_make_87 rfl ?_)
  refine zg13_1 dX13_make_88 zw4122 ?_
  refine rx_by2 (l_astI _ _ _) (s_iast hZ.1 (tt := 0) rfl dX13_make_91 ?_)
  refine rx_by (e_ldR _ _) (s_aload_n hZ.1 dX13_make_92 rfl ?_)
  refine zg13_7 dX13_make_93 zw4128 ?_
  refine rx_by (e_ldR _ _) (s_aload_n hZ.1 dX13_make_96 rfl ?_)
  refine zg13_19 dX13_make_97 zw4140 ?_
  refine rx_by (e_ldI _ _) (s_iload_n hZ.1 dX13_make_100 rfl ?_)
  refine rx_by2 (l_astI _ _ _) (s_iast hZ.1 (tt := 0) rfl dX13_make_101 ?_)
  refine rx_by (e_ldR _ _) (s_aload_n hZ.1 dX13_make_102 rfl ?_)
  refine s_iconst dX13_make_103 (by decide +kernel) ?_
  refine zp13_1 hZ.1 dX13_make_104 zw4122 ?_
  refine rx_by (e_ldR _ _) (s_aload_n hZ.1 dX13_make_107 rfl ?_)
  refine s_iconst dX13_make_108 (by decide +kernel) ?_
  refine zp13_20 hZ.1 dX13_make_109 zw4141 ?_
  refine rx_by (e_ldR _ _) (s_aload_n hZ.1 dX13_make_112 rfl ?_)
  refine s_bipush dX13_make_113 (by decide +kernel) ?_
  refine zp13_21 hZ.1 dX13_make_115 zw4142 ?_
  refine rx_by (e_ldR _ _) (s_aload_n hZ.1 dX13_make_118 rfl ?_)
  refine s_callV hZ.1 (met_X13_tokenize hZ) (by decide) zy_X13_tokenize zcl13 zw2936 zw177 (Or.inl zw2934) dX13_make_119 ?_
  exact (kX13_make_122 hZ)
noncomputable def bX13_make_33 : rx_K := q_ld q_isR 0 (q_ld q_isR 0 (q_getf 13 10 (p_putf q_isI 13 19 (o_const 0 (q_st q_isI 2 (q_ld q_isI 2 (q_ld q_isR 0 (q_getf 13 1 (q_lt2 o_none bX13_make_79)))))))))
set_option maxRecDepth 20000 in
theorem kX13_make_33 (hZ : zO b e D A X) : rx_OK (zV b e D A X) mX13_make 2 33 bX13_make_33 := by
  unfold bX13_make_33
  refine rx_by (e_ldR _ _) (s_aload_n hZ.1 dX13_make_33 rfl ?_)
  refine rx_by (e_ldR _ _) (s_aload_n hZ.1 dX13_make_34 rfl ?_)
  refine zg13_10 dX13_make_35 zw4131 ?_
  refine zp13_19 hZ.1 dX13_make_38 zw4140 ?_
  refine s_iconst dX13_make_41 (by decide +kernel) ?_
  refine rx_by (e_stI _ _) (s_istore_n hZ.1 dX13_make_42 rfl (Nat.le_of_ble_eq_true rfl) ?_)
  refine rx_by (e_ldI _ _) (s_iload_n hZ.1 dX13_make_43 rfl ?_)
  refine rx_by (e_ldR _ _) (s_aload_n hZ.1 dX13_make_44 rfl ?_)
  refine zg13_1 dX13_make_45 zw4122 ?_
  exact rx_by (e_lt2 _ _) (s_icmp_ge dX13_make_48 (by decide) (kX13_make_79 hZ) (s_none (pc := 51)))
noncomputable def bX13_make_21 : rx_K := q_ld q_isR 0 (q_getf 13 10 (o_const 128 (q_eq2 o_none bX13_make_33)))
set_option maxRecDepth 20000 in
theorem kX13_make_21 (hZ : zO b e D A X) : rx_OK (zV b e D A X) mX13_make 2 21 bX13_make_21 := by
  unfold bX13_make_21
  refine rx_by (e_ldR _ _) (s_aload_n hZ.1 dX13_make_21 rfl ?_)
  refine zg13_10 dX13_make_22 zw4131 ?_
  refine s_bipush dX13_make_25 (by decide +kernel) ?_
  exact rx_by (e_eq2 _ _) (s_icmp_ne dX13_make_27 (by decide) (kX13_make_33 hZ) (s_none (pc := 30)))
noncomputable def bX13_make_10 : rx_K := q_ld q_isR 0 (q_getf 13 9 (q_ld q_isI 1 (q_ald 0 (o_const 64 (q_eq2 o_none bX13_make_21)))))
set_option maxRecDepth 20000 in
theorem kX13_make_10 (hZ : zO b e D A X) : rx_OK (zV b e D A X) mX13_make 2 10 bX13_make_10 := by
  unfold bX13_make_10
  refine rx_by (e_ldR _ _) (s_aload_n hZ.1 dX13_make_10 rfl ?_)
  refine zg13_9 dX13_make_11 zw4130 ?_
  refine rx_by (e_ldI _ _) (s_iload_n hZ.1 dX13_make_14 rfl ?_)
  refine rx_by (e_ald _ _) (s_iald (tt := 0) rfl dX13_make_15 ?_)
  refine s_bipush dX13_make_16 (by decide +kernel) ?_
  exact rx_by (e_eq2 _ _) (s_icmp_eq dX13_make_18 (by decide) (s_none (pc := 30)) (kX13_make_21 hZ))
noncomputable def bX13_make_8 : rx_K := o_const 34359738360 (o_ret1 rx_isI)
set_option maxRecDepth 20000 in
theorem kX13_make_8 (hZ : zO b e D A X) : rx_OK (zV b e D A X) mX13_make 2 8 bX13_make_8 := by
  unfold bX13_make_8
  refine s_iconst dX13_make_8 (by decide +kernel) ?_
  exact s_iret hZ.1 rfl dX13_make_9
noncomputable def bX13_make_0 : rx_K := q_ld q_isR 0 (q_ld q_isI 1 (o_callV 1 13 fX13_isLib (q_eq1 bX13_make_8 bX13_make_10)))
set_option maxRecDepth 20000 in
theorem kX13_make_0 (hZ : zO b e D A X) : rx_OK (zV b e D A X) mX13_make 2 0 bX13_make_0 := by
  unfold bX13_make_0
  refine rx_by (e_ldR _ _) (s_aload_n hZ.1 dX13_make_0 rfl ?_)
  refine rx_by (e_ldI _ _) (s_iload_n hZ.1 dX13_make_1 rfl ?_)
  refine s_callV hZ.1 (met_X13_isLib hZ) (by decide) zy_X13_isLib zcl13 zw2932 zw176 (Or.inl zw2930) dX13_make_2 ?_
  exact rx_by (e_eq1 _ _) (s_if_ne dX13_make_5 (by decide) (kX13_make_10 hZ) (kX13_make_8 hZ))
noncomputable def fX13_make : List Nat → rx_H → Option (Nat × rx_H) := rx_ent 3 bX13_make_0
theorem met_X13_make (hZ : zO b e D A X) : rx_Met (zV b e D A X) 2 yX13_make mX13_make fX13_make := rx_entry hZ.1 (kX13_make_0 hZ) (by decide +kernel) rfl (fun h => by cases h)
theorem zy_X13_make : rx_Y (zV b e D A X) yX13_make mX13_make 1 := ⟨zw2929, zw431, by decide, by decide +kernel, by decide +kernel, by decide +kernel⟩
abbrev mX12_place : rx_M := (RX12, cX12_place, 1, (some .int), false)
noncomputable def bX12_place_0 : rx_K := q_ld q_isR 0 (q_getf 12 12 (o_ret1 rx_isI))
set_option maxRecDepth 20000 in
theorem kX12_place_0 (hZ : zO b e D A X) : rx_OK (zV b e D A X) mX12_place 0 0 bX12_place_0 := by
  unfold bX12_place_0
  refine rx_by (e_ldR _ _) (s_aload_n hZ.1 dX12_place_0 rfl ?_)
  refine zg12_12 dX12_place_1 zw1615 ?_
  exact s_iret hZ.1 rfl dX12_place_4
noncomputable def fX12_place : List Nat → rx_H → Option (Nat × rx_H) := rx_ent 1 bX12_place_0
theorem met_X12_place (hZ : zO b e D A X) : rx_Met (zV b e D A X) 0 yX12_place mX12_place fX12_place := rx_entry hZ.1 (kX12_place_0 hZ) (by decide +kernel) rfl (fun h => by cases h)
theorem zy_X12_place : rx_Y (zV b e D A X) yX12_place mX12_place 0 := ⟨zw2343, zw413, by decide, by decide +kernel, by decide +kernel, by decide +kernel⟩
abbrev mX13_place : rx_M := (RX13, cX13_place, 1, (some .int), false)
noncomputable def bX13_place_0 : rx_K := q_ld q_isR 0 (q_getf 13 128 (o_ret1 rx_isI))
set_option maxRecDepth 20000 in
theorem kX13_place_0 (hZ : zO b e D A X) : rx_OK (zV b e D A X) mX13_place 0 0 bX13_place_0 := by
  unfold bX13_place_0
  refine rx_by (e_ldR _ _) (s_aload_n hZ.1 dX13_place_0 rfl ?_)
  refine zg13_128 dX13_place_1 zw4248 ?_
  exact s_iret hZ.1 rfl dX13_place_4
noncomputable def fX13_place : List Nat → rx_H → Option (Nat × rx_H) := rx_ent 1 bX13_place_0
theorem met_X13_place (hZ : zO b e D A X) : rx_Met (zV b e D A X) 0 yX13_place mX13_place fX13_place := rx_entry hZ.1 (kX13_place_0 hZ) (by decide +kernel) rfl (fun h => by cases h)
theorem zy_X13_place : rx_Y (zV b e D A X) yX13_place mX13_place 0 := ⟨zw3574, zw431, by decide, by decide +kernel, by decide +kernel, by decide +kernel⟩
abbrev mX12_builds : rx_M := (RX12, cX12_builds, 2, (some .int), false)
noncomputable def bX12_builds_17 : rx_K := o_ret1 rx_isI
set_option maxRecDepth 20000 in
theorem kX12_builds_17 (hZ : zO b e D A X) : rx_OK (zV b e D A X) mX12_builds 1 17 bX12_builds_17 := by
  unfold bX12_builds_17
  exact s_iret hZ.1 rfl dX12_builds_17
noncomputable def bX12_builds_16 : rx_K := o_const 34359738360 (bX12_builds_17)
set_option maxRecDepth 20000 in
theorem kX12_builds_16 (hZ : zO b e D A X) : rx_OK (zV b e D A X) mX12_builds 1 16 bX12_builds_16 := by
  unfold bX12_builds_16
  refine s_iconst dX12_builds_16 (by decide +kernel) ?_
  exact (kX12_builds_17 hZ)
noncomputable def bX12_builds_7 : rx_K := q_ld q_isR 0 (q_getf 12 5 (q_ld q_isI 1 (q_ald 0 (bX12_builds_17))))
set_option maxRecDepth 20000 in
theorem kX12_builds_7 (hZ : zO b e D A X) : rx_OK (zV b e D A X) mX12_builds 1 7 bX12_builds_7 := by
  unfold bX12_builds_7
  refine rx_by (e_ldR _ _) (s_aload_n hZ.1 dX12_builds_7 rfl ?_)
  refine zg12_5 dX12_builds_8 zw1608 ?_
  refine rx_by (e_ldI _ _) (s_iload_n hZ.1 dX12_builds_11 rfl ?_)
  refine rx_by (e_ald _ _) (s_iald (tt := 0) rfl dX12_builds_12 ?_)
  exact s_goto dX12_builds_13 (by decide) (kX12_builds_17 hZ)
noncomputable def bX12_builds_0 : rx_K := q_ld q_isI 1 (o_callS 1 fX12_isLibrary (q_eq1 bX12_builds_16 bX12_builds_7))
set_option maxRecDepth 20000 in
theorem kX12_builds_0 (hZ : zO b e D A X) : rx_OK (zV b e D A X) mX12_builds 1 0 bX12_builds_0 := by
  unfold bX12_builds_0
  refine rx_by (e_ldI _ _) (s_iload_n hZ.1 dX12_builds_0 rfl ?_)
  refine s_callS hZ.1 (met_X12_isLibrary hZ) (by decide) zy_X12_isLibrary zw1710 (Or.inl zw1709) dX12_builds_1 ?_
  exact rx_by (e_eq1 _ _) (s_if_eq dX12_builds_4 (by decide) (kX12_builds_16 hZ) (kX12_builds_7 hZ))
noncomputable def fX12_builds : List Nat → rx_H → Option (Nat × rx_H) := rx_ent 2 bX12_builds_0
theorem met_X12_builds (hZ : zO b e D A X) : rx_Met (zV b e D A X) 1 yX12_builds mX12_builds fX12_builds := rx_entry hZ.1 (kX12_builds_0 hZ) (by decide +kernel) rfl (fun h => by cases h)
theorem zy_X12_builds : rx_Y (zV b e D A X) yX12_builds mX12_builds 1 := ⟨zw2347, zw413, by decide, by decide +kernel, by decide +kernel, by decide +kernel⟩
abbrev mX13_builds : rx_M := (RX13, cX13_builds, 2, (some .int), false)
noncomputable def bX13_builds_18 : rx_K := o_ret1 rx_isI
set_option maxRecDepth 20000 in
theorem kX13_builds_18 (hZ : zO b e D A X) : rx_OK (zV b e D A X) mX13_builds 1 18 bX13_builds_18 := by
  unfold bX13_builds_18
  exact s_iret hZ.1 rfl dX13_builds_18
noncomputable def bX13_builds_17 : rx_K := o_const 34359738360 (bX13_builds_18)
set_option maxRecDepth 20000 in
theorem kX13_builds_17 (hZ : zO b e D A X) : rx_OK (zV b e D A X) mX13_builds 1 17 bX13_builds_17 := by
  unfold bX13_builds_17
  refine s_iconst dX13_builds_17 (by decide +kernel) ?_
  exact (kX13_builds_18 hZ)
noncomputable def bX13_builds_8 : rx_K := q_ld q_isR 0 (q_getf 13 9 (q_ld q_isI 1 (q_ald 0 (bX13_builds_18))))
set_option maxRecDepth 20000 in
theorem kX13_builds_8 (hZ : zO b e D A X) : rx_OK (zV b e D A X) mX13_builds 1 8 bX13_builds_8 := by
  unfold bX13_builds_8
  refine rx_by (e_ldR _ _) (s_aload_n hZ.1 dX13_builds_8 rfl ?_)
  refine zg13_9 dX13_builds_9 zw4130 ?_
  refine rx_by (e_ldI _ _) (s_iload_n hZ.1 dX13_builds_12 rfl ?_)
  refine rx_by (e_ald _ _) (s_iald (tt := 0) rfl dX13_builds_13 ?_)
  exact s_goto dX13_builds_14 (by decide) (kX13_builds_18 hZ)
noncomputable def bX13_builds_0 : rx_K := q_ld q_isR 0 (q_ld q_isI 1 (o_callV 1 13 fX13_isLib (q_eq1 bX13_builds_17 bX13_builds_8)))
set_option maxRecDepth 20000 in
theorem kX13_builds_0 (hZ : zO b e D A X) : rx_OK (zV b e D A X) mX13_builds 1 0 bX13_builds_0 := by
  unfold bX13_builds_0
  refine rx_by (e_ldR _ _) (s_aload_n hZ.1 dX13_builds_0 rfl ?_)
  refine rx_by (e_ldI _ _) (s_iload_n hZ.1 dX13_builds_1 rfl ?_)
  refine s_callV hZ.1 (met_X13_isLib hZ) (by decide) zy_X13_isLib zcl13 zw2932 zw176 (Or.inl zw2930) dX13_builds_2 ?_
  exact rx_by (e_eq1 _ _) (s_if_eq dX13_builds_5 (by decide) (kX13_builds_17 hZ) (kX13_builds_8 hZ))
noncomputable def fX13_builds : List Nat → rx_H → Option (Nat × rx_H) := rx_ent 2 bX13_builds_0
theorem met_X13_builds (hZ : zO b e D A X) : rx_Met (zV b e D A X) 1 yX13_builds mX13_builds fX13_builds := rx_entry hZ.1 (kX13_builds_0 hZ) (by decide +kernel) rfl (fun h => by cases h)
theorem zy_X13_builds : rx_Y (zV b e D A X) yX13_builds mX13_builds 1 := ⟨zw3578, zw431, by decide, by decide +kernel, by decide +kernel, by decide +kernel⟩
abbrev mX12_renewWorld : rx_M := (RX12, cX12_renewWorld, 1, none, false)
noncomputable def bX12_renewWorld_0 : rx_K := q_ld q_isR 0 (q_ld q_isR 0 (q_getf 12 13 (q_ld q_isR 0 (q_getf 12 6 (o_callV 2 12 fX12_gather (q_ld q_isR 0 (q_getf 12 20 (q_ld q_isR 0 (q_getf 12 13 (o_callV 1 6 fX6_clear (q_ld q_isR 0 (o_const 0 (p_putf q_isI 12 18 (o_ret0))))))))))))))
set_option maxRecDepth 20000 in
theorem kX12_renewWorld_0 (hZ : zO b e D A X) : rx_OK (zV b e D A X) mX12_renewWorld 3 0 bX12_renewWorld_0 := by
  unfold bX12_renewWorld_0
  refine rx_by (e_ldR _ _) (s_aload_n hZ.1 dX12_renewWorld_0 rfl ?_)
  refine rx_by (e_ldR _ _) (s_aload_n hZ.1 dX12_renewWorld_1 rfl ?_)
  refine zg12_13 dX12_renewWorld_2 zw1616 ?_
  refine rx_by (e_ldR _ _) (s_aload_n hZ.1 dX12_renewWorld_5 rfl ?_)
  refine zg12_6 dX12_renewWorld_6 zw1609 ?_
  refine s_callV hZ.1 (met_X12_gather hZ) (by decide) zy_X12_gather zcl12 zw1551 zw0 (Or.inl zw1549) dX12_renewWorld_9 ?_
  refine rx_by (e_ldR _ _) (s_aload_n hZ.1 dX12_renewWorld_12 rfl ?_)
  refine zg12_20 dX12_renewWorld_13 zw1623 ?_
  refine rx_by (e_ldR _ _) (s_aload_n hZ.1 dX12_renewWorld_16 rfl ?_)
  refine zg12_13 dX12_renewWorld_17 zw1616 ?_
  refine s_callV hZ.1 (met_X6_clear hZ) (by decide) zy_X6_clear zcl6 zw1594 zw1595 (Or.inl zw1593) dX12_renewWorld_20 ?_
  refine rx_by (e_ldR _ _) (s_aload_n hZ.1 dX12_renewWorld_23 rfl ?_)
  refine s_iconst dX12_renewWorld_24 (by decide +kernel) ?_
  refine zp12_18 hZ.1 dX12_renewWorld_25 zw1621 ?_
  exact s_vret rfl dX12_renewWorld_28
noncomputable def fX12_renewWorld : List Nat → rx_H → Option (Nat × rx_H) := rx_ent 1 bX12_renewWorld_0
theorem met_X12_renewWorld (hZ : zO b e D A X) : rx_Met (zV b e D A X) 3 yX12_renewWorld mX12_renewWorld fX12_renewWorld := rx_entry hZ.1 (kX12_renewWorld_0 hZ) (by decide +kernel) rfl (fun h => by cases h)
theorem zy_X12_renewWorld : rx_Y (zV b e D A X) yX12_renewWorld mX12_renewWorld 0 := ⟨zw2355, zw413, by decide, by decide +kernel, by decide +kernel, by decide +kernel⟩
abbrev mX12_pick : rx_M := (RX12, cX12_pick, 4, (some .int), false)
noncomputable def bX12_pick_24 : rx_K := q_ld q_isR 0 (q_getf 12 6 (q_ld q_isI 1 (q_ald 0 (q_st q_isI 3 (q_ld q_isR 0 (q_getf 12 6 (q_ld q_isI 1 (q_ld q_isI 2 (p_ast 0 (fun v => v) q_isI (q_ld q_isR 0 (o_callV 0 12 fX12_renewWorld (q_ld q_isI 3 (o_ret1 rx_isI)))))))))))))
set_option maxRecDepth 20000 in
theorem kX12_pick_24 (hZ : zO b e D A X) : rx_OK (zV b e D A X) mX12_pick 4 24 bX12_pick_24 := by
  unfold bX12_pick_24
  refine rx_by (e_ldR _ _) (s_aload_n hZ.1 dX12_pick_24 rfl ?_)
  refine zg12_6 dX12_pick_25 zw1609 ?_
  refine rx_by (e_ldI _ _) (s_iload_n hZ.1 dX12_pick_28 rfl ?_)
  refine rx_by (e_ald _ _) (s_iald (tt := 0) rfl dX12_pick_29 ?_)
  refine rx_by (e_stI _ _) (s_istore_n hZ.1 dX12_pick_30 rfl (Nat.le_of_ble_eq_true rfl) ?_)
  refine rx_by (e_ldR _ _) (s_aload_n hZ.1 dX12_pick_31 rfl ?_)
  refine zg12_6 dX12_pick_32 zw1609 ?_
  refine rx_by (e_ldI _ _) (s_iload_n hZ.1 dX12_pick_35 rfl ?_)
  refine rx_by (e_ldI _ _) (s_iload_n hZ.1 dX12_pick_36 rfl ?_)
  refine rx_by2 (l_astI _ _ _) (s_iast hZ.1 (tt := 0) rfl dX12_pick_37 ?_)
  refine rx_by (e_ldR _ _) (s_aload_n hZ.1 dX12_pick_38 rfl ?_)
  refine s_callV hZ.1 (met_X12_renewWorld hZ) (by decide) zy_X12_renewWorld zcl12 zw2354 zw112 (Or.inl zw2352) dX12_pick_39 ?_
  refine rx_by (e_ldI _ _) (s_iload_n hZ.1 dX12_pick_42 rfl ?_)
  exact s_iret hZ.1 rfl dX12_pick_43
noncomputable def bX12_pick_22 : rx_K := o_const 34359738360 (o_ret1 rx_isI)
set_option maxRecDepth 20000 in
theorem kX12_pick_22 (hZ : zO b e D A X) : rx_OK (zV b e D A X) mX12_pick 4 22 bX12_pick_22 := by
  unfold bX12_pick_22
  refine s_iconst dX12_pick_22 (by decide +kernel) ?_
  exact s_iret hZ.1 rfl dX12_pick_23
noncomputable def bX12_pick_13 : rx_K := q_ld q_isR 0 (q_ld q_isI 1 (q_ld q_isI 2 (o_callV 2 12 fX12_buildOf (o_nul bX12_pick_22 bX12_pick_24))))
set_option maxRecDepth 20000 in
theorem kX12_pick_13 (hZ : zO b e D A X) : rx_OK (zV b e D A X) mX12_pick 4 13 bX12_pick_13 := by
  unfold bX12_pick_13
  refine rx_by (e_ldR _ _) (s_aload_n hZ.1 dX12_pick_13 rfl ?_)
  refine rx_by (e_ldI _ _) (s_iload_n hZ.1 dX12_pick_14 rfl ?_)
  refine rx_by (e_ldI _ _) (s_iload_n hZ.1 dX12_pick_15 rfl ?_)
  refine s_callV hZ.1 (met_X12_buildOf hZ) (by decide) zy_X12_buildOf zcl12 zw1559 zw1 (Or.inl zw1557) dX12_pick_16 ?_
  exact s_ifnonnull dX12_pick_19 (by decide) (kX12_pick_24 hZ) (kX12_pick_22 hZ)
noncomputable def bX12_pick_7 : rx_K := q_ld q_isI 2 (o_const 34359738352 (q_eq2 bX12_pick_24 bX12_pick_13))
set_option maxRecDepth 20000 in
theorem kX12_pick_7 (hZ : zO b e D A X) : rx_OK (zV b e D A X) mX12_pick 4 7 bX12_pick_7 := by
  unfold bX12_pick_7
  refine rx_by (e_ldI _ _) (s_iload_n hZ.1 dX12_pick_7 rfl ?_)
  refine s_bipush dX12_pick_8 (by decide +kernel) ?_
  exact rx_by (e_eq2 _ _) (s_icmp_eq dX12_pick_10 (by decide) (kX12_pick_24 hZ) (kX12_pick_13 hZ))
noncomputable def bX12_pick_0 : rx_K := q_ld q_isI 1 (o_callS 1 fX12_isLibrary (q_eq1 bX12_pick_22 bX12_pick_7))
set_option maxRecDepth 20000 in
theorem kX12_pick_0 (hZ : zO b e D A X) : rx_OK (zV b e D A X) mX12_pick 4 0 bX12_pick_0 := by
  unfold bX12_pick_0
  refine rx_by (e_ldI _ _) (s_iload_n hZ.1 dX12_pick_0 rfl ?_)
  refine s_callS hZ.1 (met_X12_isLibrary hZ) (by decide) zy_X12_isLibrary zw1710 (Or.inl zw1709) dX12_pick_1 ?_
  exact rx_by (e_eq1 _ _) (s_if_eq dX12_pick_4 (by decide) (kX12_pick_22 hZ) (kX12_pick_7 hZ))
noncomputable def fX12_pick : List Nat → rx_H → Option (Nat × rx_H) := rx_ent 4 bX12_pick_0
theorem met_X12_pick (hZ : zO b e D A X) : rx_Met (zV b e D A X) 4 yX12_pick mX12_pick fX12_pick := rx_entry hZ.1 (kX12_pick_0 hZ) (by decide +kernel) rfl (fun h => by cases h)
theorem zy_X12_pick : rx_Y (zV b e D A X) yX12_pick mX12_pick 2 := ⟨zw2351, zw413, by decide, by decide +kernel, by decide +kernel, by decide +kernel⟩
abbrev mX13_picked : rx_M := (RX13, cX13_picked, 2, (some .int), false)
noncomputable def bX13_picked_38 : rx_K := o_ret1 rx_isI
set_option maxRecDepth 20000 in
theorem kX13_picked_38 (hZ : zO b e D A X) : rx_OK (zV b e D A X) mX13_picked 1 38 bX13_picked_38 := by
  unfold bX13_picked_38
  exact s_iret hZ.1 rfl dX13_picked_38
noncomputable def bX13_picked_23 : rx_K := o_const 34359738352 (bX13_picked_38)
set_option maxRecDepth 20000 in
theorem kX13_picked_23 (hZ : zO b e D A X) : rx_OK (zV b e D A X) mX13_picked 1 23 bX13_picked_23 := by
  unfold bX13_picked_23
  refine s_bipush dX13_picked_23 (by decide +kernel) ?_
  exact s_goto dX13_picked_25 (by decide) (kX13_picked_38 hZ)
noncomputable def bX13_picked_12 : rx_K := q_ld q_isR 0 (q_getf 13 90 (q_ld q_isI 1 (q_ald 0 (o_const 34359738352 (q_eq2 bX13_picked_23 o_none)))))
set_option maxRecDepth 20000 in
theorem kX13_picked_12 (hZ : zO b e D A X) : rx_OK (zV b e D A X) mX13_picked 1 12 bX13_picked_12 := by
  unfold bX13_picked_12
  refine rx_by (e_ldR _ _) (s_aload_n hZ.1 dX13_picked_12 rfl ?_)
  refine zg13_90 dX13_picked_13 zw4211 ?_
  refine rx_by (e_ldI _ _) (s_iload_n hZ.1 dX13_picked_16 rfl ?_)
  refine rx_by (e_ald _ _) (s_iald (tt := 0) rfl dX13_picked_17 ?_)
  refine s_bipush dX13_picked_18 (by decide +kernel) ?_
  exact rx_by (e_eq2 _ _) (s_icmp_ne dX13_picked_20 (by decide) (s_none (pc := 28)) (kX13_picked_23 hZ))
noncomputable def bX13_picked_8 : rx_K := o_const 34359738360 (bX13_picked_38)
set_option maxRecDepth 20000 in
theorem kX13_picked_8 (hZ : zO b e D A X) : rx_OK (zV b e D A X) mX13_picked 1 8 bX13_picked_8 := by
  unfold bX13_picked_8
  refine s_iconst dX13_picked_8 (by decide +kernel) ?_
  exact s_goto dX13_picked_9 (by decide) (kX13_picked_38 hZ)
noncomputable def bX13_picked_0 : rx_K := q_ld q_isR 0 (q_ld q_isI 1 (o_callV 1 13 fX13_isLib (q_eq1 bX13_picked_8 bX13_picked_12)))
set_option maxRecDepth 20000 in
theorem kX13_picked_0 (hZ : zO b e D A X) : rx_OK (zV b e D A X) mX13_picked 1 0 bX13_picked_0 := by
  unfold bX13_picked_0
  refine rx_by (e_ldR _ _) (s_aload_n hZ.1 dX13_picked_0 rfl ?_)
  refine rx_by (e_ldI _ _) (s_iload_n hZ.1 dX13_picked_1 rfl ?_)
  refine s_callV hZ.1 (met_X13_isLib hZ) (by decide) zy_X13_isLib zcl13 zw2932 zw176 (Or.inl zw2930) dX13_picked_2 ?_
  exact rx_by (e_eq1 _ _) (s_if_ne dX13_picked_5 (by decide) (kX13_picked_12 hZ) (kX13_picked_8 hZ))
noncomputable def fX13_picked : List Nat → rx_H → Option (Nat × rx_H) := rx_ent 2 bX13_picked_0
theorem met_X13_picked (hZ : zO b e D A X) : rx_Met (zV b e D A X) 1 yX13_picked mX13_picked fX13_picked := rx_entry hZ.1 (kX13_picked_0 hZ) (by decide +kernel) rfl (fun h => by cases h)
theorem zy_X13_picked : rx_Y (zV b e D A X) yX13_picked mX13_picked 1 := ⟨zw3594, zw431, by decide, by decide +kernel, by decide +kernel, by decide +kernel⟩
abbrev mX13_pick : rx_M := (RX13, cX13_pick, 4, (some .int), false)
noncomputable def bX13_pick_55 : rx_K := p_ast 0 (fun v => v) q_isI (q_ld q_isR 0 (o_callV 0 13 fX13_settle (q_ld q_isI 3 (o_ret1 rx_isI))))
set_option maxRecDepth 20000 in
theorem kX13_pick_55 (hZ : zO b e D A X) : rx_OK (zV b e D A X) mX13_pick 3 55 bX13_pick_55 := by
  unfold bX13_pick_55
  refine rx_by2 (l_astI _ _ _) (s_iast hZ.1 (tt := 0) rfl dX13_pick_55 ?_)
  refine rx_by (e_ldR _ _) (s_aload_n hZ.1 dX13_pick_56 rfl ?_)
  refine s_callV hZ.1 (met_X13_settle hZ) (by decide) zy_X13_settle zcl13 zw3601 zw319 (Or.inl zw3599) dX13_pick_57 ?_
  refine rx_by (e_ldI _ _) (s_iload_n hZ.1 dX13_pick_60 rfl ?_)
  exact s_iret hZ.1 rfl dX13_pick_61
noncomputable def bX13_pick_44 : rx_K := o_const 34359738352 (bX13_pick_55)
set_option maxRecDepth 20000 in
theorem kX13_pick_44 (hZ : zO b e D A X) : rx_OK (zV b e D A X) mX13_pick 3 44 bX13_pick_44 := by
  unfold bX13_pick_44
  refine s_bipush dX13_pick_44 (by decide +kernel) ?_
  exact s_goto dX13_pick_46 (by decide) (kX13_pick_55 hZ)
noncomputable def bX13_pick_27 : rx_K := q_ld q_isR 0 (q_ld q_isI 1 (o_callV 1 13 fX13_picked (q_st q_isI 3 (q_ld q_isR 0 (q_getf 13 90 (q_ld q_isI 1 (q_ld q_isI 2 (o_const 34359738352 (q_eq2 bX13_pick_44 o_none)))))))))
set_option maxRecDepth 20000 in
theorem kX13_pick_27 (hZ : zO b e D A X) : rx_OK (zV b e D A X) mX13_pick 3 27 bX13_pick_27 := by
  unfold bX13_pick_27
  refine rx_by (e_ldR _ _) (s_aload_n hZ.1 dX13_pick_27 rfl ?_)
  refine rx_by (e_ldI _ _) (s_iload_n hZ.1 dX13_pick_28 rfl ?_)
  refine s_callV hZ.1 (met_X13_picked hZ) (by decide) zy_X13_picked zcl13 zw3592 zw3593 (Or.inl zw3591) dX13_pick_29 ?_
  refine rx_by (e_stI _ _) (s_istore_n hZ.1 dX13_pick_32 rfl (Nat.le_of_ble_eq_true rfl) ?_)
  refine rx_by (e_ldR _ _) (s_aload_n hZ.1 dX13_pick_33 rfl ?_)
  refine zg13_90 dX13_pick_34 zw4211 ?_
  refine rx_by (e_ldI _ _) (s_iload_n hZ.1 dX13_pick_37 rfl ?_)
  refine rx_by (e_ldI _ _) (s_iload_n hZ.1 dX13_pick_38 rfl ?_)
  refine s_bipush dX13_pick_39 (by decide +kernel) ?_
  exact rx_by (e_eq2 _ _) (s_icmp_ne dX13_pick_41 (by decide) (s_none (pc := 49)) (kX13_pick_44 hZ))
noncomputable def bX13_pick_25 : rx_K := o_const 34359738360 (o_ret1 rx_isI)
set_option maxRecDepth 20000 in
theorem kX13_pick_25 (hZ : zO b e D A X) : rx_OK (zV b e D A X) mX13_pick 3 25 bX13_pick_25 := by
  unfold bX13_pick_25
  refine s_iconst dX13_pick_25 (by decide +kernel) ?_
  exact s_iret hZ.1 rfl dX13_pick_26
noncomputable def bX13_pick_14 : rx_K := q_ld q_isR 0 (q_ld q_isI 1 (q_ld q_isI 2 (o_callV 2 13 fX13_slotAt (o_const 34359738352 (q_eq2 bX13_pick_25 bX13_pick_27)))))
set_option maxRecDepth 20000 in
theorem kX13_pick_14 (hZ : zO b e D A X) : rx_OK (zV b e D A X) mX13_pick 3 14 bX13_pick_14 := by
  unfold bX13_pick_14
  refine rx_by (e_ldR _ _) (s_aload_n hZ.1 dX13_pick_14 rfl ?_)
  refine rx_by (e_ldI _ _) (s_iload_n hZ.1 dX13_pick_15 rfl ?_)
  refine rx_by (e_ldI _ _) (s_iload_n hZ.1 dX13_pick_16 rfl ?_)
  refine s_callV hZ.1 (met_X13_slotAt hZ) (by decide) zy_X13_slotAt zcl13 zw3585 zw317 (Or.inl zw3583) dX13_pick_17 ?_
  refine s_bipush dX13_pick_20 (by decide +kernel) ?_
  exact rx_by (e_eq2 _ _) (s_icmp_ne dX13_pick_22 (by decide) (kX13_pick_27 hZ) (kX13_pick_25 hZ))
noncomputable def bX13_pick_8 : rx_K := q_ld q_isI 2 (o_const 34359738352 (q_eq2 bX13_pick_27 bX13_pick_14))
set_option maxRecDepth 20000 in
theorem kX13_pick_8 (hZ : zO b e D A X) : rx_OK (zV b e D A X) mX13_pick 3 8 bX13_pick_8 := by
  unfold bX13_pick_8
  refine rx_by (e_ldI _ _) (s_iload_n hZ.1 dX13_pick_8 rfl ?_)
  refine s_bipush dX13_pick_9 (by decide +kernel) ?_
  exact rx_by (e_eq2 _ _) (s_icmp_eq dX13_pick_11 (by decide) (kX13_pick_27 hZ) (kX13_pick_14 hZ))
noncomputable def bX13_pick_0 : rx_K := q_ld q_isR 0 (q_ld q_isI 1 (o_callV 1 13 fX13_isLib (q_eq1 bX13_pick_25 bX13_pick_8)))
set_option maxRecDepth 20000 in
theorem kX13_pick_0 (hZ : zO b e D A X) : rx_OK (zV b e D A X) mX13_pick 3 0 bX13_pick_0 := by
  unfold bX13_pick_0
  refine rx_by (e_ldR _ _) (s_aload_n hZ.1 dX13_pick_0 rfl ?_)
  refine rx_by (e_ldI _ _) (s_iload_n hZ.1 dX13_pick_1 rfl ?_)
  refine s_callV hZ.1 (met_X13_isLib hZ) (by decide) zy_X13_isLib zcl13 zw2932 zw176 (Or.inl zw2930) dX13_pick_2 ?_
  exact rx_by (e_eq1 _ _) (s_if_eq dX13_pick_5 (by decide) (kX13_pick_25 hZ) (kX13_pick_8 hZ))
noncomputable def fX13_pick : List Nat → rx_H → Option (Nat × rx_H) := rx_ent 4 bX13_pick_0
theorem met_X13_pick (hZ : zO b e D A X) : rx_Met (zV b e D A X) 3 yX13_pick mX13_pick fX13_pick := rx_entry hZ.1 (kX13_pick_0 hZ) (by decide +kernel) rfl (fun h => by cases h)
theorem zy_X13_pick : rx_Y (zV b e D A X) yX13_pick mX13_pick 2 := ⟨zw3590, zw431, by decide, by decide +kernel, by decide +kernel, by decide +kernel⟩
end ZM8

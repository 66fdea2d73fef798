section ZM11
variable {b : Nat} {e : Nat → Value} {D : va_G} {A : Nat → ClassId} {X : State → Prop}
abbrev mX12_touch : rx_M := (RX12, cX12_touch, 5, (some .int), false)
noncomputable def bX12_touch_13 : rx_K := o_const 34359738360 (o_ret1 rx_isI)
set_option maxRecDepth 20000 in
theorem kX12_touch_13 (hZ : zO b e D A X) : rx_OK (zV b e D A X) mX12_touch 2 13 bX12_touch_13 := by
  unfold bX12_touch_13
  refine s_iconst dX12_touch_13 (by decide +kernel) ?_
  exact s_iret hZ.1 rfl dX12_touch_14
noncomputable def bX12_touch_0 : rx_K := q_ld q_isR 0 (q_ld q_isI 1 (q_ld q_isI 2 (o_callV 2 12 fX12_buildOf (q_ld q_isI 3 (o_callS 2 fX12_hasUse (q_eq1 bX12_touch_13 o_none))))))
set_option maxRecDepth 20000 in
theorem kX12_touch_0 (hZ : zO b e D A X) : rx_OK (zV b e D A X) mX12_touch 2 0 bX12_touch_0 := by
  unfold bX12_touch_0
  refine rx_by (e_ldR _ _) (s_aload_n hZ.1 dX12_touch_0 rfl ?_)
  refine rx_by (e_ldI _ _) (s_iload_n hZ.1 dX12_touch_1 rfl ?_)
  refine rx_by (e_ldI _ _) (s_iload_n hZ.1 dX12_touch_2 rfl ?_)
  refine s_callV hZ.1 (met_X12_buildOf hZ) (by decide) zy_X12_buildOf zcl12 zw1559 zw1 (Or.inl zw1557) dX12_touch_3 ?_
  refine rx_by (e_ldI _ _) (s_iload_n hZ.1 dX12_touch_6 rfl ?_)
  refine s_callS hZ.1 (met_X12_hasUse hZ) (by decide) zy_X12_hasUse zw2457 (Or.inl zw2456) dX12_touch_7 ?_
  exact rx_by (e_eq1 _ _) (s_if_ne dX12_touch_10 (by decide) (s_none (pc := 15)) (kX12_touch_13 hZ))
noncomputable def fX12_touch : List Nat → rx_H → Option (Nat × rx_H) := rx_ent 5 bX12_touch_0
theorem met_X12_touch (hZ : zO b e D A X) : rx_Met (zV b e D A X) 2 yX12_touch mX12_touch fX12_touch := rx_entry hZ.1 (kX12_touch_0 hZ) (by decide +kernel) rfl (fun h => by cases h)
theorem zy_X12_touch : rx_Y (zV b e D A X) yX12_touch mX12_touch 3 := ⟨zw2728, zw413, by decide, by decide +kernel, by decide +kernel, by decide +kernel⟩
abbrev mX13_touch : rx_M := (RX13, cX13_touch, 5, (some .int), false)
noncomputable def bX13_touch_41 : rx_K := o_ret1 rx_isI
set_option maxRecDepth 20000 in
theorem kX13_touch_41 (hZ : zO b e D A X) : rx_OK (zV b e D A X) mX13_touch 3 41 bX13_touch_41 := by
  unfold bX13_touch_41
  exact s_iret hZ.1 rfl dX13_touch_41
noncomputable def bX13_touch_16 : rx_K := o_const 34359738360 (bX13_touch_41)
set_option maxRecDepth 20000 in
theorem kX13_touch_16 (hZ : zO b e D A X) : rx_OK (zV b e D A X) mX13_touch 3 16 bX13_touch_16 := by
  unfold bX13_touch_16
  refine s_iconst dX13_touch_16 (by decide +kernel) ?_
  exact s_goto dX13_touch_17 (by decide) (kX13_touch_41 hZ)
noncomputable def bX13_touch_0 : rx_K := q_ld q_isR 0 (q_ld q_isI 1 (q_ld q_isI 2 (q_ld q_isI 3 (o_callV 3 13 fX13_useAt (q_st q_isI 4 (q_ld q_isI 4 (o_const 34359738352 (q_eq2 bX13_touch_16 o_none))))))))
set_option maxRecDepth 20000 in
theorem kX13_touch_0 (hZ : zO b e D A X) : rx_OK (zV b e D A X) mX13_touch 3 0 bX13_touch_0 := by
  unfold bX13_touch_0
  refine rx_by (e_ldR _ _) (s_aload_n hZ.1 dX13_touch_0 rfl ?_)
  refine rx_by (e_ldI _ _) (s_iload_n hZ.1 dX13_touch_1 rfl ?_)
  refine rx_by (e_ldI _ _) (s_iload_n hZ.1 dX13_touch_2 rfl ?_)
  refine rx_by (e_ldI _ _) (s_iload_n hZ.1 dX13_touch_3 rfl ?_)
  refine s_callV hZ.1 (met_X13_useAt hZ) (by decide) zy_X13_useAt zcl13 zw3700 zw333 (Or.inl zw3698) dX13_touch_4 ?_
  refine rx_by (e_stI _ _) (s_istore hZ.1 dX13_touch_7 (Nat.le_of_ble_eq_true rfl) ?_)
  refine rx_by (e_ldI _ _) (s_iload hZ.1 dX13_touch_9 ?_)
  refine s_bipush dX13_touch_11 (by decide +kernel) ?_
  exact rx_by (e_eq2 _ _) (s_icmp_ne dX13_touch_13 (by decide) (s_none (pc := 20)) (kX13_touch_16 hZ))
noncomputable def fX13_touch : List Nat → rx_H → Option (Nat × rx_H) := rx_ent 5 bX13_touch_0
theorem met_X13_touch (hZ : zO b e D A X) : rx_Met (zV b e D A X) 3 yX13_touch mX13_touch fX13_touch := rx_entry hZ.1 (kX13_touch_0 hZ) (by decide +kernel) rfl (fun h => by cases h)
theorem zy_X13_touch : rx_Y (zV b e D A X) yX13_touch mX13_touch 3 := ⟨zw3805, zw431, by decide, by decide +kernel, by decide +kernel, by decide +kernel⟩
abbrev mX9_isCall : rx_M := (RX9, cX9_isCall, 3, (some .boolean), false)
noncomputable def bX9_isCall_99 : rx_K := o_const 0 (o_ret1 rx_isZ)
set_option maxRecDepth 20000 in
theorem kX9_isCall_99 (hZ : zO b e D A X) : rx_OK (zV b e D A X) mX9_isCall 2 99 bX9_isCall_99 := by
  unfold bX9_isCall_99
  refine s_iconst dX9_isCall_99 (by decide +kernel) ?_
  exact s_zret rx_z_ok rfl dX9_isCall_100
noncomputable def bX9_isCall_0 : rx_K := q_ld q_isR 0 (q_ld q_isR 1 (q_ld q_isI 2 (o_callV 2 9 fX9_scanAll (q_ld q_isR 0 (q_getf 9 5 (o_const 24 (q_eq2 o_none bX9_isCall_99)))))))
set_option maxRecDepth 20000 in
theorem kX9_isCall_0 (hZ : zO b e D A X) : rx_OK (zV b e D A X) mX9_isCall 2 0 bX9_isCall_0 := by
  unfold bX9_isCall_0
  refine rx_by (e_ldR _ _) (s_aload_n hZ.1 dX9_isCall_0 rfl ?_)
  refine rx_by (e_ldR _ _) (s_aload_n hZ.1 dX9_isCall_1 rfl ?_)
  refine rx_by (e_ldI _ _) (s_iload_n hZ.1 dX9_isCall_2 rfl ?_)
  refine s_callV hZ.1 (met_X9_scanAll hZ) (by decide) zy_X9_scanAll zcl9 zw1726 zw8 (Or.inl zw1724) dX9_isCall_3 ?_
  refine rx_by (e_ldR _ _) (s_aload_n hZ.1 dX9_isCall_6 rfl ?_)
  refine zg9_5 dX9_isCall_7 zw589 ?_
  refine s_iconst dX9_isCall_10 (by decide +kernel) ?_
  exact rx_by (e_eq2 _ _) (s_icmp_ne dX9_isCall_11 (by decide) (kX9_isCall_99 hZ) (s_none (pc := 14)))
noncomputable def fX9_isCall : List Nat → rx_H → Option (Nat × rx_H) := rx_ent 3 bX9_isCall_0
theorem met_X9_isCall (hZ : zO b e D A X) : rx_Met (zV b e D A X) 2 yX9_isCall mX9_isCall fX9_isCall := rx_entry hZ.1 (kX9_isCall_0 hZ) (by decide +kernel) rfl (fun h => by cases h)
theorem zy_X9_isCall : rx_Y (zV b e D A X) yX9_isCall mX9_isCall 2 := ⟨zw2736, zw414, by decide, by decide +kernel, by decide +kernel, by decide +kernel⟩
abbrev mX12_run : rx_M := (RX12, cX12_run, 5, (some .int), false)
noncomputable def bX12_run_81 : rx_K := o_const 34359738352 (o_ret1 rx_isI)
set_option maxRecDepth 20000 in
theorem kX12_run_81 (hZ : zO b e D A X) : rx_OK (zV b e D A X) mX12_run 3 81 bX12_run_81 := by
  unfold bX12_run_81
  refine s_bipush dX12_run_81 (by decide +kernel) ?_
  exact s_iret hZ.1 rfl dX12_run_83
noncomputable def bX12_run_76 : rx_K := q_st q_isR 3 (q_ld q_isR 3 (o_nul bX12_run_81 o_none))
set_option maxRecDepth 20000 in
theorem kX12_run_76 (hZ : zO b e D A X) : rx_OK (zV b e D A X) mX12_run 3 76 bX12_run_76 := by
  unfold bX12_run_76
  refine rx_by (e_stR _ _) (s_astore_n hZ.1 dX12_run_76 rfl (Nat.le_of_ble_eq_true rfl) ?_)
  refine rx_by (e_ldR _ _) (s_aload_n hZ.1 dX12_run_77 rfl ?_)
  exact s_ifnonnull dX12_run_78 (by decide) (s_none (pc := 84)) (kX12_run_81 hZ)
noncomputable def bX12_run_51 : rx_K := o_const 3 (bX12_run_76)
set_option maxRecDepth 20000 in
theorem kX12_run_51 (hZ : zO b e D A X) : rx_OK (zV b e D A X) mX12_run 3 51 bX12_run_51 := by
  unfold bX12_run_51
  refine s_null dX12_run_51 ?_
  exact s_goto dX12_run_52 (by decide) (kX12_run_76 hZ)
noncomputable def bX12_run_44 : rx_K := o_const 34359738352 (q_st q_isI 2 (q_ld q_isI 2 (q_lt1 bX12_run_51 o_none)))
set_option maxRecDepth 20000 in
theorem kX12_run_44 (hZ : zO b e D A X) : rx_OK (zV b e D A X) mX12_run 3 44 bX12_run_44 := by
  unfold bX12_run_44
  refine s_bipush dX12_run_44 (by decide +kernel) ?_
  refine rx_by (e_stI _ _) (s_istore_n hZ.1 dX12_run_46 rfl (Nat.le_of_ble_eq_true rfl) ?_)
  refine rx_by (e_ldI _ _) (s_iload_n hZ.1 dX12_run_47 rfl ?_)
  exact rx_by (e_lt1 _ _) (s_if_ge dX12_run_48 (by decide) (s_none (pc := 55)) (kX12_run_51 hZ))
noncomputable def bX12_run_0 : rx_K := q_ld q_isR 0 (q_getf 12 8 (q_ld q_isR 0 (q_getf 12 0 (q_ld q_isR 0 (q_getf 12 1 (o_callV 2 9 fX9_isCall (q_st q_isI 1 (q_ld q_isR 0 (o_const 0 (p_putf q_isI 12 1 (q_ld q_isI 1 (q_eq1 bX12_run_44 o_none))))))))))))
set_option maxRecDepth 20000 in
theorem kX12_run_0 (hZ : zO b e D A X) : rx_OK (zV b e D A X) mX12_run 3 0 bX12_run_0 := by
  unfold bX12_run_0
  refine rx_by (e_ldR _ _) (s_aload_n hZ.1 dX12_run_0 rfl ?_)
  refine zg12_8 dX12_run_1 zw1611 ?_
  refine rx_by (e_ldR _ _) (s_aload_n hZ.1 dX12_run_4 rfl ?_)
  refine zg12_0 dX12_run_5 zw1603 ?_
  refine rx_by (e_ldR _ _) (s_aload_n hZ.1 dX12_run_8 rfl ?_)
  refine zg12_1 dX12_run_9 zw1604 ?_
  refine s_callV hZ.1 (met_X9_isCall hZ) (by decide) zy_X9_isCall zcl9 zw2734 zw2735 (Or.inl zw2733) dX12_run_12 ?_
  refine rx_by (e_stI _ _) (s_istore_n hZ.1 dX12_run_15 rfl (Nat.le_of_ble_eq_true rfl) ?_)
  refine rx_by (e_ldR _ _) (s_aload_n hZ.1 dX12_run_16 rfl ?_)
  refine s_iconst dX12_run_17 (by decide +kernel) ?_
  refine zp12_1 hZ.1 dX12_run_18 zw1604 ?_
  refine rx_by (e_ldI _ _) (s_iload_n hZ.1 dX12_run_21 rfl ?_)
  exact rx_by (e_eq1 _ _) (s_if_eq dX12_run_22 (by decide) (kX12_run_44 hZ) (s_none (pc := 25)))
noncomputable def fX12_run : List Nat → rx_H → Option (Nat × rx_H) := rx_ent 5 bX12_run_0
theorem met_X12_run (hZ : zO b e D A X) : rx_Met (zV b e D A X) 3 yX12_run mX12_run fX12_run := rx_entry hZ.1 (kX12_run_0 hZ) (by decide +kernel) rfl (fun h => by cases h)
theorem zy_X12_run : rx_Y (zV b e D A X) yX12_run mX12_run 0 := ⟨zw2732, zw413, by decide, by decide +kernel, by decide +kernel, by decide +kernel⟩
abbrev mX13_named : rx_M := (RX13, cX13_named, 10, (some .int), false)
noncomputable def bX13_named_47 : rx_K := o_const 34359738352 (o_ret1 rx_isI)
set_option maxRecDepth 20000 in
theorem kX13_named_47 (hZ : zO b e D A X) : rx_OK (zV b e D A X) mX13_named 0 47 bX13_named_47 := by
  unfold bX13_named_47
  refine s_bipush dX13_named_47 (by decide +kernel) ?_
  exact s_iret hZ.1 rfl dX13_named_49
noncomputable def bX13_named_0 : rx_K := o_const 0 (q_st q_isI 1 (o_const 0 (q_st q_isI 2 (q_ld q_isR 0 (q_getf 13 1 (o_const 40 (q_lt2 bX13_named_47 o_none)))))))
set_option maxRecDepth 20000 in
theorem kX13_named_0 (hZ : zO b e D A X) : rx_OK (zV b e D A X) mX13_named 0 0 bX13_named_0 := by
  unfold bX13_named_0
  refine s_iconst dX13_named_0 (by decide +kernel) ?_
  refine rx_by (e_stI _ _) (s_istore_n hZ.1 dX13_named_1 rfl (Nat.le_of_ble_eq_true rfl) ?_)
  refine s_iconst dX13_named_2 (by decide +kernel) ?_
  refine rx_by (e_stI _ _) (s_istore_n hZ.1 dX13_named_3 rfl (Nat.le_of_ble_eq_true rfl) ?_)
  refine rx_by (e_ldR _ _) (s_aload_n hZ.1 dX13_named_4 rfl ?_)
  refine zg13_1 dX13_named_5 zw4122 ?_
  refine s_iconst dX13_named_8 (by decide +kernel) ?_
  exact rx_by (e_lt2 _ _) (s_icmp_lt dX13_named_9 (by decide) (kX13_named_47 hZ) (s_none (pc := 12)))
noncomputable def fX13_named : List Nat → rx_H → Option (Nat × rx_H) := rx_ent 10 bX13_named_0
theorem met_X13_named (hZ : zO b e D A X) : rx_Met (zV b e D A X) 0 yX13_named mX13_named fX13_named := rx_entry hZ.1 (kX13_named_0 hZ) (by decide +kernel) rfl (fun h => by cases h)
theorem zy_X13_named : rx_Y (zV b e D A X) yX13_named mX13_named 0 := ⟨zw3813, zw431, by decide, by decide +kernel, by decide +kernel, by decide +kernel⟩
abbrev mX13_run : rx_M := (RX13, cX13_run, 3, (some .int), false)
noncomputable def bX13_run_16 : rx_K := o_const 34359738352 (o_ret1 rx_isI)
set_option maxRecDepth 20000 in
theorem kX13_run_16 (hZ : zO b e D A X) : rx_OK (zV b e D A X) mX13_run 1 16 bX13_run_16 := by
  unfold bX13_run_16
  refine s_bipush dX13_run_16 (by decide +kernel) ?_
  exact s_iret hZ.1 rfl dX13_run_18
noncomputable def bX13_run_0 : rx_K := q_ld q_isR 0 (o_callV 0 13 fX13_named (q_st q_isI 1 (q_ld q_isR 0 (o_const 0 (p_putf q_isI 13 1 (q_ld q_isI 1 (o_const 34359738352 (q_eq2 bX13_run_16 o_none))))))))
set_option maxRecDepth 20000 in
theorem kX13_run_0 (hZ : zO b e D A X) : rx_OK (zV b e D A X) mX13_run 1 0 bX13_run_0 := by
  unfold bX13_run_0
  refine rx_by (e_ldR _ _) (s_aload_n hZ.1 dX13_run_0 rfl ?_)
  refine s_callV hZ.1 (met_X13_named hZ) (by decide) zy_X13_named zcl13 zw3812 zw350 (Or.inl zw3810) dX13_run_1 ?_
  refine rx_by (e_stI _ _) (s_istore_n hZ.1 dX13_run_4 rfl (Nat.le_of_ble_eq_true rfl) ?_)
  refine rx_by (e_ldR _ _) (s_aload_n hZ.1 dX13_run_5 rfl ?_)
  refine s_iconst dX13_run_6 (by decide +kernel) ?_
  refine zp13_1 hZ.1 dX13_run_7 zw4122 ?_
  refine rx_by (e_ldI _ _) (s_iload_n hZ.1 dX13_run_10 rfl ?_)
  refine s_bipush dX13_run_11 (by decide +kernel) ?_
  exact rx_by (e_eq2 _ _) (s_icmp_ne dX13_run_13 (by decide) (s_none (pc := 19)) (kX13_run_16 hZ))
noncomputable def fX13_run : List Nat → rx_H → Option (Nat × rx_H) := rx_ent 3 bX13_run_0
theorem met_X13_run (hZ : zO b e D A X) : rx_Met (zV b e D A X) 1 yX13_run mX13_run fX13_run := rx_entry hZ.1 (kX13_run_0 hZ) (by decide +kernel) rfl (fun h => by cases h)
theorem zy_X13_run : rx_Y (zV b e D A X) yX13_run mX13_run 0 := ⟨zw3809, zw431, by decide, by decide +kernel, by decide +kernel, by decide +kernel⟩
abbrev mX12_value : rx_M := (RX12, cX12_value, 1, (some .int), false)
noncomputable def bX12_value_27 : rx_K := o_ret1 rx_isI
set_option maxRecDepth 20000 in
theorem kX12_value_27 (hZ : zO b e D A X) : rx_OK (zV b e D A X) mX12_value 0 27 bX12_value_27 := by
  unfold bX12_value_27
  exact s_iret hZ.1 rfl dX12_value_27
noncomputable def bX12_value_10 : rx_K := q_ld q_isR 0 (q_getf 12 20 (q_getf 6 19 (bX12_value_27)))
set_option maxRecDepth 20000 in
theorem kX12_value_10 (hZ : zO b e D A X) : rx_OK (zV b e D A X) mX12_value 0 10 bX12_value_10 := by
  unfold bX12_value_10
  refine rx_by (e_ldR _ _) (s_aload_n hZ.1 dX12_value_10 rfl ?_)
  refine zg12_20 dX12_value_11 zw1623 ?_
  refine zg6_19 dX12_value_14 zw1505 ?_
  exact s_goto dX12_value_17 (by decide) (kX12_value_27 hZ)
noncomputable def bX12_value_0 : rx_K := q_ld q_isR 0 (q_getf 12 20 (q_getf 6 18 (q_eq1 bX12_value_10 o_none)))
set_option maxRecDepth 20000 in
theorem kX12_value_0 (hZ : zO b e D A X) : rx_OK (zV b e D A X) mX12_value 0 0 bX12_value_0 := by
  unfold bX12_value_0
  refine rx_by (e_ldR _ _) (s_aload_n hZ.1 dX12_value_0 rfl ?_)
  refine zg12_20 dX12_value_1 zw1623 ?_
  refine zg6_18 dX12_value_4 zw1503 ?_
  exact rx_by (e_eq1 _ _) (s_if_ne dX12_value_7 (by decide) (s_none (pc := 20)) (kX12_value_10 hZ))
noncomputable def fX12_value : List Nat → rx_H → Option (Nat × rx_H) := rx_ent 1 bX12_value_0
theorem met_X12_value (hZ : zO b e D A X) : rx_Met (zV b e D A X) 0 yX12_value mX12_value fX12_value := rx_entry hZ.1 (kX12_value_0 hZ) (by decide +kernel) rfl (fun h => by cases h)
theorem zy_X12_value : rx_Y (zV b e D A X) yX12_value mX12_value 0 := ⟨zw2871, zw413, by decide, by decide +kernel, by decide +kernel, by decide +kernel⟩
abbrev mX13_value : rx_M := (RX13, cX13_value, 1, (some .int), false)
noncomputable def bX13_value_0 : rx_K := q_ld q_isR 0 (q_getf 13 167 (o_ret1 rx_isI))
set_option maxRecDepth 20000 in
theorem kX13_value_0 (hZ : zO b e D A X) : rx_OK (zV b e D A X) mX13_value 0 0 bX13_value_0 := by
  unfold bX13_value_0
  refine rx_by (e_ldR _ _) (s_aload_n hZ.1 dX13_value_0 rfl ?_)
  refine zg13_167 dX13_value_1 zw4287 ?_
  exact s_iret hZ.1 rfl dX13_value_4
noncomputable def fX13_value : List Nat → rx_H → Option (Nat × rx_H) := rx_ent 1 bX13_value_0
theorem met_X13_value (hZ : zO b e D A X) : rx_Met (zV b e D A X) 0 yX13_value mX13_value fX13_value := rx_entry hZ.1 (kX13_value_0 hZ) (by decide +kernel) rfl (fun h => by cases h)
theorem zy_X13_value : rx_Y (zV b e D A X) yX13_value mX13_value 0 := ⟨zw3957, zw431, by decide, by decide +kernel, by decide +kernel, by decide +kernel⟩
abbrev mX12_told : rx_M := (RX12, cX12_told, 2, (some .int), false)
noncomputable def bX12_told_109 : rx_K := o_const 34359738360 (o_ret1 rx_isI)
set_option maxRecDepth 20000 in
theorem kX12_told_109 (hZ : zO b e D A X) : rx_OK (zV b e D A X) mX12_told 1 109 bX12_told_109 := by
  unfold bX12_told_109
  refine s_iconst dX12_told_109 (by decide +kernel) ?_
  exact s_iret hZ.1 rfl dX12_told_110
noncomputable def bX12_told_104 : rx_K := q_ld q_isR 0 (o_callV 0 12 fX12_allBuilt (o_ret1 rx_isI))
set_option maxRecDepth 20000 in
theorem kX12_told_104 (hZ : zO b e D A X) : rx_OK (zV b e D A X) mX12_told 1 104 bX12_told_104 := by
  unfold bX12_told_104
  refine rx_by (e_ldR _ _) (s_aload_n hZ.1 dX12_told_104 rfl ?_)
  refine s_callV hZ.1 (met_X12_allBuilt hZ) (by decide) zy_X12_allBuilt zcl12 zw1563 zw2 (Or.inl zw1561) dX12_told_105 ?_
  exact s_iret hZ.1 rfl dX12_told_108
noncomputable def bX12_told_99 : rx_K := q_ld q_isR 0 (q_getf 12 1 (o_ret1 rx_isI))
set_option maxRecDepth 20000 in
theorem kX12_told_99 (hZ : zO b e D A X) : rx_OK (zV b e D A X) mX12_told 1 99 bX12_told_99 := by
  unfold bX12_told_99
  refine rx_by (e_ldR _ _) (s_aload_n hZ.1 dX12_told_99 rfl ?_)
  refine zg12_1 dX12_told_100 zw1604 ?_
  exact s_iret hZ.1 rfl dX12_told_103
noncomputable def bX12_told_91 : rx_K := q_ld q_isR 0 (q_getf 12 13 (q_getf 11 2 (o_ret1 rx_isI)))
set_option maxRecDepth 20000 in
theorem kX12_told_91 (hZ : zO b e D A X) : rx_OK (zV b e D A X) mX12_told 1 91 bX12_told_91 := by
  unfold bX12_told_91
  refine rx_by (e_ldR _ _) (s_aload_n hZ.1 dX12_told_91 rfl ?_)
  refine zg12_13 dX12_told_92 zw1616 ?_
  refine zg11_2 dX12_told_95 zw1261 ?_
  exact s_iret hZ.1 rfl dX12_told_98
noncomputable def bX12_told_80 : rx_K := q_ld q_isR 0 (q_getf 12 20 (q_getf 6 1 (q_getf 5 4 (o_ret1 rx_isI))))
set_option maxRecDepth 20000 in
theorem kX12_told_80 (hZ : zO b e D A X) : rx_OK (zV b e D A X) mX12_told 1 80 bX12_told_80 := by
  unfold bX12_told_80
  refine rx_by (e_ldR _ _) (s_aload_n hZ.1 dX12_told_80 rfl ?_)
  refine zg12_20 dX12_told_81 zw1623 ?_
  refine zg6_1 dX12_told_84 zw1475 ?_
  refine zg5_4 dX12_told_87 zw1358 ?_
  exact s_iret hZ.1 rfl dX12_told_90
noncomputable def bX12_told_72 : rx_K := q_ld q_isR 0 (q_getf 12 20 (q_getf 6 12 (o_ret1 rx_isI)))
set_option maxRecDepth 20000 in
theorem kX12_told_72 (hZ : zO b e D A X) : rx_OK (zV b e D A X) mX12_told 1 72 bX12_told_72 := by
  unfold bX12_told_72
  refine rx_by (e_ldR _ _) (s_aload_n hZ.1 dX12_told_72 rfl ?_)
  refine zg12_20 dX12_told_73 zw1623 ?_
  refine zg6_12 dX12_told_76 zw1492 ?_
  exact s_iret hZ.1 rfl dX12_told_79
noncomputable def bX12_told_64 : rx_K := q_ld q_isR 0 (q_getf 12 20 (q_getf 6 10 (o_ret1 rx_isI)))
set_option maxRecDepth 20000 in
theorem kX12_told_64 (hZ : zO b e D A X) : rx_OK (zV b e D A X) mX12_told 1 64 bX12_told_64 := by
  unfold bX12_told_64
  refine rx_by (e_ldR _ _) (s_aload_n hZ.1 dX12_told_64 rfl ?_)
  refine zg12_20 dX12_told_65 zw1623 ?_
  refine zg6_10 dX12_told_68 zw1488 ?_
  exact s_iret hZ.1 rfl dX12_told_71
noncomputable def bX12_told_56 : rx_K := q_ld q_isR 0 (q_getf 12 20 (q_getf 6 16 (o_ret1 rx_isI)))
set_option maxRecDepth 20000 in
theorem kX12_told_56 (hZ : zO b e D A X) : rx_OK (zV b e D A X) mX12_told 1 56 bX12_told_56 := by
  unfold bX12_told_56
  refine rx_by (e_ldR _ _) (s_aload_n hZ.1 dX12_told_56 rfl ?_)
  refine zg12_20 dX12_told_57 zw1623 ?_
  refine zg6_16 dX12_told_60 zw1499 ?_
  exact s_iret hZ.1 rfl dX12_told_63
noncomputable def bX12_told_48 : rx_K := q_ld q_isR 0 (q_getf 12 20 (q_getf 6 14 (o_ret1 rx_isI)))
set_option maxRecDepth 20000 in
theorem kX12_told_48 (hZ : zO b e D A X) : rx_OK (zV b e D A X) mX12_told 1 48 bX12_told_48 := by
  unfold bX12_told_48
  refine rx_by (e_ldR _ _) (s_aload_n hZ.1 dX12_told_48 rfl ?_)
  refine zg12_20 dX12_told_49 zw1623 ?_
  refine zg6_14 dX12_told_52 zw1495 ?_
  exact s_iret hZ.1 rfl dX12_told_55
noncomputable def bX12_told_0 : rx_K := q_ld q_isI 1 (o_swx (0) (7) 0 [48, 56, 64, 72, 80, 91, 99, 104] 109 (rx_pk [(48, bX12_told_48), (56, bX12_told_56), (64, bX12_told_64), (72, bX12_told_72), (80, bX12_told_80), (91, bX12_told_91), (99, bX12_told_99), (104, bX12_told_104), (109, bX12_told_109)]))
set_option maxRecDepth 20000 in
theorem kX12_told_0 (hZ : zO b e D A X) : rx_OK (zV b e D A X) mX12_told 1 0 bX12_told_0 := by
  unfold bX12_told_0
  refine rx_by (e_ldI _ _) (s_iload_n hZ.1 dX12_told_0 rfl ?_)
  exact s_swx dX12_told_1 (by decide) (by decide) (by decide) (by decide) (by decide) (fun b _ => (rx_pk_ok (List.forall_mem_cons.mpr ⟨(kX12_told_48 hZ), List.forall_mem_cons.mpr ⟨(kX12_told_56 hZ), List.forall_mem_cons.mpr ⟨(kX12_told_64 hZ), List.forall_mem_cons.mpr ⟨(kX12_told_72 hZ), List.forall_mem_cons.mpr ⟨(kX12_told_80 hZ), List.forall_mem_cons.mpr ⟨(kX12_told_91 hZ), List.forall_mem_cons.mpr ⟨(kX12_told_99 hZ), List.forall_mem_cons.mpr ⟨(kX12_told_104 hZ), List.forall_mem_cons.mpr ⟨(kX12_told_109 hZ), fun _ h => absurd h List.not_mem_nil⟩⟩⟩⟩⟩⟩⟩⟩⟩)) b)
noncomputable def fX12_told : List Nat → rx_H → Option (Nat × rx_H) := rx_ent 2 bX12_told_0
theorem met_X12_told (hZ : zO b e D A X) : rx_Met (zV b e D A X) 1 yX12_told mX12_told fX12_told := rx_entry hZ.1 (kX12_told_0 hZ) (by decide +kernel) rfl (fun h => by cases h)
theorem zy_X12_told : rx_Y (zV b e D A X) yX12_told mX12_told 1 := ⟨zw2875, zw413, by decide, by decide +kernel, by decide +kernel, by decide +kernel⟩
abbrev mX13_told : rx_M := (RX13, cX13_told, 2, (some .int), false)
noncomputable def bX13_told_91 : rx_K := q_ld q_isR 0 (q_getf 13 10 (o_ret1 rx_isI))
set_option maxRecDepth 20000 in
theorem kX13_told_91 (hZ : zO b e D A X) : rx_OK (zV b e D A X) mX13_told 0 91 bX13_told_91 := by
  unfold bX13_told_91
  refine rx_by (e_ldR _ _) (s_aload_n hZ.1 dX13_told_91 rfl ?_)
  refine zg13_10 dX13_told_92 zw4131 ?_
  exact s_iret hZ.1 rfl dX13_told_95
noncomputable def bX13_told_86 : rx_K := q_ld q_isR 0 (q_getf 13 1 (o_ret1 rx_isI))
set_option maxRecDepth 20000 in
theorem kX13_told_86 (hZ : zO b e D A X) : rx_OK (zV b e D A X) mX13_told 0 86 bX13_told_86 := by
  unfold bX13_told_86
  refine rx_by (e_ldR _ _) (s_aload_n hZ.1 dX13_told_86 rfl ?_)
  refine zg13_1 dX13_told_87 zw4122 ?_
  exact s_iret hZ.1 rfl dX13_told_90
noncomputable def bX13_told_81 : rx_K := q_ld q_isR 0 (q_getf 13 129 (o_ret1 rx_isI))
set_option maxRecDepth 20000 in
theorem kX13_told_81 (hZ : zO b e D A X) : rx_OK (zV b e D A X) mX13_told 0 81 bX13_told_81 := by
  unfold bX13_told_81
  refine rx_by (e_ldR _ _) (s_aload_n hZ.1 dX13_told_81 rfl ?_)
  refine zg13_129 dX13_told_82 zw4249 ?_
  exact s_iret hZ.1 rfl dX13_told_85
noncomputable def bX13_told_76 : rx_K := q_ld q_isR 0 (q_getf 13 136 (o_ret1 rx_isI))
set_option maxRecDepth 20000 in
theorem kX13_told_76 (hZ : zO b e D A X) : rx_OK (zV b e D A X) mX13_told 0 76 bX13_told_76 := by
  unfold bX13_told_76
  refine rx_by (e_ldR _ _) (s_aload_n hZ.1 dX13_told_76 rfl ?_)
  refine zg13_136 dX13_told_77 zw4256 ?_
  exact s_iret hZ.1 rfl dX13_told_80
noncomputable def bX13_told_71 : rx_K := q_ld q_isR 0 (q_getf 13 153 (o_ret1 rx_isI))
set_option maxRecDepth 20000 in
theorem kX13_told_71 (hZ : zO b e D A X) : rx_OK (zV b e D A X) mX13_told 0 71 bX13_told_71 := by
  unfold bX13_told_71
  refine rx_by (e_ldR _ _) (s_aload_n hZ.1 dX13_told_71 rfl ?_)
  refine zg13_153 dX13_told_72 zw4273 ?_
  exact s_iret hZ.1 rfl dX13_told_75
noncomputable def bX13_told_66 : rx_K := q_ld q_isR 0 (q_getf 13 151 (o_ret1 rx_isI))
set_option maxRecDepth 20000 in
theorem kX13_told_66 (hZ : zO b e D A X) : rx_OK (zV b e D A X) mX13_told 0 66 bX13_told_66 := by
  unfold bX13_told_66
  refine rx_by (e_ldR _ _) (s_aload_n hZ.1 dX13_told_66 rfl ?_)
  refine zg13_151 dX13_told_67 zw4271 ?_
  exact s_iret hZ.1 rfl dX13_told_70
noncomputable def bX13_told_61 : rx_K := q_ld q_isR 0 (q_getf 13 169 (o_ret1 rx_isI))
set_option maxRecDepth 20000 in
theorem kX13_told_61 (hZ : zO b e D A X) : rx_OK (zV b e D A X) mX13_told 0 61 bX13_told_61 := by
  unfold bX13_told_61
  refine rx_by (e_ldR _ _) (s_aload_n hZ.1 dX13_told_61 rfl ?_)
  refine zg13_169 dX13_told_62 zw4289 ?_
  exact s_iret hZ.1 rfl dX13_told_65
noncomputable def bX13_told_56 : rx_K := q_ld q_isR 0 (q_getf 13 163 (o_ret1 rx_isI))
set_option maxRecDepth 20000 in
theorem kX13_told_56 (hZ : zO b e D A X) : rx_OK (zV b e D A X) mX13_told 0 56 bX13_told_56 := by
  unfold bX13_told_56
  refine rx_by (e_ldR _ _) (s_aload_n hZ.1 dX13_told_56 rfl ?_)
  refine zg13_163 dX13_told_57 zw4283 ?_
  exact s_iret hZ.1 rfl dX13_told_60
noncomputable def bX13_told_12 : rx_K := q_ld q_isI 1 (o_sw 0 [56, 61, 66, 71, 76, 81, 86] 91 (rx_pk [(56, bX13_told_56), (61, bX13_told_61), (66, bX13_told_66), (71, bX13_told_71), (76, bX13_told_76), (81, bX13_told_81), (86, bX13_told_86), (91, bX13_told_91)]))
set_option maxRecDepth 20000 in
theorem kX13_told_12 (hZ : zO b e D A X) : rx_OK (zV b e D A X) mX13_told 0 12 bX13_told_12 := by
  unfold bX13_told_12
  refine rx_by (e_ldI _ _) (s_iload_n hZ.1 dX13_told_12 rfl ?_)
  exact s_sw dX13_told_13 (by decide) (by decide) (by decide) (by decide) (by decide) (fun b _ => (rx_pk_ok (List.forall_mem_cons.mpr ⟨(kX13_told_56 hZ), List.forall_mem_cons.mpr ⟨(kX13_told_61 hZ), List.forall_mem_cons.mpr ⟨(kX13_told_66 hZ), List.forall_mem_cons.mpr ⟨(kX13_told_71 hZ), List.forall_mem_cons.mpr ⟨(kX13_told_76 hZ), List.forall_mem_cons.mpr ⟨(kX13_told_81 hZ), List.forall_mem_cons.mpr ⟨(kX13_told_86 hZ), List.forall_mem_cons.mpr ⟨(kX13_told_91 hZ), fun _ h => absurd h List.not_mem_nil⟩⟩⟩⟩⟩⟩⟩⟩)) b)
noncomputable def bX13_told_10 : rx_K := o_const 34359738360 (o_ret1 rx_isI)
set_option maxRecDepth 20000 in
theorem kX13_told_10 (hZ : zO b e D A X) : rx_OK (zV b e D A X) mX13_told 0 10 bX13_told_10 := by
  unfold bX13_told_10
  refine s_iconst dX13_told_10 (by decide +kernel) ?_
  exact s_iret hZ.1 rfl dX13_told_11
noncomputable def bX13_told_4 : rx_K := q_ld q_isI 1 (o_const 56 (q_gt2 bX13_told_10 bX13_told_12))
set_option maxRecDepth 20000 in
theorem kX13_told_4 (hZ : zO b e D A X) : rx_OK (zV b e D A X) mX13_told 0 4 bX13_told_4 := by
  unfold bX13_told_4
  refine rx_by (e_ldI _ _) (s_iload_n hZ.1 dX13_told_4 rfl ?_)
  refine s_bipush dX13_told_5 (by decide +kernel) ?_
  exact rx_by (e_gt2 _ _) (s_icmp_le dX13_told_7 (by decide) (kX13_told_12 hZ) (kX13_told_10 hZ))
noncomputable def bX13_told_0 : rx_K := q_ld q_isI 1 (q_lt1 bX13_told_10 bX13_told_4)
set_option maxRecDepth 20000 in
theorem kX13_told_0 (hZ : zO b e D A X) : rx_OK (zV b e D A X) mX13_told 0 0 bX13_told_0 := by
  unfold bX13_told_0
  refine rx_by (e_ldI _ _) (s_iload_n hZ.1 dX13_told_0 rfl ?_)
  exact rx_by (e_lt1 _ _) (s_if_lt dX13_told_1 (by decide) (kX13_told_10 hZ) (kX13_told_4 hZ))
noncomputable def fX13_told : List Nat → rx_H → Option (Nat × rx_H) := rx_ent 2 bX13_told_0
theorem met_X13_told (hZ : zO b e D A X) : rx_Met (zV b e D A X) 0 yX13_told mX13_told fX13_told := rx_entry hZ.1 (kX13_told_0 hZ) (by decide +kernel) rfl (fun h => by cases h)
theorem zy_X13_told : rx_Y (zV b e D A X) yX13_told mX13_told 1 := ⟨zw3961, zw431, by decide, by decide +kernel, by decide +kernel, by decide +kernel⟩
abbrev mX12_number : rx_M := (RX12, cX12_number, 2, (some .int), false)
noncomputable def bX12_number_28 : rx_K := o_ret1 rx_isI
set_option maxRecDepth 20000 in
theorem kX12_number_28 (hZ : zO b e D A X) : rx_OK (zV b e D A X) mX12_number 0 28 bX12_number_28 := by
  unfold bX12_number_28
  exact s_iret hZ.1 rfl dX12_number_28
noncomputable def bX12_number_15 : rx_K := o_const 0 (bX12_number_28)
set_option maxRecDepth 20000 in
theorem kX12_number_15 (hZ : zO b e D A X) : rx_OK (zV b e D A X) mX12_number 0 15 bX12_number_15 := by
  unfold bX12_number_15
  refine s_iconst dX12_number_15 (by decide +kernel) ?_
  exact s_goto dX12_number_16 (by decide) (kX12_number_28 hZ)
noncomputable def bX12_number_4 : rx_K := q_ld q_isI 1 (q_ld q_isR 0 (q_getf 12 20 (q_getf 6 16 (q_lt2 o_none bX12_number_15))))
set_option maxRecDepth 20000 in
theorem kX12_number_4 (hZ : zO b e D A X) : rx_OK (zV b e D A X) mX12_number 0 4 bX12_number_4 := by
  unfold bX12_number_4
  refine rx_by (e_ldI _ _) (s_iload_n hZ.1 dX12_number_4 rfl ?_)
  refine rx_by (e_ldR _ _) (s_aload_n hZ.1 dX12_number_5 rfl ?_)
  refine zg12_20 dX12_number_6 zw1623 ?_
  refine zg6_16 dX12_number_9 zw1499 ?_
  exact rx_by (e_lt2 _ _) (s_icmp_lt dX12_number_12 (by decide) (s_none (pc := 19)) (kX12_number_15 hZ))
noncomputable def bX12_number_0 : rx_K := q_ld q_isI 1 (q_lt1 bX12_number_15 bX12_number_4)
set_option maxRecDepth 20000 in
theorem kX12_number_0 (hZ : zO b e D A X) : rx_OK (zV b e D A X) mX12_number 0 0 bX12_number_0 := by
  unfold bX12_number_0
  refine rx_by (e_ldI _ _) (s_iload_n hZ.1 dX12_number_0 rfl ?_)
  exact rx_by (e_lt1 _ _) (s_if_lt dX12_number_1 (by decide) (kX12_number_15 hZ) (kX12_number_4 hZ))
noncomputable def fX12_number : List Nat → rx_H → Option (Nat × rx_H) := rx_ent 2 bX12_number_0
theorem met_X12_number (hZ : zO b e D A X) : rx_Met (zV b e D A X) 0 yX12_number mX12_number fX12_number := rx_entry hZ.1 (kX12_number_0 hZ) (by decide +kernel) rfl (fun h => by cases h)
theorem zy_X12_number : rx_Y (zV b e D A X) yX12_number mX12_number 1 := ⟨zw2879, zw413, by decide, by decide +kernel, by decide +kernel, by decide +kernel⟩
abbrev mX13_number : rx_M := (RX13, cX13_number, 2, (some .int), false)
noncomputable def bX13_number_22 : rx_K := o_ret1 rx_isI
set_option maxRecDepth 20000 in
theorem kX13_number_22 (hZ : zO b e D A X) : rx_OK (zV b e D A X) mX13_number 0 22 bX13_number_22 := by
  unfold bX13_number_22
  exact s_iret hZ.1 rfl dX13_number_22
noncomputable def bX13_number_12 : rx_K := o_const 0 (bX13_number_22)
set_option maxRecDepth 20000 in
theorem kX13_number_12 (hZ : zO b e D A X) : rx_OK (zV b e D A X) mX13_number 0 12 bX13_number_12 := by
  unfold bX13_number_12
  refine s_iconst dX13_number_12 (by decide +kernel) ?_
  exact s_goto dX13_number_13 (by decide) (kX13_number_22 hZ)
noncomputable def bX13_number_4 : rx_K := q_ld q_isI 1 (q_ld q_isR 0 (q_getf 13 169 (q_lt2 o_none bX13_number_12)))
set_option maxRecDepth 20000 in
theorem kX13_number_4 (hZ : zO b e D A X) : rx_OK (zV b e D A X) mX13_number 0 4 bX13_number_4 := by
  unfold bX13_number_4
  refine rx_by (e_ldI _ _) (s_iload_n hZ.1 dX13_number_4 rfl ?_)
  refine rx_by (e_ldR _ _) (s_aload_n hZ.1 dX13_number_5 rfl ?_)
  refine zg13_169 dX13_number_6 zw4289 ?_
  exact rx_by (e_lt2 _ _) (s_icmp_lt dX13_number_9 (by decide) (s_none (pc := 16)) (kX13_number_12 hZ))
noncomputable def bX13_number_0 : rx_K := q_ld q_isI 1 (q_lt1 bX13_number_12 bX13_number_4)
set_option maxRecDepth 20000 in
theorem kX13_number_0 (hZ : zO b e D A X) : rx_OK (zV b e D A X) mX13_number 0 0 bX13_number_0 := by
  unfold bX13_number_0
  refine rx_by (e_ldI _ _) (s_iload_n hZ.1 dX13_number_0 rfl ?_)
  exact rx_by (e_lt1 _ _) (s_if_lt dX13_number_1 (by decide) (kX13_number_12 hZ) (kX13_number_4 hZ))
noncomputable def fX13_number : List Nat → rx_H → Option (Nat × rx_H) := rx_ent 2 bX13_number_0
theorem met_X13_number (hZ : zO b e D A X) : rx_Met (zV b e D A X) 0 yX13_number mX13_number fX13_number := rx_entry hZ.1 (kX13_number_0 hZ) (by decide +kernel) rfl (fun h => by cases h)
theorem zy_X13_number : rx_Y (zV b e D A X) yX13_number mX13_number 1 := ⟨zw3965, zw431, by decide, by decide +kernel, by decide +kernel, by decide +kernel⟩
abbrev mX12_event : rx_M := (RX12, cX12_event, 2, (some .int), false)
noncomputable def bX12_event_34 : rx_K := o_ret1 rx_isI
set_option maxRecDepth 20000 in
theorem kX12_event_34 (hZ : zO b e D A X) : rx_OK (zV b e D A X) mX12_event 0 34 bX12_event_34 := by
  unfold bX12_event_34
  exact s_iret hZ.1 rfl dX12_event_34
noncomputable def bX12_event_18 : rx_K := o_const 34359738360 (bX12_event_34)
set_option maxRecDepth 20000 in
theorem kX12_event_18 (hZ : zO b e D A X) : rx_OK (zV b e D A X) mX12_event 0 18 bX12_event_18 := by
  unfold bX12_event_18
  refine s_iconst dX12_event_18 (by decide +kernel) ?_
  exact s_goto dX12_event_19 (by decide) (kX12_event_34 hZ)
noncomputable def bX12_event_4 : rx_K := q_ld q_isI 1 (q_ld q_isR 0 (q_getf 12 20 (q_getf 6 1 (q_getf 5 4 (q_lt2 o_none bX12_event_18)))))
set_option maxRecDepth 20000 in
theorem kX12_event_4 (hZ : zO b e D A X) : rx_OK (zV b e D A X) mX12_event 0 4 bX12_event_4 := by
  unfold bX12_event_4
  refine rx_by (e_ldI _ _) (s_iload_n hZ.1 dX12_event_4 rfl ?_)
  refine rx_by (e_ldR _ _) (s_aload_n hZ.1 dX12_event_5 rfl ?_)
  refine zg12_20 dX12_event_6 zw1623 ?_
  refine zg6_1 dX12_event_9 zw1475 ?_
  refine zg5_4 dX12_event_12 zw1358 ?_
  exact rx_by (e_lt2 _ _) (s_icmp_lt dX12_event_15 (by decide) (s_none (pc := 22)) (kX12_event_18 hZ))
noncomputable def bX12_event_0 : rx_K := q_ld q_isI 1 (q_lt1 bX12_event_18 bX12_event_4)
set_option maxRecDepth 20000 in
theorem kX12_event_0 (hZ : zO b e D A X) : rx_OK (zV b e D A X) mX12_event 0 0 bX12_event_0 := by
  unfold bX12_event_0
  refine rx_by (e_ldI _ _) (s_iload_n hZ.1 dX12_event_0 rfl ?_)
  exact rx_by (e_lt1 _ _) (s_if_lt dX12_event_1 (by decide) (kX12_event_18 hZ) (kX12_event_4 hZ))
noncomputable def fX12_event : List Nat → rx_H → Option (Nat × rx_H) := rx_ent 2 bX12_event_0
theorem met_X12_event (hZ : zO b e D A X) : rx_Met (zV b e D A X) 0 yX12_event mX12_event fX12_event := rx_entry hZ.1 (kX12_event_0 hZ) (by decide +kernel) rfl (fun h => by cases h)
theorem zy_X12_event : rx_Y (zV b e D A X) yX12_event mX12_event 1 := ⟨zw2883, zw413, by decide, by decide +kernel, by decide +kernel, by decide +kernel⟩
abbrev mX13_event_ : rx_M := (RX13, cX13_event_, 2, (some .int), false)
noncomputable def bX13_event__22 : rx_K := o_ret1 rx_isI
set_option maxRecDepth 20000 in
theorem kX13_event__22 (hZ : zO b e D A X) : rx_OK (zV b e D A X) mX13_event_ 0 22 bX13_event__22 := by
  unfold bX13_event__22
  exact s_iret hZ.1 rfl dX13_event__22
noncomputable def bX13_event__12 : rx_K := o_const 34359738360 (bX13_event__22)
set_option maxRecDepth 20000 in
theorem kX13_event__12 (hZ : zO b e D A X) : rx_OK (zV b e D A X) mX13_event_ 0 12 bX13_event__12 := by
  unfold bX13_event__12
  refine s_iconst dX13_event__12 (by decide +kernel) ?_
  exact s_goto dX13_event__13 (by decide) (kX13_event__22 hZ)
noncomputable def bX13_event__4 : rx_K := q_ld q_isI 1 (q_ld q_isR 0 (q_getf 13 136 (q_lt2 o_none bX13_event__12)))
set_option maxRecDepth 20000 in
theorem kX13_event__4 (hZ : zO b e D A X) : rx_OK (zV b e D A X) mX13_event_ 0 4 bX13_event__4 := by
  unfold bX13_event__4
  refine rx_by (e_ldI _ _) (s_iload_n hZ.1 dX13_event__4 rfl ?_)
  refine rx_by (e_ldR _ _) (s_aload_n hZ.1 dX13_event__5 rfl ?_)
  refine zg13_136 dX13_event__6 zw4256 ?_
  exact rx_by (e_lt2 _ _) (s_icmp_lt dX13_event__9 (by decide) (s_none (pc := 16)) (kX13_event__12 hZ))
noncomputable def bX13_event__0 : rx_K := q_ld q_isI 1 (q_lt1 bX13_event__12 bX13_event__4)
set_option maxRecDepth 20000 in
theorem kX13_event__0 (hZ : zO b e D A X) : rx_OK (zV b e D A X) mX13_event_ 0 0 bX13_event__0 := by
  unfold bX13_event__0
  refine rx_by (e_ldI _ _) (s_iload_n hZ.1 dX13_event__0 rfl ?_)
  exact rx_by (e_lt1 _ _) (s_if_lt dX13_event__1 (by decide) (kX13_event__12 hZ) (kX13_event__4 hZ))
noncomputable def fX13_event_ : List Nat → rx_H → Option (Nat × rx_H) := rx_ent 2 bX13_event__0
theorem met_X13_event_ (hZ : zO b e D A X) : rx_Met (zV b e D A X) 0 yX13_event_ mX13_event_ fX13_event_ := rx_entry hZ.1 (kX13_event__0 hZ) (by decide +kernel) rfl (fun h => by cases h)
theorem zy_X13_event_ : rx_Y (zV b e D A X) yX13_event_ mX13_event_ 1 := ⟨zw3969, zw431, by decide, by decide +kernel, by decide +kernel, by decide +kernel⟩
abbrev mX12_tellByte : rx_M := (RX12, cX12_tellByte, 2, none, false)
noncomputable def bX12_tellByte_31 : rx_K := o_ret0
set_option maxRecDepth 20000 in
theorem kX12_tellByte_31 (hZ : zO b e D A X) : rx_OK (zV b e D A X) mX12_tellByte 0 31 bX12_tellByte_31 := by
  unfold bX12_tellByte_31
  exact s_vret rfl dX12_tellByte_31
noncomputable def bX12_tellByte_10 : rx_K := q_ld q_isR 0 (q_getf 12 2 (q_ld q_isR 0 (q_getf 12 3 (q_ld q_isI 1 (o_i2bX (p_ast 2 rx_nb rx_isB (q_ld q_isR 0 (q_dup (q_getf 12 3 (o_const 8 (q_bi q_Fadd (p_putf q_isI 12 3 (bX12_tellByte_31)))))))))))))
set_option maxRecDepth 20000 in
theorem kX12_tellByte_10 (hZ : zO b e D A X) : rx_OK (zV b e D A X) mX12_tellByte 0 10 bX12_tellByte_10 := by
  unfold bX12_tellByte_10
  refine rx_by (e_ldR _ _) (s_aload_n hZ.1 dX12_tellByte_10 rfl ?_)
  refine zg12_2 dX12_tellByte_11 zw1605 ?_
  refine rx_by (e_ldR _ _) (s_aload_n hZ.1 dX12_tellByte_14 rfl ?_)
  refine zg12_3 dX12_tellByte_15 zw1606 ?_
  refine rx_by (e_ldI _ _) (s_iload_n hZ.1 dX12_tellByte_18 rfl ?_)
  refine s_i2bX dX12_tellByte_19 ?_
  refine rx_by2 (l_ast _ _ _ _) (s_bast (tt := 2) rfl dX12_tellByte_20 ?_)
  refine rx_by (e_ldR _ _) (s_aload_n hZ.1 dX12_tellByte_21 rfl ?_)
  refine rx_by (e_dup _) (s_dup hZ.1 dX12_tellByte_22 ?_)
  refine zg12_3 dX12_tellByte_23 zw1606 ?_
  refine s_iconst dX12_tellByte_26 (by decide +kernel) ?_
  refine rx_by (e_add _) (s_iadd dX12_tellByte_27 ?_)
  refine zp12_3 hZ.1 dX12_tellByte_28 zw1606 ?_
  exact (kX12_tellByte_31 hZ)
noncomputable def bX12_tellByte_0 : rx_K := q_ld q_isR 0 (q_getf 12 3 (o_const 4800 (q_lt2 bX12_tellByte_10 bX12_tellByte_31)))
set_option maxRecDepth 20000 in
theorem kX12_tellByte_0 (hZ : zO b e D A X) : rx_OK (zV b e D A X) mX12_tellByte 0 0 bX12_tellByte_0 := by
  unfold bX12_tellByte_0
  refine rx_by (e_ldR _ _) (s_aload_n hZ.1 dX12_tellByte_0 rfl ?_)
  refine zg12_3 dX12_tellByte_1 zw1606 ?_
  refine s_sipush dX12_tellByte_4 (by decide +kernel) ?_
  exact rx_by (e_lt2 _ _) (s_icmp_ge dX12_tellByte_7 (by decide) (kX12_tellByte_31 hZ) (kX12_tellByte_10 hZ))
noncomputable def fX12_tellByte : List Nat → rx_H → Option (Nat × rx_H) := rx_ent 2 bX12_tellByte_0
theorem met_X12_tellByte (hZ : zO b e D A X) : rx_Met (zV b e D A X) 0 yX12_tellByte mX12_tellByte fX12_tellByte := rx_entry hZ.1 (kX12_tellByte_0 hZ) (by decide +kernel) rfl (fun h => by cases h)
theorem zy_X12_tellByte : rx_Y (zV b e D A X) yX12_tellByte mX12_tellByte 1 := ⟨zw2391, zw413, by decide, by decide +kernel, by decide +kernel, by decide +kernel⟩
abbrev mX12_tellLetters : rx_M := (RX12, cX12_tellLetters, 5, none, false)
noncomputable def bX12_tellLetters_75 (j : Nat → rx_K) : rx_K := o_ret0
set_option maxRecDepth 20000 in
theorem kX12_tellLetters_75 (hZ : zO b e D A X) (j : Nat → rx_K) (hj : ∀ k pc, [3][k]? = some pc → rx_OK (zV b e D A X) mX12_tellLetters 1 pc (j k)) : rx_OK (zV b e D A X) mX12_tellLetters 1 75 (bX12_tellLetters_75 j) := by
  unfold bX12_tellLetters_75
  exact s_vret rfl dX12_tellLetters_75
noncomputable def bX12_tellLetters_69 (j : Nat → rx_K) : rx_K := q_inc 3 34359738320 ((j 0))
set_option maxRecDepth 20000 in
theorem kX12_tellLetters_69 (hZ : zO b e D A X) (j : Nat → rx_K) (hj : ∀ k pc, [3][k]? = some pc → rx_OK (zV b e D A X) mX12_tellLetters 1 pc (j k)) : rx_OK (zV b e D A X) mX12_tellLetters 1 69 (bX12_tellLetters_69 j) := by
  unfold bX12_tellLetters_69
  refine rx_by (e_inc (by decide +kernel) _) (s_iinc hZ.1 dX12_tellLetters_69 (Nat.le_of_ble_eq_true rfl) ?_)
  exact s_goto dX12_tellLetters_72 (by decide) (hj 0 3 rfl)
noncomputable def bX12_tellLetters_66 (j : Nat → rx_K) : rx_K := o_callV 1 12 fX12_tellByte ((bX12_tellLetters_69 j))
set_option maxRecDepth 20000 in
theorem kX12_tellLetters_66 (hZ : zO b e D A X) (j : Nat → rx_K) (hj : ∀ k pc, [3][k]? = some pc → rx_OK (zV b e D A X) mX12_tellLetters 1 pc (j k)) : rx_OK (zV b e D A X) mX12_tellLetters 1 66 (bX12_tellLetters_66 j) := by
  unfold bX12_tellLetters_66
  refine s_callV hZ.1 (met_X12_tellByte hZ) (by decide) zy_X12_tellByte zcl12 zw2390 zw116 (Or.inl zw2388) dX12_tellLetters_66 ?_
  exact (kX12_tellLetters_69 hZ j hj)
noncomputable def bX12_tellLetters_30 (j : Nat → rx_K) : rx_K := o_const 776 (q_ld q_isI 4 (q_bi q_Fadd (o_const 8 (q_bi q_Fsub ((bX12_tellLetters_66 j))))))
set_option maxRecDepth 20000 in
theorem kX12_tellLetters_30 (hZ : zO b e D A X) (j : Nat → rx_K) (hj : ∀ k pc, [3][k]? = some pc → rx_OK (zV b e D A X) mX12_tellLetters 1 pc (j k)) : rx_OK (zV b e D A X) mX12_tellLetters 1 30 (bX12_tellLetters_30 j) := by
  unfold bX12_tellLetters_30
  refine s_bipush dX12_tellLetters_30 (by decide +kernel) ?_
  refine rx_by (e_ldI _ _) (s_iload hZ.1 dX12_tellLetters_32 ?_)
  refine rx_by (e_add _) (s_iadd dX12_tellLetters_34 ?_)
  refine s_iconst dX12_tellLetters_35 (by decide +kernel) ?_
  refine rx_by (e_sub _) (s_isub dX12_tellLetters_36 ?_)
  exact s_goto dX12_tellLetters_37 (by decide) (kX12_tellLetters_66 hZ j hj)
noncomputable def bX12_tellLetters_22 (j : Nat → rx_K) : rx_K := q_ld q_isR 0 (q_ld q_isI 4 (o_const 208 (q_gt2 o_none (bX12_tellLetters_30 j))))
set_option maxRecDepth 20000 in
theorem kX12_tellLetters_22 (hZ : zO b e D A X) (j : Nat → rx_K) (hj : ∀ k pc, [3][k]? = some pc → rx_OK (zV b e D A X) mX12_tellLetters 1 pc (j k)) : rx_OK (zV b e D A X) mX12_tellLetters 1 22 (bX12_tellLetters_22 j) := by
  unfold bX12_tellLetters_22
  refine rx_by (e_ldR _ _) (s_aload_n hZ.1 dX12_tellLetters_22 rfl ?_)
  refine rx_by (e_ldI _ _) (s_iload hZ.1 dX12_tellLetters_23 ?_)
  refine s_bipush dX12_tellLetters_25 (by decide +kernel) ?_
  exact rx_by (e_gt2 _ _) (s_icmp_gt dX12_tellLetters_27 (by decide) (s_none (pc := 40)) (kX12_tellLetters_30 hZ j hj))
noncomputable def bX12_tellLetters_7 (j : Nat → rx_K) : rx_K := q_ld q_isL 1 (q_ld q_isI 3 (o_bs (fun x y => (x.toUInt64 >>> (y.toInt64.toUInt64 &&& Int64.toUInt64 63)).toInt64) (o_const 505 (o_bl (fun x y => x &&& y) (o_li (fun x => x.toInt32) (q_st q_isI 4 (q_ld q_isI 4 (q_gt1 (bX12_tellLetters_22 j) (bX12_tellLetters_69 j)))))))))
set_option maxRecDepth 20000 in
theorem kX12_tellLetters_7 (hZ : zO b e D A X) (j : Nat → rx_K) (hj : ∀ k pc, [3][k]? = some pc → rx_OK (zV b e D A X) mX12_tellLetters 1 pc (j k)) : rx_OK (zV b e D A X) mX12_tellLetters 1 7 (bX12_tellLetters_7 j) := by
  unfold bX12_tellLetters_7
  refine rx_by (e_ld _ _ _) (s_lload_n hZ.1 dX12_tellLetters_7 rfl ?_)
  refine rx_by (e_ldI _ _) (s_iload_n hZ.1 dX12_tellLetters_8 rfl ?_)
  refine s_lushr dX12_tellLetters_9 ?_
  refine s_ldc2 dX12_tellLetters_10 zw2409 (by decide +kernel) ?_
  refine s_land dX12_tellLetters_13 ?_
  refine s_l2i dX12_tellLetters_14 ?_
  refine rx_by (e_stI _ _) (s_istore hZ.1 dX12_tellLetters_15 (Nat.le_of_ble_eq_true rfl) ?_)
  refine rx_by (e_ldI _ _) (s_iload hZ.1 dX12_tellLetters_17 ?_)
  exact rx_by (e_gt1 _ _) (s_if_le dX12_tellLetters_19 (by decide) (kX12_tellLetters_69 hZ j hj) (kX12_tellLetters_22 hZ j hj))
noncomputable def bX12_tellLetters_3 (j : Nat → rx_K) : rx_K := q_ld q_isI 3 (q_lt1 (bX12_tellLetters_75 j) (bX12_tellLetters_7 j))
set_option maxRecDepth 20000 in
theorem kX12_tellLetters_3 (hZ : zO b e D A X) (j : Nat → rx_K) (hj : ∀ k pc, [3][k]? = some pc → rx_OK (zV b e D A X) mX12_tellLetters 1 pc (j k)) : rx_OK (zV b e D A X) mX12_tellLetters 1 3 (bX12_tellLetters_3 j) := by
  unfold bX12_tellLetters_3
  refine rx_by (e_ldI _ _) (s_iload_n hZ.1 dX12_tellLetters_3 rfl ?_)
  exact rx_by (e_lt1 _ _) (s_if_lt dX12_tellLetters_4 (by decide) (kX12_tellLetters_75 hZ j hj) (kX12_tellLetters_7 hZ j hj))
noncomputable def bX12_tellLetters_0 (j : Nat → rx_K) : rx_K := o_const 384 (q_st q_isI 3 ((bX12_tellLetters_3 j)))
set_option maxRecDepth 20000 in
theorem kX12_tellLetters_0 (hZ : zO b e D A X) (j : Nat → rx_K) (hj : ∀ k pc, [3][k]? = some pc → rx_OK (zV b e D A X) mX12_tellLetters 1 pc (j k)) : rx_OK (zV b e D A X) mX12_tellLetters 1 0 (bX12_tellLetters_0 j) := by
  unfold bX12_tellLetters_0
  refine s_bipush dX12_tellLetters_0 (by decide +kernel) ?_
  refine rx_by (e_stI _ _) (s_istore_n hZ.1 dX12_tellLetters_2 rfl (Nat.le_of_ble_eq_true rfl) ?_)
  exact (kX12_tellLetters_3 hZ j hj)
noncomputable def hX12_tellLetters (j : Nat → rx_K) : List rx_K := [bX12_tellLetters_3 j]
theorem lX12_tellLetters (hZ : zO b e D A X) : ∀ n k pc, [3][k]? = some pc → rx_OK (zV b e D A X) mX12_tellLetters 1 pc (rx_J hX12_tellLetters n k) := rx_loop fun j hj k pc h => by
  match k, h with
  | 0, h =>
    have e9 := Option.some.inj (show some 3 = some pc from h)
    subst e9
    exact kX12_tellLetters_3 hZ j hj
  | _ + 1, h => exact absurd h (by simp)
noncomputable def fX12_tellLetters : List Nat → rx_H → Option (Nat × rx_H) := rx_ent 5 (bX12_tellLetters_0 (rx_J hX12_tellLetters 1000000))
theorem met_X12_tellLetters (hZ : zO b e D A X) : rx_Met (zV b e D A X) 1 yX12_tellLetters mX12_tellLetters fX12_tellLetters := rx_entry hZ.1 (kX12_tellLetters_0 hZ _ (lX12_tellLetters hZ 1000000)) (by decide +kernel) rfl (fun h => by cases h)
theorem zy_X12_tellLetters : rx_Y (zV b e D A X) yX12_tellLetters mX12_tellLetters 1 := ⟨zw2408, zw413, by decide, by decide +kernel, by decide +kernel, by decide +kernel⟩
abbrev mX12_tellType : rx_M := (RX12, cX12_tellType, 3, none, false)
noncomputable def bX12_tellType_77 : rx_K := o_ret0
set_option maxRecDepth 20000 in
theorem kX12_tellType_77 (hZ : zO b e D A X) : rx_OK (zV b e D A X) mX12_tellType 2 77 bX12_tellType_77 := by
  unfold bX12_tellType_77
  exact s_vret rfl dX12_tellType_77
noncomputable def bX12_tellType_38 : rx_K := q_ld q_isR 0 (o_const 776 (q_ld q_isL 1 (o_const 472 (o_bs (fun x y => (x.toUInt64 >>> (y.toInt64.toUInt64 &&& Int64.toUInt64 63)).toInt64) (o_li (fun x => x.toInt32) (q_bi q_Fadd (o_callV 1 12 fX12_tellByte (q_ld q_isR 0 (o_const 368 (o_callV 1 12 fX12_tellByte (q_ld q_isR 0 (o_const 520 (q_ld q_isL 1 (o_const 432 (o_bs (fun x y => (x.toUInt64 >>> (y.toInt64.toUInt64 &&& Int64.toUInt64 63)).toInt64) (o_const 249 (o_bl (fun x y => x &&& y) (o_li (fun x => x.toInt32) (q_bi q_Fadd (o_callV 1 12 fX12_tellByte (q_ld q_isR 0 (q_ld q_isL 1 (o_callV 1 12 fX12_tellLetters (bX12_tellType_77))))))))))))))))))))))))
set_option maxRecDepth 20000 in
theorem kX12_tellType_38 (hZ : zO b e D A X) : rx_OK (zV b e D A X) mX12_tellType 2 38 bX12_tellType_38 := by
  unfold bX12_tellType_38
  refine rx_by (e_ldR _ _) (s_aload_n hZ.1 dX12_tellType_38 rfl ?_)
  refine s_bipush dX12_tellType_39 (by decide +kernel) ?_
  refine rx_by (e_ld _ _ _) (s_lload_n hZ.1 dX12_tellType_41 rfl ?_)
  refine s_bipush dX12_tellType_42 (by decide +kernel) ?_
  refine s_lushr dX12_tellType_44 ?_
  refine s_l2i dX12_tellType_45 ?_
  refine rx_by (e_add _) (s_iadd dX12_tellType_46 ?_)
  refine s_callV hZ.1 (met_X12_tellByte hZ) (by decide) zy_X12_tellByte zcl12 zw2390 zw116 (Or.inl zw2388) dX12_tellType_47 ?_
  refine rx_by (e_ldR _ _) (s_aload_n hZ.1 dX12_tellType_50 rfl ?_)
  refine s_bipush dX12_tellType_51 (by decide +kernel) ?_
  refine s_callV hZ.1 (met_X12_tellByte hZ) (by decide) zy_X12_tellByte zcl12 zw2390 zw116 (Or.inl zw2388) dX12_tellType_53 ?_
  refine rx_by (e_ldR _ _) (s_aload_n hZ.1 dX12_tellType_56 rfl ?_)
  refine s_bipush dX12_tellType_57 (by decide +kernel) ?_
  refine rx_by (e_ld _ _ _) (s_lload_n hZ.1 dX12_tellType_59 rfl ?_)
  refine s_bipush dX12_tellType_60 (by decide +kernel) ?_
  refine s_lushr dX12_tellType_62 ?_
  refine s_ldc2 dX12_tellType_63 zw2404 (by decide +kernel) ?_
  refine s_land dX12_tellType_66 ?_
  refine s_l2i dX12_tellType_67 ?_
  refine rx_by (e_add _) (s_iadd dX12_tellType_68 ?_)
  refine s_callV hZ.1 (met_X12_tellByte hZ) (by decide) zy_X12_tellByte zcl12 zw2390 zw116 (Or.inl zw2388) dX12_tellType_69 ?_
  refine rx_by (e_ldR _ _) (s_aload_n hZ.1 dX12_tellType_72 rfl ?_)
  refine rx_by (e_ld _ _ _) (s_lload_n hZ.1 dX12_tellType_73 rfl ?_)
  refine s_callV hZ.1 (met_X12_tellLetters hZ) (by decide) zy_X12_tellLetters zcl12 zw2407 zw118 (Or.inl zw2405) dX12_tellType_74 ?_
  exact (kX12_tellType_77 hZ)
noncomputable def bX12_tellType_8 : rx_K := q_ld q_isL 1 (o_const 147573952589676412905 (o_bc (fun x y => lg_cmp x y) (q_eq1 o_none bX12_tellType_38)))
set_option maxRecDepth 20000 in
theorem kX12_tellType_8 (hZ : zO b e D A X) : rx_OK (zV b e D A X) mX12_tellType 2 8 bX12_tellType_8 := by
  unfold bX12_tellType_8
  refine rx_by (e_ld _ _ _) (s_lload_n hZ.1 dX12_tellType_8 rfl ?_)
  refine s_ldc2 dX12_tellType_9 zw2401 (by decide +kernel) ?_
  refine s_lcmp dX12_tellType_12 ?_
  exact rx_by (e_eq1 _ _) (s_if_ne dX12_tellType_13 (by decide) (kX12_tellType_38 hZ) (s_none (pc := 16)))
noncomputable def bX12_tellType_0 : rx_K := q_ld q_isL 1 (o_const 147573952589676412921 (o_bc (fun x y => lg_cmp x y) (q_eq1 o_none bX12_tellType_8)))
set_option maxRecDepth 20000 in
theorem kX12_tellType_0 (hZ : zO b e D A X) : rx_OK (zV b e D A X) mX12_tellType 2 0 bX12_tellType_0 := by
  unfold bX12_tellType_0
  refine rx_by (e_ld _ _ _) (s_lload_n hZ.1 dX12_tellType_0 rfl ?_)
  refine s_ldc2 dX12_tellType_1 zw2400 (by decide +kernel) ?_
  refine s_lcmp dX12_tellType_4 ?_
  exact rx_by (e_eq1 _ _) (s_if_eq dX12_tellType_5 (by decide) (s_none (pc := 16)) (kX12_tellType_8 hZ))
noncomputable def fX12_tellType : List Nat → rx_H → Option (Nat × rx_H) := rx_ent 3 bX12_tellType_0
theorem met_X12_tellType (hZ : zO b e D A X) : rx_Met (zV b e D A X) 2 yX12_tellType mX12_tellType fX12_tellType := rx_entry hZ.1 (kX12_tellType_0 hZ) (by decide +kernel) rfl (fun h => by cases h)
theorem zy_X12_tellType : rx_Y (zV b e D A X) yX12_tellType mX12_tellType 1 := ⟨zw2399, zw413, by decide, by decide +kernel, by decide +kernel, by decide +kernel⟩
abbrev mX12_name : rx_M := (RX12, cX12_name, 2, (some .int), false)
noncomputable def bX12_name_17 : rx_K := q_ld q_isR 0 (o_const 0 (p_putf q_isI 12 3 (q_ld q_isR 0 (q_ld q_isR 0 (q_getf 12 13 (q_getf 11 1 (q_ld q_isI 1 (q_ald 4 (q_getf 10 1 (o_callV 1 12 fX12_tellType (q_ld q_isR 0 (q_getf 12 3 (o_ret1 rx_isI)))))))))))))
set_option maxRecDepth 20000 in
theorem kX12_name_17 (hZ : zO b e D A X) : rx_OK (zV b e D A X) mX12_name 3 17 bX12_name_17 := by
  unfold bX12_name_17
  refine rx_by (e_ldR _ _) (s_aload_n hZ.1 dX12_name_17 rfl ?_)
  refine s_iconst dX12_name_18 (by decide +kernel) ?_
  refine zp12_3 hZ.1 dX12_name_19 zw1606 ?_
  refine rx_by (e_ldR _ _) (s_aload_n hZ.1 dX12_name_22 rfl ?_)
  refine rx_by (e_ldR _ _) (s_aload_n hZ.1 dX12_name_23 rfl ?_)
  refine zg12_13 dX12_name_24 zw1616 ?_
  refine zg11_1 dX12_name_27 zw1258 ?_
  refine rx_by (e_ldI _ _) (s_iload_n hZ.1 dX12_name_30 rfl ?_)
  refine rx_by (e_ald _ _) (s_aald (tt := 4) rfl rfl dX12_name_31 ?_)
  refine zg10_1 dX12_name_32 zw777 ?_
  refine s_callV hZ.1 (met_X12_tellType hZ) (by decide) zy_X12_tellType zcl12 zw2398 zw117 (Or.inl zw2396) dX12_name_35 ?_
  refine rx_by (e_ldR _ _) (s_aload_n hZ.1 dX12_name_38 rfl ?_)
  refine zg12_3 dX12_name_39 zw1606 ?_
  exact s_iret hZ.1 rfl dX12_name_42
noncomputable def bX12_name_15 : rx_K := o_const 34359738360 (o_ret1 rx_isI)
set_option maxRecDepth 20000 in
theorem kX12_name_15 (hZ : zO b e D A X) : rx_OK (zV b e D A X) mX12_name 3 15 bX12_name_15 := by
  unfold bX12_name_15
  refine s_iconst dX12_name_15 (by decide +kernel) ?_
  exact s_iret hZ.1 rfl dX12_name_16
noncomputable def bX12_name_4 : rx_K := q_ld q_isI 1 (q_ld q_isR 0 (q_getf 12 13 (q_getf 11 2 (q_lt2 bX12_name_17 bX12_name_15))))
set_option maxRecDepth 20000 in
theorem kX12_name_4 (hZ : zO b e D A X) : rx_OK (zV b e D A X) mX12_name 3 4 bX12_name_4 := by
  unfold bX12_name_4
  refine rx_by (e_ldI _ _) (s_iload_n hZ.1 dX12_name_4 rfl ?_)
  refine rx_by (e_ldR _ _) (s_aload_n hZ.1 dX12_name_5 rfl ?_)
  refine zg12_13 dX12_name_6 zw1616 ?_
  refine zg11_2 dX12_name_9 zw1261 ?_
  exact rx_by (e_lt2 _ _) (s_icmp_lt dX12_name_12 (by decide) (kX12_name_17 hZ) (kX12_name_15 hZ))
noncomputable def bX12_name_0 : rx_K := q_ld q_isI 1 (q_lt1 bX12_name_15 bX12_name_4)
set_option maxRecDepth 20000 in
theorem kX12_name_0 (hZ : zO b e D A X) : rx_OK (zV b e D A X) mX12_name 3 0 bX12_name_0 := by
  unfold bX12_name_0
  refine rx_by (e_ldI _ _) (s_iload_n hZ.1 dX12_name_0 rfl ?_)
  exact rx_by (e_lt1 _ _) (s_if_lt dX12_name_1 (by decide) (kX12_name_15 hZ) (kX12_name_4 hZ))
noncomputable def fX12_name : List Nat → rx_H → Option (Nat × rx_H) := rx_ent 2 bX12_name_0
theorem met_X12_name (hZ : zO b e D A X) : rx_Met (zV b e D A X) 3 yX12_name mX12_name fX12_name := rx_entry hZ.1 (kX12_name_0 hZ) (by decide +kernel) rfl (fun h => by cases h)
theorem zy_X12_name : rx_Y (zV b e D A X) yX12_name mX12_name 1 := ⟨zw2887, zw413, by decide, by decide +kernel, by decide +kernel, by decide +kernel⟩
abbrev mX13_letter : rx_M := (RX13, cX13_letter, 1, (some .int), false)
noncomputable def bX13_letter_38 : rx_K := o_ret1 rx_isI
set_option maxRecDepth 20000 in
theorem kX13_letter_38 (hZ : zO b e D A X) : rx_OK (zV b e D A X) mX13_letter 0 38 bX13_letter_38 := by
  unfold bX13_letter_38
  exact s_iret hZ.1 rfl dX13_letter_38
noncomputable def bX13_letter_21 : rx_K := o_const 520 (q_ld q_isI 0 (q_bi q_Fadd (o_const 216 (q_bi q_Fsub (bX13_letter_38)))))
set_option maxRecDepth 20000 in
theorem kX13_letter_21 (hZ : zO b e D A X) : rx_OK (zV b e D A X) mX13_letter 0 21 bX13_letter_21 := by
  unfold bX13_letter_21
  refine s_bipush dX13_letter_21 (by decide +kernel) ?_
  refine rx_by (e_ldI _ _) (s_iload_n hZ.1 dX13_letter_23 rfl ?_)
  refine rx_by (e_add _) (s_iadd dX13_letter_24 ?_)
  refine s_bipush dX13_letter_25 (by decide +kernel) ?_
  refine rx_by (e_sub _) (s_isub dX13_letter_27 ?_)
  exact s_goto dX13_letter_28 (by decide) (kX13_letter_38 hZ)
noncomputable def bX13_letter_15 : rx_K := q_ld q_isI 0 (o_const 416 (q_gt2 o_none bX13_letter_21))
set_option maxRecDepth 20000 in
theorem kX13_letter_15 (hZ : zO b e D A X) : rx_OK (zV b e D A X) mX13_letter 0 15 bX13_letter_15 := by
  unfold bX13_letter_15
  refine rx_by (e_ldI _ _) (s_iload_n hZ.1 dX13_letter_15 rfl ?_)
  refine s_bipush dX13_letter_16 (by decide +kernel) ?_
  exact rx_by (e_gt2 _ _) (s_icmp_gt dX13_letter_18 (by decide) (s_none (pc := 31)) (kX13_letter_21 hZ))
noncomputable def bX13_letter_6 : rx_K := o_const 776 (q_ld q_isI 0 (q_bi q_Fadd (o_const 8 (q_bi q_Fsub (bX13_letter_38)))))
set_option maxRecDepth 20000 in
theorem kX13_letter_6 (hZ : zO b e D A X) : rx_OK (zV b e D A X) mX13_letter 0 6 bX13_letter_6 := by
  unfold bX13_letter_6
  refine s_bipush dX13_letter_6 (by decide +kernel) ?_
  refine rx_by (e_ldI _ _) (s_iload_n hZ.1 dX13_letter_8 rfl ?_)
  refine rx_by (e_add _) (s_iadd dX13_letter_9 ?_)
  refine s_iconst dX13_letter_10 (by decide +kernel) ?_
  refine rx_by (e_sub _) (s_isub dX13_letter_11 ?_)
  exact s_goto dX13_letter_12 (by decide) (kX13_letter_38 hZ)
noncomputable def bX13_letter_0 : rx_K := q_ld q_isI 0 (o_const 208 (q_gt2 bX13_letter_15 bX13_letter_6))
set_option maxRecDepth 20000 in
theorem kX13_letter_0 (hZ : zO b e D A X) : rx_OK (zV b e D A X) mX13_letter 0 0 bX13_letter_0 := by
  unfold bX13_letter_0
  refine rx_by (e_ldI _ _) (s_iload_n hZ.1 dX13_letter_0 rfl ?_)
  refine s_bipush dX13_letter_1 (by decide +kernel) ?_
  exact rx_by (e_gt2 _ _) (s_icmp_gt dX13_letter_3 (by decide) (kX13_letter_15 hZ) (kX13_letter_6 hZ))
noncomputable def fX13_letter : List Nat → rx_H → Option (Nat × rx_H) := rx_ent 1 bX13_letter_0
theorem met_X13_letter (hZ : zO b e D A X) : rx_Met (zV b e D A X) 0 yX13_letter mX13_letter fX13_letter := rx_entry hZ.1 (kX13_letter_0 hZ) (by decide +kernel) rfl (fun h => by cases h)
theorem zy_X13_letter : rx_Y (zV b e D A X) yX13_letter mX13_letter 1 := ⟨zw3660, zw431, by decide, by decide +kernel, by decide +kernel, by decide +kernel⟩
abbrev mX13_outByte : rx_M := (RX13, cX13_outByte, 2, none, false)
noncomputable def bX13_outByte_0 : rx_K := q_ld q_isR 0 (q_getf 13 2 (q_ld q_isR 0 (q_getf 13 3 (q_ld q_isI 1 (p_ast 0 (fun v => v) q_isI (q_ld q_isR 0 (q_dup (q_getf 13 3 (o_const 8 (q_bi q_Fadd (p_putf q_isI 13 3 (o_ret0))))))))))))
set_option maxRecDepth 20000 in
theorem kX13_outByte_0 (hZ : zO b e D A X) : rx_OK (zV b e D A X) mX13_outByte 0 0 bX13_outByte_0 := by
  unfold bX13_outByte_0
  refine rx_by (e_ldR _ _) (s_aload_n hZ.1 dX13_outByte_0 rfl ?_)
  refine zg13_2 dX13_outByte_1 zw4123 ?_
  refine rx_by (e_ldR _ _) (s_aload_n hZ.1 dX13_outByte_4 rfl ?_)
  refine zg13_3 dX13_outByte_5 zw4124 ?_
  refine rx_by (e_ldI _ _) (s_iload_n hZ.1 dX13_outByte_8 rfl ?_)
  refine rx_by2 (l_astI _ _ _) (s_iast hZ.1 (tt := 0) rfl dX13_outByte_9 ?_)
  refine rx_by (e_ldR _ _) (s_aload_n hZ.1 dX13_outByte_10 rfl ?_)
  refine rx_by (e_dup _) (s_dup hZ.1 dX13_outByte_11 ?_)
  refine zg13_3 dX13_outByte_12 zw4124 ?_
  refine s_iconst dX13_outByte_15 (by decide +kernel) ?_
  refine rx_by (e_add _) (s_iadd dX13_outByte_16 ?_)
  refine zp13_3 hZ.1 dX13_outByte_17 zw4124 ?_
  exact s_vret rfl dX13_outByte_20
noncomputable def fX13_outByte : List Nat → rx_H → Option (Nat × rx_H) := rx_ent 2 bX13_outByte_0
theorem met_X13_outByte (hZ : zO b e D A X) : rx_Met (zV b e D A X) 0 yX13_outByte mX13_outByte fX13_outByte := rx_entry hZ.1 (kX13_outByte_0 hZ) (by decide +kernel) rfl (fun h => by cases h)
theorem zy_X13_outByte : rx_Y (zV b e D A X) yX13_outByte mX13_outByte 1 := ⟨zw3649, zw431, by decide, by decide +kernel, by decide +kernel, by decide +kernel⟩
abbrev mX13_isC : rx_M := (RX13, cX13_isC, 2, (some .boolean), false)
noncomputable def bX13_isC_15 : rx_K := o_ret1 rx_isZ
set_option maxRecDepth 20000 in
theorem kX13_isC_15 (hZ : zO b e D A X) : rx_OK (zV b e D A X) mX13_isC 0 15 bX13_isC_15 := by
  unfold bX13_isC_15
  exact s_zret rx_z_ok rfl dX13_isC_15
noncomputable def bX13_isC_10 : rx_K := o_const 8 (bX13_isC_15)
set_option maxRecDepth 20000 in
theorem kX13_isC_10 (hZ : zO b e D A X) : rx_OK (zV b e D A X) mX13_isC 0 10 bX13_isC_10 := by
  unfold bX13_isC_10
  refine s_iconst dX13_isC_10 (by decide +kernel) ?_
  exact s_goto dX13_isC_11 (by decide) (kX13_isC_15 hZ)
noncomputable def bX13_isC_0 : rx_K := q_ld q_isL 0 (o_const 18446744073709551617 (o_bl (fun x y => x &&& y) (o_const 1 (o_bc (fun x y => lg_cmp x y) (q_eq1 o_none bX13_isC_10)))))
set_option maxRecDepth 20000 in
theorem kX13_isC_0 (hZ : zO b e D A X) : rx_OK (zV b e D A X) mX13_isC 0 0 bX13_isC_0 := by
  unfold bX13_isC_0
  refine rx_by (e_ld _ _ _) (s_lload_n hZ.1 dX13_isC_0 rfl ?_)
  refine s_ldc2 dX13_isC_1 zw2959 (by decide +kernel) ?_
  refine s_land dX13_isC_4 ?_
  refine s_lconst dX13_isC_5 (by decide +kernel) ?_
  refine s_lcmp dX13_isC_6 ?_
  exact rx_by (e_eq1 _ _) (s_if_eq dX13_isC_7 (by decide) (s_none (pc := 14)) (kX13_isC_10 hZ))
noncomputable def fX13_isC : List Nat → rx_H → Option (Nat × rx_H) := rx_ent 2 bX13_isC_0
theorem met_X13_isC (hZ : zO b e D A X) : rx_Met (zV b e D A X) 0 yX13_isC mX13_isC fX13_isC := rx_entry hZ.1 (kX13_isC_0 hZ) (by decide +kernel) rfl (fun h => by cases h)
theorem zy_X13_isC : rx_Y (zV b e D A X) yX13_isC mX13_isC 1 := ⟨zw3240, zw431, by decide, by decide +kernel, by decide +kernel, by decide +kernel⟩
end ZM11

section ZM9
variable {b : Nat} {e : Nat → Value} {D : va_G} {A : Nat → ClassId} {X : State → Prop}
abbrev mX12_picked : rx_M := (RX12, cX12_picked, 2, (some .int), false)
noncomputable def bX12_picked_17 : rx_K := o_ret1 rx_isI
set_option maxRecDepth 20000 in
theorem kX12_picked_17 (hZ : zO b e D A X) : rx_OK (zV b e D A X) mX12_picked 1 17 bX12_picked_17 := by
  unfold bX12_picked_17
  exact s_iret hZ.1 rfl dX12_picked_17
noncomputable def bX12_picked_16 : rx_K := o_const 34359738360 (bX12_picked_17)
set_option maxRecDepth 20000 in
theorem kX12_picked_16 (hZ : zO b e D A X) : rx_OK (zV b e D A X) mX12_picked 1 16 bX12_picked_16 := by
  unfold bX12_picked_16
  refine s_iconst dX12_picked_16 (by decide +kernel) ?_
  exact (kX12_picked_17 hZ)
noncomputable def bX12_picked_7 : rx_K := q_ld q_isR 0 (q_getf 12 6 (q_ld q_isI 1 (q_ald 0 (bX12_picked_17))))
set_option maxRecDepth 20000 in
theorem kX12_picked_7 (hZ : zO b e D A X) : rx_OK (zV b e D A X) mX12_picked 1 7 bX12_picked_7 := by
  unfold bX12_picked_7
  refine rx_by (e_ldR _ _) (s_aload_n hZ.1 dX12_picked_7 rfl ?_)
  refine zg12_6 dX12_picked_8 zw1609 ?_
  refine rx_by (e_ldI _ _) (s_iload_n hZ.1 dX12_picked_11 rfl ?_)
  refine rx_by (e_ald _ _) (s_iald (tt := 0) rfl dX12_picked_12 ?_)
  exact s_goto dX12_picked_13 (by decide) (kX12_picked_17 hZ)
noncomputable def bX12_picked_0 : rx_K := q_ld q_isI 1 (o_callS 1 fX12_isLibrary (q_eq1 bX12_picked_16 bX12_picked_7))
set_option maxRecDepth 20000 in
theorem kX12_picked_0 (hZ : zO b e D A X) : rx_OK (zV b e D A X) mX12_picked 1 0 bX12_picked_0 := by
  unfold bX12_picked_0
  refine rx_by (e_ldI _ _) (s_iload_n hZ.1 dX12_picked_0 rfl ?_)
  refine s_callS hZ.1 (met_X12_isLibrary hZ) (by decide) zy_X12_isLibrary zw1710 (Or.inl zw1709) dX12_picked_1 ?_
  exact rx_by (e_eq1 _ _) (s_if_eq dX12_picked_4 (by decide) (kX12_picked_16 hZ) (kX12_picked_7 hZ))
noncomputable def fX12_picked : List Nat → rx_H → Option (Nat × rx_H) := rx_ent 2 bX12_picked_0
theorem met_X12_picked (hZ : zO b e D A X) : rx_Met (zV b e D A X) 1 yX12_picked mX12_picked fX12_picked := rx_entry hZ.1 (kX12_picked_0 hZ) (by decide +kernel) rfl (fun h => by cases h)
theorem zy_X12_picked : rx_Y (zV b e D A X) yX12_picked mX12_picked 1 := ⟨zw2359, zw413, by decide, by decide +kernel, by decide +kernel, by decide +kernel⟩
abbrev mX12_classes : rx_M := (RX12, cX12_classes, 4, (some .int), false)
noncomputable def bX12_classes_19 : rx_K := o_ret1 rx_isI
set_option maxRecDepth 20000 in
theorem kX12_classes_19 (hZ : zO b e D A X) : rx_OK (zV b e D A X) mX12_classes 2 19 bX12_classes_19 := by
  unfold bX12_classes_19
  exact s_iret hZ.1 rfl dX12_classes_19
noncomputable def bX12_classes_11 : rx_K := o_const 34359738360 (bX12_classes_19)
set_option maxRecDepth 20000 in
theorem kX12_classes_11 (hZ : zO b e D A X) : rx_OK (zV b e D A X) mX12_classes 2 11 bX12_classes_11 := by
  unfold bX12_classes_11
  refine s_iconst dX12_classes_11 (by decide +kernel) ?_
  exact s_goto dX12_classes_12 (by decide) (kX12_classes_19 hZ)
noncomputable def bX12_classes_0 : rx_K := q_ld q_isR 0 (q_ld q_isI 1 (q_ld q_isI 2 (o_callV 2 12 fX12_buildOf (q_st q_isR 3 (q_ld q_isR 3 (o_nul bX12_classes_11 o_none))))))
set_option maxRecDepth 20000 in
theorem kX12_classes_0 (hZ : zO b e D A X) : rx_OK (zV b e D A X) mX12_classes 2 0 bX12_classes_0 := by
  unfold bX12_classes_0
  refine rx_by (e_ldR _ _) (s_aload_n hZ.1 dX12_classes_0 rfl ?_)
  refine rx_by (e_ldI _ _) (s_iload_n hZ.1 dX12_classes_1 rfl ?_)
  refine rx_by (e_ldI _ _) (s_iload_n hZ.1 dX12_classes_2 rfl ?_)
  refine s_callV hZ.1 (met_X12_buildOf hZ) (by decide) zy_X12_buildOf zcl12 zw1559 zw1 (Or.inl zw1557) dX12_classes_3 ?_
  refine rx_by (e_stR _ _) (s_astore_n hZ.1 dX12_classes_6 rfl (Nat.le_of_ble_eq_true rfl) ?_)
  refine rx_by (e_ldR _ _) (s_aload_n hZ.1 dX12_classes_7 rfl ?_)
  exact s_ifnonnull dX12_classes_8 (by decide) (s_none (pc := 15)) (kX12_classes_11 hZ)
noncomputable def fX12_classes : List Nat → rx_H → Option (Nat × rx_H) := rx_ent 4 bX12_classes_0
theorem met_X12_classes (hZ : zO b e D A X) : rx_Met (zV b e D A X) 2 yX12_classes mX12_classes fX12_classes := rx_entry hZ.1 (kX12_classes_0 hZ) (by decide +kernel) rfl (fun h => by cases h)
theorem zy_X12_classes : rx_Y (zV b e D A X) yX12_classes mX12_classes 2 := ⟨zw2363, zw413, by decide, by decide +kernel, by decide +kernel, by decide +kernel⟩
abbrev mX13_classes : rx_M := (RX13, cX13_classes, 4, (some .int), false)
noncomputable def bX13_classes_23 : rx_K := o_ret1 rx_isI
set_option maxRecDepth 20000 in
theorem kX13_classes_23 (hZ : zO b e D A X) : rx_OK (zV b e D A X) mX13_classes 2 23 bX13_classes_23 := by
  unfold bX13_classes_23
  exact s_iret hZ.1 rfl dX13_classes_23
noncomputable def bX13_classes_13 : rx_K := o_const 34359738360 (bX13_classes_23)
set_option maxRecDepth 20000 in
theorem kX13_classes_13 (hZ : zO b e D A X) : rx_OK (zV b e D A X) mX13_classes 2 13 bX13_classes_13 := by
  unfold bX13_classes_13
  refine s_iconst dX13_classes_13 (by decide +kernel) ?_
  exact s_goto dX13_classes_14 (by decide) (kX13_classes_23 hZ)
noncomputable def bX13_classes_0 : rx_K := q_ld q_isR 0 (q_ld q_isI 1 (q_ld q_isI 2 (o_callV 2 13 fX13_slotAt (q_st q_isI 3 (q_ld q_isI 3 (o_const 34359738352 (q_eq2 bX13_classes_13 o_none)))))))
set_option maxRecDepth 20000 in
theorem kX13_classes_0 (hZ : zO b e D A X) : rx_OK (zV b e D A X) mX13_classes 2 0 bX13_classes_0 := by
  unfold bX13_classes_0
  refine rx_by (e_ldR _ _) (s_aload_n hZ.1 dX13_classes_0 rfl ?_)
  refine rx_by (e_ldI _ _) (s_iload_n hZ.1 dX13_classes_1 rfl ?_)
  refine rx_by (e_ldI _ _) (s_iload_n hZ.1 dX13_classes_2 rfl ?_)
  refine s_callV hZ.1 (met_X13_slotAt hZ) (by decide) zy_X13_slotAt zcl13 zw3585 zw317 (Or.inl zw3583) dX13_classes_3 ?_
  refine rx_by (e_stI _ _) (s_istore_n hZ.1 dX13_classes_6 rfl (Nat.le_of_ble_eq_true rfl) ?_)
  refine rx_by (e_ldI _ _) (s_iload_n hZ.1 dX13_classes_7 rfl ?_)
  refine s_bipush dX13_classes_8 (by decide +kernel) ?_
  exact rx_by (e_eq2 _ _) (s_icmp_ne dX13_classes_10 (by decide) (s_none (pc := 17)) (kX13_classes_13 hZ))
noncomputable def fX13_classes : List Nat → rx_H → Option (Nat × rx_H) := rx_ent 4 bX13_classes_0
theorem met_X13_classes (hZ : zO b e D A X) : rx_Met (zV b e D A X) 2 yX13_classes mX13_classes fX13_classes := rx_entry hZ.1 (kX13_classes_0 hZ) (by decide +kernel) rfl (fun h => by cases h)
theorem zy_X13_classes : rx_Y (zV b e D A X) yX13_classes mX13_classes 2 := ⟨zw3619, zw431, by decide, by decide +kernel, by decide +kernel, by decide +kernel⟩
abbrev mX12_rowOf : rx_M := (RX12, cX12_rowOf, 5, (some (.object "LinkHouse$Row")), false)
noncomputable def bX12_rowOf_37 : rx_K := o_ret1 rx_isR
set_option maxRecDepth 20000 in
theorem kX12_rowOf_37 (hZ : zO b e D A X) : rx_OK (zV b e D A X) mX12_rowOf 2 37 bX12_rowOf_37 := by
  unfold bX12_rowOf_37
  exact s_aret hZ.1 rfl (Or.inl ⟨_, rfl⟩) dX12_rowOf_37
noncomputable def bX12_rowOf_26 : rx_K := o_const 3 (bX12_rowOf_37)
set_option maxRecDepth 20000 in
theorem kX12_rowOf_26 (hZ : zO b e D A X) : rx_OK (zV b e D A X) mX12_rowOf 2 26 bX12_rowOf_26 := by
  unfold bX12_rowOf_26
  refine s_null dX12_rowOf_26 ?_
  exact s_goto dX12_rowOf_27 (by decide) (kX12_rowOf_37 hZ)
noncomputable def bX12_rowOf_0 : rx_K := q_ld q_isR 0 (q_ld q_isI 1 (q_ld q_isI 2 (o_callV 2 12 fX12_buildOf (q_st q_isR 4 (q_ld q_isR 4 (o_nul bX12_rowOf_26 o_none))))))
set_option maxRecDepth 20000 in
theorem kX12_rowOf_0 (hZ : zO b e D A X) : rx_OK (zV b e D A X) mX12_rowOf 2 0 bX12_rowOf_0 := by
  unfold bX12_rowOf_0
  refine rx_by (e_ldR _ _) (s_aload_n hZ.1 dX12_rowOf_0 rfl ?_)
  refine rx_by (e_ldI _ _) (s_iload_n hZ.1 dX12_rowOf_1 rfl ?_)
  refine rx_by (e_ldI _ _) (s_iload_n hZ.1 dX12_rowOf_2 rfl ?_)
  refine s_callV hZ.1 (met_X12_buildOf hZ) (by decide) zy_X12_buildOf zcl12 zw1559 zw1 (Or.inl zw1557) dX12_rowOf_3 ?_
  refine rx_by (e_stR _ _) (s_astore hZ.1 dX12_rowOf_6 (Nat.le_of_ble_eq_true rfl) ?_)
  refine rx_by (e_ldR _ _) (s_aload hZ.1 dX12_rowOf_8 ?_)
  exact s_ifnull dX12_rowOf_10 (by decide) (kX12_rowOf_26 hZ) (s_none (pc := 13))
noncomputable def fX12_rowOf : List Nat → rx_H → Option (Nat × rx_H) := rx_ent 5 bX12_rowOf_0
theorem met_X12_rowOf (hZ : zO b e D A X) : rx_Met (zV b e D A X) 2 yX12_rowOf mX12_rowOf fX12_rowOf := rx_entry hZ.1 (kX12_rowOf_0 hZ) (by decide +kernel) rfl (fun h => by cases h)
theorem zy_X12_rowOf : rx_Y (zV b e D A X) yX12_rowOf mX12_rowOf 3 := ⟨zw2371, zw413, by decide, by decide +kernel, by decide +kernel, by decide +kernel⟩
abbrev mX12_members : rx_M := (RX12, cX12_members, 5, (some .int), false)
noncomputable def bX12_members_23 : rx_K := o_ret1 rx_isI
set_option maxRecDepth 20000 in
theorem kX12_members_23 (hZ : zO b e D A X) : rx_OK (zV b e D A X) mX12_members 3 23 bX12_members_23 := by
  unfold bX12_members_23
  exact s_iret hZ.1 rfl dX12_members_23
noncomputable def bX12_members_14 : rx_K := o_const 34359738360 (bX12_members_23)
set_option maxRecDepth 20000 in
theorem kX12_members_14 (hZ : zO b e D A X) : rx_OK (zV b e D A X) mX12_members 3 14 bX12_members_14 := by
  unfold bX12_members_14
  refine s_iconst dX12_members_14 (by decide +kernel) ?_
  exact s_goto dX12_members_15 (by decide) (kX12_members_23 hZ)
noncomputable def bX12_members_0 : rx_K := q_ld q_isR 0 (q_ld q_isI 1 (q_ld q_isI 2 (q_ld q_isI 3 (o_callV 3 12 fX12_rowOf (q_st q_isR 4 (q_ld q_isR 4 (o_nul bX12_members_14 o_none)))))))
set_option maxRecDepth 20000 in
theorem kX12_members_0 (hZ : zO b e D A X) : rx_OK (zV b e D A X) mX12_members 3 0 bX12_members_0 := by
  unfold bX12_members_0
  refine rx_by (e_ldR _ _) (s_aload_n hZ.1 dX12_members_0 rfl ?_)
  refine rx_by (e_ldI _ _) (s_iload_n hZ.1 dX12_members_1 rfl ?_)
  refine rx_by (e_ldI _ _) (s_iload_n hZ.1 dX12_members_2 rfl ?_)
  refine rx_by (e_ldI _ _) (s_iload_n hZ.1 dX12_members_3 rfl ?_)
  refine s_callV hZ.1 (met_X12_rowOf hZ) (by decide) zy_X12_rowOf zcl12 zw2370 zw113 (Or.inl zw2368) dX12_members_4 ?_
  refine rx_by (e_stR _ _) (s_astore hZ.1 dX12_members_7 (Nat.le_of_ble_eq_true rfl) ?_)
  refine rx_by (e_ldR _ _) (s_aload hZ.1 dX12_members_9 ?_)
  exact s_ifnonnull dX12_members_11 (by decide) (s_none (pc := 18)) (kX12_members_14 hZ)
noncomputable def fX12_members : List Nat → rx_H → Option (Nat × rx_H) := rx_ent 5 bX12_members_0
theorem met_X12_members (hZ : zO b e D A X) : rx_Met (zV b e D A X) 3 yX12_members mX12_members fX12_members := rx_entry hZ.1 (kX12_members_0 hZ) (by decide +kernel) rfl (fun h => by cases h)
theorem zy_X12_members : rx_Y (zV b e D A X) yX12_members mX12_members 3 := ⟨zw2367, zw413, by decide, by decide +kernel, by decide +kernel, by decide +kernel⟩
abbrev mX13_classAt : rx_M := (RX13, cX13_classAt, 5, (some .int), false)
noncomputable def bX13_classAt_42 : rx_K := o_ret1 rx_isI
set_option maxRecDepth 20000 in
theorem kX13_classAt_42 (hZ : zO b e D A X) : rx_OK (zV b e D A X) mX13_classAt 2 42 bX13_classAt_42 := by
  unfold bX13_classAt_42
  exact s_iret hZ.1 rfl dX13_classAt_42
noncomputable def bX13_classAt_30 : rx_K := o_const 34359738352 (bX13_classAt_42)
set_option maxRecDepth 20000 in
theorem kX13_classAt_30 (hZ : zO b e D A X) : rx_OK (zV b e D A X) mX13_classAt 2 30 bX13_classAt_30 := by
  unfold bX13_classAt_30
  refine s_bipush dX13_classAt_30 (by decide +kernel) ?_
  exact s_goto dX13_classAt_32 (by decide) (kX13_classAt_42 hZ)
noncomputable def bX13_classAt_0 : rx_K := q_ld q_isR 0 (q_ld q_isI 1 (q_ld q_isI 2 (o_callV 2 13 fX13_slotAt (q_st q_isI 4 (q_ld q_isI 4 (o_const 34359738352 (q_eq2 bX13_classAt_30 o_none)))))))
set_option maxRecDepth 20000 in
theorem kX13_classAt_0 (hZ : zO b e D A X) : rx_OK (zV b e D A X) mX13_classAt 2 0 bX13_classAt_0 := by
  unfold bX13_classAt_0
  refine rx_by (e_ldR _ _) (s_aload_n hZ.1 dX13_classAt_0 rfl ?_)
  refine rx_by (e_ldI _ _) (s_iload_n hZ.1 dX13_classAt_1 rfl ?_)
  refine rx_by (e_ldI _ _) (s_iload_n hZ.1 dX13_classAt_2 rfl ?_)
  refine s_callV hZ.1 (met_X13_slotAt hZ) (by decide) zy_X13_slotAt zcl13 zw3585 zw317 (Or.inl zw3583) dX13_classAt_3 ?_
  refine rx_by (e_stI _ _) (s_istore hZ.1 dX13_classAt_6 (Nat.le_of_ble_eq_true rfl) ?_)
  refine rx_by (e_ldI _ _) (s_iload hZ.1 dX13_classAt_8 ?_)
  refine s_bipush dX13_classAt_10 (by decide +kernel) ?_
  exact rx_by (e_eq2 _ _) (s_icmp_eq dX13_classAt_12 (by decide) (kX13_classAt_30 hZ) (s_none (pc := 15)))
noncomputable def fX13_classAt : List Nat → rx_H → Option (Nat × rx_H) := rx_ent 5 bX13_classAt_0
theorem met_X13_classAt (hZ : zO b e D A X) : rx_Met (zV b e D A X) 2 yX13_classAt mX13_classAt fX13_classAt := rx_entry hZ.1 (kX13_classAt_0 hZ) (by decide +kernel) rfl (fun h => by cases h)
theorem zy_X13_classAt : rx_Y (zV b e D A X) yX13_classAt mX13_classAt 3 := ⟨zw3627, zw431, by decide, by decide +kernel, by decide +kernel, by decide +kernel⟩
abbrev mX13_members : rx_M := (RX13, cX13_members, 5, (some .int), false)
noncomputable def bX13_members_26 : rx_K := o_ret1 rx_isI
set_option maxRecDepth 20000 in
theorem kX13_members_26 (hZ : zO b e D A X) : rx_OK (zV b e D A X) mX13_members 3 26 bX13_members_26 := by
  unfold bX13_members_26
  exact s_iret hZ.1 rfl dX13_members_26
noncomputable def bX13_members_16 : rx_K := o_const 34359738360 (bX13_members_26)
set_option maxRecDepth 20000 in
theorem kX13_members_16 (hZ : zO b e D A X) : rx_OK (zV b e D A X) mX13_members 3 16 bX13_members_16 := by
  unfold bX13_members_16
  refine s_iconst dX13_members_16 (by decide +kernel) ?_
  exact s_goto dX13_members_17 (by decide) (kX13_members_26 hZ)
noncomputable def bX13_members_0 : rx_K := q_ld q_isR 0 (q_ld q_isI 1 (q_ld q_isI 2 (q_ld q_isI 3 (o_callV 3 13 fX13_classAt (q_st q_isI 4 (q_ld q_isI 4 (o_const 34359738352 (q_eq2 bX13_members_16 o_none))))))))
set_option maxRecDepth 20000 in
theorem kX13_members_0 (hZ : zO b e D A X) : rx_OK (zV b e D A X) mX13_members 3 0 bX13_members_0 := by
  unfold bX13_members_0
  refine rx_by (e_ldR _ _) (s_aload_n hZ.1 dX13_members_0 rfl ?_)
  refine rx_by (e_ldI _ _) (s_iload_n hZ.1 dX13_members_1 rfl ?_)
  refine rx_by (e_ldI _ _) (s_iload_n hZ.1 dX13_members_2 rfl ?_)
  refine rx_by (e_ldI _ _) (s_iload_n hZ.1 dX13_members_3 rfl ?_)
  refine s_callV hZ.1 (met_X13_classAt hZ) (by decide) zy_X13_classAt zcl13 zw3626 zw323 (Or.inl zw3624) dX13_members_4 ?_
  refine rx_by (e_stI _ _) (s_istore hZ.1 dX13_members_7 (Nat.le_of_ble_eq_true rfl) ?_)
  refine rx_by (e_ldI _ _) (s_iload hZ.1 dX13_members_9 ?_)
  refine s_bipush dX13_members_11 (by decide +kernel) ?_
  exact rx_by (e_eq2 _ _) (s_icmp_ne dX13_members_13 (by decide) (s_none (pc := 20)) (kX13_members_16 hZ))
noncomputable def fX13_members : List Nat → rx_H → Option (Nat × rx_H) := rx_ent 5 bX13_members_0
theorem met_X13_members (hZ : zO b e D A X) : rx_Met (zV b e D A X) 3 yX13_members mX13_members fX13_members := rx_entry hZ.1 (kX13_members_0 hZ) (by decide +kernel) rfl (fun h => by cases h)
theorem zy_X13_members : rx_Y (zV b e D A X) yX13_members mX13_members 3 := ⟨zw3623, zw431, by decide, by decide +kernel, by decide +kernel, by decide +kernel⟩
abbrev mX12_shape : rx_M := (RX12, cX12_shape, 6, (some .int), false)
noncomputable def bX12_shape_36 : rx_K := o_const 34359738360 (o_ret1 rx_isI)
set_option maxRecDepth 20000 in
theorem kX12_shape_36 (hZ : zO b e D A X) : rx_OK (zV b e D A X) mX12_shape 3 36 bX12_shape_36 := by
  unfold bX12_shape_36
  refine s_iconst dX12_shape_36 (by decide +kernel) ?_
  exact s_iret hZ.1 rfl dX12_shape_37
noncomputable def bX12_shape_0 : rx_K := q_ld q_isR 0 (q_ld q_isI 1 (q_ld q_isI 2 (q_ld q_isI 3 (o_callV 3 12 fX12_rowOf (q_st q_isR 5 (q_ld q_isR 5 (o_nul bX12_shape_36 o_none)))))))
set_option maxRecDepth 20000 in
theorem kX12_shape_0 (hZ : zO b e D A X) : rx_OK (zV b e D A X) mX12_shape 3 0 bX12_shape_0 := by
  unfold bX12_shape_0
  refine rx_by (e_ldR _ _) (s_aload_n hZ.1 dX12_shape_0 rfl ?_)
  refine rx_by (e_ldI _ _) (s_iload_n hZ.1 dX12_shape_1 rfl ?_)
  refine rx_by (e_ldI _ _) (s_iload_n hZ.1 dX12_shape_2 rfl ?_)
  refine rx_by (e_ldI _ _) (s_iload_n hZ.1 dX12_shape_3 rfl ?_)
  refine s_callV hZ.1 (met_X12_rowOf hZ) (by decide) zy_X12_rowOf zcl12 zw2370 zw113 (Or.inl zw2368) dX12_shape_4 ?_
  refine rx_by (e_stR _ _) (s_astore hZ.1 dX12_shape_7 (Nat.le_of_ble_eq_true rfl) ?_)
  refine rx_by (e_ldR _ _) (s_aload hZ.1 dX12_shape_9 ?_)
  exact s_ifnull dX12_shape_11 (by decide) (kX12_shape_36 hZ) (s_none (pc := 14))
noncomputable def fX12_shape : List Nat → rx_H → Option (Nat × rx_H) := rx_ent 6 bX12_shape_0
theorem met_X12_shape (hZ : zO b e D A X) : rx_Met (zV b e D A X) 3 yX12_shape mX12_shape fX12_shape := rx_entry hZ.1 (kX12_shape_0 hZ) (by decide +kernel) rfl (fun h => by cases h)
theorem zy_X12_shape : rx_Y (zV b e D A X) yX12_shape mX12_shape 4 := ⟨zw2375, zw413, by decide, by decide +kernel, by decide +kernel, by decide +kernel⟩
abbrev mX13_shape : rx_M := (RX13, cX13_shape, 7, (some .int), false)
noncomputable def bX13_shape_57 : rx_K := o_const 34359738360 (o_ret1 rx_isI)
set_option maxRecDepth 20000 in
theorem kX13_shape_57 (hZ : zO b e D A X) : rx_OK (zV b e D A X) mX13_shape 3 57 bX13_shape_57 := by
  unfold bX13_shape_57
  refine s_iconst dX13_shape_57 (by decide +kernel) ?_
  exact s_iret hZ.1 rfl dX13_shape_58
noncomputable def bX13_shape_34 : rx_K := q_st q_isI 6 (q_ld q_isI 5 (o_const 34359738352 (q_eq2 bX13_shape_57 o_none)))
set_option maxRecDepth 20000 in
theorem kX13_shape_34 (hZ : zO b e D A X) : rx_OK (zV b e D A X) mX13_shape 3 34 bX13_shape_34 := by
  unfold bX13_shape_34
  refine rx_by (e_stI _ _) (s_istore hZ.1 dX13_shape_34 (Nat.le_of_ble_eq_true rfl) ?_)
  refine rx_by (e_ldI _ _) (s_iload hZ.1 dX13_shape_36 ?_)
  refine s_bipush dX13_shape_38 (by decide +kernel) ?_
  exact rx_by (e_eq2 _ _) (s_icmp_eq dX13_shape_40 (by decide) (kX13_shape_57 hZ) (s_none (pc := 43)))
noncomputable def bX13_shape_21 : rx_K := o_const 34359738352 (bX13_shape_34)
set_option maxRecDepth 20000 in
theorem kX13_shape_21 (hZ : zO b e D A X) : rx_OK (zV b e D A X) mX13_shape 3 21 bX13_shape_21 := by
  unfold bX13_shape_21
  refine s_bipush dX13_shape_21 (by decide +kernel) ?_
  exact s_goto dX13_shape_23 (by decide) (kX13_shape_34 hZ)
noncomputable def bX13_shape_0 : rx_K := q_ld q_isR 0 (q_ld q_isI 1 (q_ld q_isI 2 (q_ld q_isI 3 (o_callV 3 13 fX13_classAt (q_st q_isI 5 (q_ld q_isI 5 (o_const 34359738352 (q_eq2 bX13_shape_21 o_none))))))))
set_option maxRecDepth 20000 in
theorem kX13_shape_0 (hZ : zO b e D A X) : rx_OK (zV b e D A X) mX13_shape 3 0 bX13_shape_0 := by
  unfold bX13_shape_0
  refine rx_by (e_ldR _ _) (s_aload_n hZ.1 dX13_shape_0 rfl ?_)
  refine rx_by (e_ldI _ _) (s_iload_n hZ.1 dX13_shape_1 rfl ?_)
  refine rx_by (e_ldI _ _) (s_iload_n hZ.1 dX13_shape_2 rfl ?_)
  refine rx_by (e_ldI _ _) (s_iload_n hZ.1 dX13_shape_3 rfl ?_)
  refine s_callV hZ.1 (met_X13_classAt hZ) (by decide) zy_X13_classAt zcl13 zw3626 zw323 (Or.inl zw3624) dX13_shape_4 ?_
  refine rx_by (e_stI _ _) (s_istore hZ.1 dX13_shape_7 (Nat.le_of_ble_eq_true rfl) ?_)
  refine rx_by (e_ldI _ _) (s_iload hZ.1 dX13_shape_9 ?_)
  refine s_bipush dX13_shape_11 (by decide +kernel) ?_
  exact rx_by (e_eq2 _ _) (s_icmp_eq dX13_shape_13 (by decide) (kX13_shape_21 hZ) (s_none (pc := 16)))
noncomputable def fX13_shape : List Nat → rx_H → Option (Nat × rx_H) := rx_ent 7 bX13_shape_0
theorem met_X13_shape (hZ : zO b e D A X) : rx_Met (zV b e D A X) 3 yX13_shape mX13_shape fX13_shape := rx_entry hZ.1 (kX13_shape_0 hZ) (by decide +kernel) rfl (fun h => by cases h)
theorem zy_X13_shape : rx_Y (zV b e D A X) yX13_shape mX13_shape 4 := ⟨zw3635, zw431, by decide, by decide +kernel, by decide +kernel, by decide +kernel⟩
abbrev mX12_uses : rx_M := (RX12, cX12_uses, 4, (some .int), false)
noncomputable def bX12_uses_19 : rx_K := o_ret1 rx_isI
set_option maxRecDepth 20000 in
theorem kX12_uses_19 (hZ : zO b e D A X) : rx_OK (zV b e D A X) mX12_uses 2 19 bX12_uses_19 := by
  unfold bX12_uses_19
  exact s_iret hZ.1 rfl dX12_uses_19
noncomputable def bX12_uses_11 : rx_K := o_const 34359738360 (bX12_uses_19)
set_option maxRecDepth 20000 in
theorem kX12_uses_11 (hZ : zO b e D A X) : rx_OK (zV b e D A X) mX12_uses 2 11 bX12_uses_11 := by
  unfold bX12_uses_11
  refine s_iconst dX12_uses_11 (by decide +kernel) ?_
  exact s_goto dX12_uses_12 (by decide) (kX12_uses_19 hZ)
noncomputable def bX12_uses_0 : rx_K := q_ld q_isR 0 (q_ld q_isI 1 (q_ld q_isI 2 (o_callV 2 12 fX12_buildOf (q_st q_isR 3 (q_ld q_isR 3 (o_nul bX12_uses_11 o_none))))))
set_option maxRecDepth 20000 in
theorem kX12_uses_0 (hZ : zO b e D A X) : rx_OK (zV b e D A X) mX12_uses 2 0 bX12_uses_0 := by
  unfold bX12_uses_0
  refine rx_by (e_ldR _ _) (s_aload_n hZ.1 dX12_uses_0 rfl ?_)
  refine rx_by (e_ldI _ _) (s_iload_n hZ.1 dX12_uses_1 rfl ?_)
  refine rx_by (e_ldI _ _) (s_iload_n hZ.1 dX12_uses_2 rfl ?_)
  refine s_callV hZ.1 (met_X12_buildOf hZ) (by decide) zy_X12_buildOf zcl12 zw1559 zw1 (Or.inl zw1557) dX12_uses_3 ?_
  refine rx_by (e_stR _ _) (s_astore_n hZ.1 dX12_uses_6 rfl (Nat.le_of_ble_eq_true rfl) ?_)
  refine rx_by (e_ldR _ _) (s_aload_n hZ.1 dX12_uses_7 rfl ?_)
  exact s_ifnonnull dX12_uses_8 (by decide) (s_none (pc := 15)) (kX12_uses_11 hZ)
noncomputable def fX12_uses : List Nat → rx_H → Option (Nat × rx_H) := rx_ent 4 bX12_uses_0
theorem met_X12_uses (hZ : zO b e D A X) : rx_Met (zV b e D A X) 2 yX12_uses mX12_uses fX12_uses := rx_entry hZ.1 (kX12_uses_0 hZ) (by decide +kernel) rfl (fun h => by cases h)
theorem zy_X12_uses : rx_Y (zV b e D A X) yX12_uses mX12_uses 2 := ⟨zw2451, zw413, by decide, by decide +kernel, by decide +kernel, by decide +kernel⟩
abbrev mX13_uses : rx_M := (RX13, cX13_uses, 4, (some .int), false)
noncomputable def bX13_uses_23 : rx_K := o_ret1 rx_isI
set_option maxRecDepth 20000 in
theorem kX13_uses_23 (hZ : zO b e D A X) : rx_OK (zV b e D A X) mX13_uses 2 23 bX13_uses_23 := by
  unfold bX13_uses_23
  exact s_iret hZ.1 rfl dX13_uses_23
noncomputable def bX13_uses_13 : rx_K := o_const 34359738360 (bX13_uses_23)
set_option maxRecDepth 20000 in
theorem kX13_uses_13 (hZ : zO b e D A X) : rx_OK (zV b e D A X) mX13_uses 2 13 bX13_uses_13 := by
  unfold bX13_uses_13
  refine s_iconst dX13_uses_13 (by decide +kernel) ?_
  exact s_goto dX13_uses_14 (by decide) (kX13_uses_23 hZ)
noncomputable def bX13_uses_0 : rx_K := q_ld q_isR 0 (q_ld q_isI 1 (q_ld q_isI 2 (o_callV 2 13 fX13_slotAt (q_st q_isI 3 (q_ld q_isI 3 (o_const 34359738352 (q_eq2 bX13_uses_13 o_none)))))))
set_option maxRecDepth 20000 in
theorem kX13_uses_0 (hZ : zO b e D A X) : rx_OK (zV b e D A X) mX13_uses 2 0 bX13_uses_0 := by
  unfold bX13_uses_0
  refine rx_by (e_ldR _ _) (s_aload_n hZ.1 dX13_uses_0 rfl ?_)
  refine rx_by (e_ldI _ _) (s_iload_n hZ.1 dX13_uses_1 rfl ?_)
  refine rx_by (e_ldI _ _) (s_iload_n hZ.1 dX13_uses_2 rfl ?_)
  refine s_callV hZ.1 (met_X13_slotAt hZ) (by decide) zy_X13_slotAt zcl13 zw3585 zw317 (Or.inl zw3583) dX13_uses_3 ?_
  refine rx_by (e_stI _ _) (s_istore_n hZ.1 dX13_uses_6 rfl (Nat.le_of_ble_eq_true rfl) ?_)
  refine rx_by (e_ldI _ _) (s_iload_n hZ.1 dX13_uses_7 rfl ?_)
  refine s_bipush dX13_uses_8 (by decide +kernel) ?_
  exact rx_by (e_eq2 _ _) (s_icmp_ne dX13_uses_10 (by decide) (s_none (pc := 17)) (kX13_uses_13 hZ))
noncomputable def fX13_uses : List Nat → rx_H → Option (Nat × rx_H) := rx_ent 4 bX13_uses_0
theorem met_X13_uses (hZ : zO b e D A X) : rx_Met (zV b e D A X) 2 yX13_uses mX13_uses fX13_uses := rx_entry hZ.1 (kX13_uses_0 hZ) (by decide +kernel) rfl (fun h => by cases h)
theorem zy_X13_uses : rx_Y (zV b e D A X) yX13_uses mX13_uses 2 := ⟨zw3693, zw431, by decide, by decide +kernel, by decide +kernel, by decide +kernel⟩
abbrev mX12_hasUse : rx_M := (RX12, cX12_hasUse, 2, (some .boolean), false)
noncomputable def bX12_hasUse_20 : rx_K := o_const 0 (o_ret1 rx_isZ)
set_option maxRecDepth 20000 in
theorem kX12_hasUse_20 (hZ : zO b e D A X) : rx_OK (zV b e D A X) mX12_hasUse 0 20 bX12_hasUse_20 := by
  unfold bX12_hasUse_20
  refine s_iconst dX12_hasUse_20 (by decide +kernel) ?_
  exact s_zret rx_z_ok rfl dX12_hasUse_21
noncomputable def bX12_hasUse_0 : rx_K := q_ld q_isR 0 (o_nul bX12_hasUse_20 o_none)
set_option maxRecDepth 20000 in
theorem kX12_hasUse_0 (hZ : zO b e D A X) : rx_OK (zV b e D A X) mX12_hasUse 0 0 bX12_hasUse_0 := by
  unfold bX12_hasUse_0
  refine rx_by (e_ldR _ _) (s_aload_n hZ.1 dX12_hasUse_0 rfl ?_)
  exact s_ifnull dX12_hasUse_1 (by decide) (kX12_hasUse_20 hZ) (s_none (pc := 4))
noncomputable def fX12_hasUse : List Nat → rx_H → Option (Nat × rx_H) := rx_ent 2 bX12_hasUse_0
theorem met_X12_hasUse (hZ : zO b e D A X) : rx_Met (zV b e D A X) 0 yX12_hasUse mX12_hasUse fX12_hasUse := rx_entry hZ.1 (kX12_hasUse_0 hZ) (by decide +kernel) rfl (fun h => by cases h)
theorem zy_X12_hasUse : rx_Y (zV b e D A X) yX12_hasUse mX12_hasUse 2 := ⟨zw2458, zw413, by decide, by decide +kernel, by decide +kernel, by decide +kernel⟩
abbrev mX12_use : rx_M := (RX12, cX12_use, 6, (some .int), false)
noncomputable def bX12_use_28 : rx_K := o_const 34359738360 (o_ret1 rx_isI)
set_option maxRecDepth 20000 in
theorem kX12_use_28 (hZ : zO b e D A X) : rx_OK (zV b e D A X) mX12_use 2 28 bX12_use_28 := by
  unfold bX12_use_28
  refine s_iconst dX12_use_28 (by decide +kernel) ?_
  exact s_iret hZ.1 rfl dX12_use_29
noncomputable def bX12_use_0 : rx_K := q_ld q_isR 0 (q_ld q_isI 1 (q_ld q_isI 2 (o_callV 2 12 fX12_buildOf (q_st q_isR 5 (q_ld q_isR 5 (q_ld q_isI 3 (o_callS 2 fX12_hasUse (q_eq1 bX12_use_28 o_none))))))))
set_option maxRecDepth 20000 in
theorem kX12_use_0 (hZ : zO b e D A X) : rx_OK (zV b e D A X) mX12_use 2 0 bX12_use_0 := by
  unfold bX12_use_0
  refine rx_by (e_ldR _ _) (s_aload_n hZ.1 dX12_use_0 rfl ?_)
  refine rx_by (e_ldI _ _) (s_iload_n hZ.1 dX12_use_1 rfl ?_)
  refine rx_by (e_ldI _ _) (s_iload_n hZ.1 dX12_use_2 rfl ?_)
  refine s_callV hZ.1 (met_X12_buildOf hZ) (by decide) zy_X12_buildOf zcl12 zw1559 zw1 (Or.inl zw1557) dX12_use_3 ?_
  refine rx_by (e_stR _ _) (s_astore hZ.1 dX12_use_6 (Nat.le_of_ble_eq_true rfl) ?_)
  refine rx_by (e_ldR _ _) (s_aload hZ.1 dX12_use_8 ?_)
  refine rx_by (e_ldI _ _) (s_iload_n hZ.1 dX12_use_10 rfl ?_)
  refine s_callS hZ.1 (met_X12_hasUse hZ) (by decide) zy_X12_hasUse zw2457 (Or.inl zw2456) dX12_use_11 ?_
  exact rx_by (e_eq1 _ _) (s_if_eq dX12_use_14 (by decide) (kX12_use_28 hZ) (s_none (pc := 17)))
noncomputable def fX12_use : List Nat → rx_H → Option (Nat × rx_H) := rx_ent 6 bX12_use_0
theorem met_X12_use (hZ : zO b e D A X) : rx_Met (zV b e D A X) 2 yX12_use mX12_use fX12_use := rx_entry hZ.1 (kX12_use_0 hZ) (by decide +kernel) rfl (fun h => by cases h)
theorem zy_X12_use : rx_Y (zV b e D A X) yX12_use mX12_use 4 := ⟨zw2455, zw413, by decide, by decide +kernel, by decide +kernel, by decide +kernel⟩
abbrev mX13_useAt : rx_M := (RX13, cX13_useAt, 5, (some .int), false)
noncomputable def bX13_useAt_43 : rx_K := o_ret1 rx_isI
set_option maxRecDepth 20000 in
theorem kX13_useAt_43 (hZ : zO b e D A X) : rx_OK (zV b e D A X) mX13_useAt 2 43 bX13_useAt_43 := by
  unfold bX13_useAt_43
  exact s_iret hZ.1 rfl dX13_useAt_43
noncomputable def bX13_useAt_30 : rx_K := o_const 34359738352 (bX13_useAt_43)
set_option maxRecDepth 20000 in
theorem kX13_useAt_30 (hZ : zO b e D A X) : rx_OK (zV b e D A X) mX13_useAt 2 30 bX13_useAt_30 := by
  unfold bX13_useAt_30
  refine s_bipush dX13_useAt_30 (by decide +kernel) ?_
  exact s_goto dX13_useAt_32 (by decide) (kX13_useAt_43 hZ)
noncomputable def bX13_useAt_0 : rx_K := q_ld q_isR 0 (q_ld q_isI 1 (q_ld q_isI 2 (o_callV 2 13 fX13_slotAt (q_st q_isI 4 (q_ld q_isI 4 (o_const 34359738352 (q_eq2 bX13_useAt_30 o_none)))))))
set_option maxRecDepth 20000 in
theorem kX13_useAt_0 (hZ : zO b e D A X) : rx_OK (zV b e D A X) mX13_useAt 2 0 bX13_useAt_0 := by
  unfold bX13_useAt_0
  refine rx_by (e_ldR _ _) (s_aload_n hZ.1 dX13_useAt_0 rfl ?_)
  refine rx_by (e_ldI _ _) (s_iload_n hZ.1 dX13_useAt_1 rfl ?_)
  refine rx_by (e_ldI _ _) (s_iload_n hZ.1 dX13_useAt_2 rfl ?_)
  refine s_callV hZ.1 (met_X13_slotAt hZ) (by decide) zy_X13_slotAt zcl13 zw3585 zw317 (Or.inl zw3583) dX13_useAt_3 ?_
  refine rx_by (e_stI _ _) (s_istore hZ.1 dX13_useAt_6 (Nat.le_of_ble_eq_true rfl) ?_)
  refine rx_by (e_ldI _ _) (s_iload hZ.1 dX13_useAt_8 ?_)
  refine s_bipush dX13_useAt_10 (by decide +kernel) ?_
  exact rx_by (e_eq2 _ _) (s_icmp_eq dX13_useAt_12 (by decide) (kX13_useAt_30 hZ) (s_none (pc := 15)))
noncomputable def fX13_useAt : List Nat → rx_H → Option (Nat × rx_H) := rx_ent 5 bX13_useAt_0
theorem met_X13_useAt (hZ : zO b e D A X) : rx_Met (zV b e D A X) 2 yX13_useAt mX13_useAt fX13_useAt := rx_entry hZ.1 (kX13_useAt_0 hZ) (by decide +kernel) rfl (fun h => by cases h)
theorem zy_X13_useAt : rx_Y (zV b e D A X) yX13_useAt mX13_useAt 3 := ⟨zw3701, zw431, by decide, by decide +kernel, by decide +kernel, by decide +kernel⟩
abbrev mX13_use : rx_M := (RX13, cX13_use, 6, (some .int), false)
noncomputable def bX13_use_56 : rx_K := o_ret1 rx_isI
set_option maxRecDepth 20000 in
theorem kX13_use_56 (hZ : zO b e D A X) : rx_OK (zV b e D A X) mX13_use 3 56 bX13_use_56 := by
  unfold bX13_use_56
  exact s_iret hZ.1 rfl dX13_use_56
noncomputable def bX13_use_27 : rx_K := o_const 34359738360 (bX13_use_56)
set_option maxRecDepth 20000 in
theorem kX13_use_27 (hZ : zO b e D A X) : rx_OK (zV b e D A X) mX13_use 3 27 bX13_use_27 := by
  unfold bX13_use_27
  refine s_iconst dX13_use_27 (by decide +kernel) ?_
  exact s_goto dX13_use_28 (by decide) (kX13_use_56 hZ)
noncomputable def bX13_use_0 : rx_K := q_ld q_isR 0 (q_ld q_isI 1 (q_ld q_isI 2 (q_ld q_isI 3 (o_callV 3 13 fX13_useAt (q_st q_isI 5 (q_ld q_isI 5 (o_const 34359738352 (q_eq2 bX13_use_27 o_none))))))))
set_option maxRecDepth 20000 in
theorem kX13_use_0 (hZ : zO b e D A X) : rx_OK (zV b e D A X) mX13_use 3 0 bX13_use_0 := by
  unfold bX13_use_0
  refine rx_by (e_ldR _ _) (s_aload_n hZ.1 dX13_use_0 rfl ?_)
  refine rx_by (e_ldI _ _) (s_iload_n hZ.1 dX13_use_1 rfl ?_)
  refine rx_by (e_ldI _ _) (s_iload_n hZ.1 dX13_use_2 rfl ?_)
  refine rx_by (e_ldI _ _) (s_iload_n hZ.1 dX13_use_3 rfl ?_)
  refine s_callV hZ.1 (met_X13_useAt hZ) (by decide) zy_X13_useAt zcl13 zw3700 zw333 (Or.inl zw3698) dX13_use_4 ?_
  refine rx_by (e_stI _ _) (s_istore hZ.1 dX13_use_7 (Nat.le_of_ble_eq_true rfl) ?_)
  refine rx_by (e_ldI _ _) (s_iload hZ.1 dX13_use_9 ?_)
  refine s_bipush dX13_use_11 (by decide +kernel) ?_
  exact rx_by (e_eq2 _ _) (s_icmp_eq dX13_use_13 (by decide) (kX13_use_27 hZ) (s_none (pc := 16)))
noncomputable def fX13_use : List Nat → rx_H → Option (Nat × rx_H) := rx_ent 6 bX13_use_0
theorem met_X13_use (hZ : zO b e D A X) : rx_Met (zV b e D A X) 3 yX13_use mX13_use fX13_use := rx_entry hZ.1 (kX13_use_0 hZ) (by decide +kernel) rfl (fun h => by cases h)
theorem zy_X13_use : rx_Y (zV b e D A X) yX13_use mX13_use 4 := ⟨zw3697, zw431, by decide, by decide +kernel, by decide +kernel, by decide +kernel⟩
abbrev mX12_tell : rx_M := (RX12, cX12_tell, 7, (some .int), false)
noncomputable def bX12_tell_17 : rx_K := o_const 34359738360 (o_ret1 rx_isI)
set_option maxRecDepth 20000 in
theorem kX12_tell_17 (hZ : zO b e D A X) : rx_OK (zV b e D A X) mX12_tell 2 17 bX12_tell_17 := by
  unfold bX12_tell_17
  refine s_iconst dX12_tell_17 (by decide +kernel) ?_
  exact s_iret hZ.1 rfl dX12_tell_18
noncomputable def bX12_tell_0 : rx_K := q_ld q_isR 0 (q_ld q_isI 1 (q_ld q_isI 2 (o_callV 2 12 fX12_buildOf (q_st q_isR 4 (q_ld q_isR 4 (q_ld q_isI 3 (o_callS 2 fX12_hasUse (q_eq1 bX12_tell_17 o_none))))))))
set_option maxRecDepth 20000 in
theorem kX12_tell_0 (hZ : zO b e D A X) : rx_OK (zV b e D A X) mX12_tell 2 0 bX12_tell_0 := by
  unfold bX12_tell_0
  refine rx_by (e_ldR _ _) (s_aload_n hZ.1 dX12_tell_0 rfl ?_)
  refine rx_by (e_ldI _ _) (s_iload_n hZ.1 dX12_tell_1 rfl ?_)
  refine rx_by (e_ldI _ _) (s_iload_n hZ.1 dX12_tell_2 rfl ?_)
  refine s_callV hZ.1 (met_X12_buildOf hZ) (by decide) zy_X12_buildOf zcl12 zw1559 zw1 (Or.inl zw1557) dX12_tell_3 ?_
  refine rx_by (e_stR _ _) (s_astore hZ.1 dX12_tell_6 (Nat.le_of_ble_eq_true rfl) ?_)
  refine rx_by (e_ldR _ _) (s_aload hZ.1 dX12_tell_8 ?_)
  refine rx_by (e_ldI _ _) (s_iload_n hZ.1 dX12_tell_10 rfl ?_)
  refine s_callS hZ.1 (met_X12_hasUse hZ) (by decide) zy_X12_hasUse zw2457 (Or.inl zw2456) dX12_tell_11 ?_
  exact rx_by (e_eq1 _ _) (s_if_ne dX12_tell_14 (by decide) (s_none (pc := 19)) (kX12_tell_17 hZ))
noncomputable def fX12_tell : List Nat → rx_H → Option (Nat × rx_H) := rx_ent 7 bX12_tell_0
theorem met_X12_tell (hZ : zO b e D A X) : rx_Met (zV b e D A X) 2 yX12_tell mX12_tell fX12_tell := rx_entry hZ.1 (kX12_tell_0 hZ) (by decide +kernel) rfl (fun h => by cases h)
theorem zy_X12_tell : rx_Y (zV b e D A X) yX12_tell mX12_tell 3 := ⟨zw2462, zw413, by decide, by decide +kernel, by decide +kernel, by decide +kernel⟩
abbrev mX13_tell : rx_M := (RX13, cX13_tell, 6, (some .int), false)
noncomputable def bX13_tell_16 : rx_K := o_const 34359738360 (o_ret1 rx_isI)
set_option maxRecDepth 20000 in
theorem kX13_tell_16 (hZ : zO b e D A X) : rx_OK (zV b e D A X) mX13_tell 3 16 bX13_tell_16 := by
  unfold bX13_tell_16
  refine s_iconst dX13_tell_16 (by decide +kernel) ?_
  exact s_iret hZ.1 rfl dX13_tell_17
noncomputable def bX13_tell_0 : rx_K := q_ld q_isR 0 (q_ld q_isI 1 (q_ld q_isI 2 (q_ld q_isI 3 (o_callV 3 13 fX13_useAt (q_st q_isI 4 (q_ld q_isI 4 (o_const 34359738352 (q_eq2 bX13_tell_16 o_none))))))))
set_option maxRecDepth 20000 in
theorem kX13_tell_0 (hZ : zO b e D A X) : rx_OK (zV b e D A X) mX13_tell 3 0 bX13_tell_0 := by
  unfold bX13_tell_0
  refine rx_by (e_ldR _ _) (s_aload_n hZ.1 dX13_tell_0 rfl ?_)
  refine rx_by (e_ldI _ _) (s_iload_n hZ.1 dX13_tell_1 rfl ?_)
  refine rx_by (e_ldI _ _) (s_iload_n hZ.1 dX13_tell_2 rfl ?_)
  refine rx_by (e_ldI _ _) (s_iload_n hZ.1 dX13_tell_3 rfl ?_)
  refine s_callV hZ.1 (met_X13_useAt hZ) (by decide) zy_X13_useAt zcl13 zw3700 zw333 (Or.inl zw3698) dX13_tell_4 ?_
  refine rx_by (e_stI _ _) (s_istore hZ.1 dX13_tell_7 (Nat.le_of_ble_eq_true rfl) ?_)
  refine rx_by (e_ldI _ _) (s_iload hZ.1 dX13_tell_9 ?_)
  refine s_bipush dX13_tell_11 (by decide +kernel) ?_
  exact rx_by (e_eq2 _ _) (s_icmp_ne dX13_tell_13 (by decide) (s_none (pc := 18)) (kX13_tell_16 hZ))
noncomputable def fX13_tell : List Nat → rx_H → Option (Nat × rx_H) := rx_ent 6 bX13_tell_0
theorem met_X13_tell (hZ : zO b e D A X) : rx_Met (zV b e D A X) 3 yX13_tell mX13_tell fX13_tell := rx_entry hZ.1 (kX13_tell_0 hZ) (by decide +kernel) rfl (fun h => by cases h)
theorem zy_X13_tell : rx_Y (zV b e D A X) yX13_tell mX13_tell 3 := ⟨zw3705, zw431, by decide, by decide +kernel, by decide +kernel, by decide +kernel⟩
abbrev mX12_meet : rx_M := (RX12, cX12_meet, 5, (some .int), false)
noncomputable def bX12_meet_13 : rx_K := o_const 34359738360 (o_ret1 rx_isI)
set_option maxRecDepth 20000 in
theorem kX12_meet_13 (hZ : zO b e D A X) : rx_OK (zV b e D A X) mX12_meet 2 13 bX12_meet_13 := by
  unfold bX12_meet_13
  refine s_iconst dX12_meet_13 (by decide +kernel) ?_
  exact s_iret hZ.1 rfl dX12_meet_14
noncomputable def bX12_meet_0 : rx_K := q_ld q_isR 0 (q_ld q_isI 1 (q_ld q_isI 2 (o_callV 2 12 fX12_buildOf (q_ld q_isI 3 (o_callS 2 fX12_hasUse (q_eq1 bX12_meet_13 o_none))))))
set_option maxRecDepth 20000 in
theorem kX12_meet_0 (hZ : zO b e D A X) : rx_OK (zV b e D A X) mX12_meet 2 0 bX12_meet_0 := by
  unfold bX12_meet_0
  refine rx_by (e_ldR _ _) (s_aload_n hZ.1 dX12_meet_0 rfl ?_)
  refine rx_by (e_ldI _ _) (s_iload_n hZ.1 dX12_meet_1 rfl ?_)
  refine rx_by (e_ldI _ _) (s_iload_n hZ.1 dX12_meet_2 rfl ?_)
  refine s_callV hZ.1 (met_X12_buildOf hZ) (by decide) zy_X12_buildOf zcl12 zw1559 zw1 (Or.inl zw1557) dX12_meet_3 ?_
  refine rx_by (e_ldI _ _) (s_iload_n hZ.1 dX12_meet_6 rfl ?_)
  refine s_callS hZ.1 (met_X12_hasUse hZ) (by decide) zy_X12_hasUse zw2457 (Or.inl zw2456) dX12_meet_7 ?_
  exact rx_by (e_eq1 _ _) (s_if_ne dX12_meet_10 (by decide) (s_none (pc := 15)) (kX12_meet_13 hZ))
noncomputable def fX12_meet : List Nat → rx_H → Option (Nat × rx_H) := rx_ent 5 bX12_meet_0
theorem met_X12_meet (hZ : zO b e D A X) : rx_Met (zV b e D A X) 2 yX12_meet mX12_meet fX12_meet := rx_entry hZ.1 (kX12_meet_0 hZ) (by decide +kernel) rfl (fun h => by cases h)
theorem zy_X12_meet : rx_Y (zV b e D A X) yX12_meet mX12_meet 3 := ⟨zw2473, zw413, by decide, by decide +kernel, by decide +kernel, by decide +kernel⟩
abbrev mX13_meet : rx_M := (RX13, cX13_meet, 7, (some .int), false)
noncomputable def bX13_meet_16 : rx_K := o_const 34359738360 (o_ret1 rx_isI)
set_option maxRecDepth 20000 in
theorem kX13_meet_16 (hZ : zO b e D A X) : rx_OK (zV b e D A X) mX13_meet 3 16 bX13_meet_16 := by
  unfold bX13_meet_16
  refine s_iconst dX13_meet_16 (by decide +kernel) ?_
  exact s_iret hZ.1 rfl dX13_meet_17
noncomputable def bX13_meet_0 : rx_K := q_ld q_isR 0 (q_ld q_isI 1 (q_ld q_isI 2 (q_ld q_isI 3 (o_callV 3 13 fX13_useAt (q_st q_isI 4 (q_ld q_isI 4 (o_const 34359738352 (q_eq2 bX13_meet_16 o_none))))))))
set_option maxRecDepth 20000 in
theorem kX13_meet_0 (hZ : zO b e D A X) : rx_OK (zV b e D A X) mX13_meet 3 0 bX13_meet_0 := by
  unfold bX13_meet_0
  refine rx_by (e_ldR _ _) (s_aload_n hZ.1 dX13_meet_0 rfl ?_)
  refine rx_by (e_ldI _ _) (s_iload_n hZ.1 dX13_meet_1 rfl ?_)
  refine rx_by (e_ldI _ _) (s_iload_n hZ.1 dX13_meet_2 rfl ?_)
  refine rx_by (e_ldI _ _) (s_iload_n hZ.1 dX13_meet_3 rfl ?_)
  refine s_callV hZ.1 (met_X13_useAt hZ) (by decide) zy_X13_useAt zcl13 zw3700 zw333 (Or.inl zw3698) dX13_meet_4 ?_
  refine rx_by (e_stI _ _) (s_istore hZ.1 dX13_meet_7 (Nat.le_of_ble_eq_true rfl) ?_)
  refine rx_by (e_ldI _ _) (s_iload hZ.1 dX13_meet_9 ?_)
  refine s_bipush dX13_meet_11 (by decide +kernel) ?_
  exact rx_by (e_eq2 _ _) (s_icmp_ne dX13_meet_13 (by decide) (s_none (pc := 18)) (kX13_meet_16 hZ))
noncomputable def fX13_meet : List Nat → rx_H → Option (Nat × rx_H) := rx_ent 7 bX13_meet_0
theorem met_X13_meet (hZ : zO b e D A X) : rx_Met (zV b e D A X) 3 yX13_meet mX13_meet fX13_meet := rx_entry hZ.1 (kX13_meet_0 hZ) (by decide +kernel) rfl (fun h => by cases h)
theorem zy_X13_meet : rx_Y (zV b e D A X) yX13_meet mX13_meet 3 := ⟨zw3713, zw431, by decide, by decide +kernel, by decide +kernel, by decide +kernel⟩
abbrev mX12_met : rx_M := (RX12, cX12_met, 1, (some .int), false)
noncomputable def bX12_met_33 : rx_K := q_ld q_isR 0 (q_getf 12 3 (o_ret1 rx_isI))
set_option maxRecDepth 20000 in
theorem kX12_met_33 (hZ : zO b e D A X) : rx_OK (zV b e D A X) mX12_met 0 33 bX12_met_33 := by
  unfold bX12_met_33
  refine rx_by (e_ldR _ _) (s_aload_n hZ.1 dX12_met_33 rfl ?_)
  refine zg12_3 dX12_met_34 zw1606 ?_
  exact s_iret hZ.1 rfl dX12_met_37
noncomputable def bX12_met_0 : rx_K := q_ld q_isR 0 (o_const 0 (p_putf q_isI 12 3 (q_ld q_isR 0 (q_getf 12 15 (q_getf 5 11 (o_nul bX12_met_33 o_none))))))
set_option maxRecDepth 20000 in
theorem kX12_met_0 (hZ : zO b e D A X) : rx_OK (zV b e D A X) mX12_met 0 0 bX12_met_0 := by
  unfold bX12_met_0
  refine rx_by (e_ldR _ _) (s_aload_n hZ.1 dX12_met_0 rfl ?_)
  refine s_iconst dX12_met_1 (by decide +kernel) ?_
  refine zp12_3 hZ.1 dX12_met_2 zw1606 ?_
  refine rx_by (e_ldR _ _) (s_aload_n hZ.1 dX12_met_5 rfl ?_)
  refine zg12_15 dX12_met_6 zw1618 ?_
  refine zg5_11 dX12_met_9 zw1368 ?_
  exact s_ifnull dX12_met_12 (by decide) (kX12_met_33 hZ) (s_none (pc := 15))
noncomputable def fX12_met : List Nat → rx_H → Option (Nat × rx_H) := rx_ent 1 bX12_met_0
theorem met_X12_met (hZ : zO b e D A X) : rx_Met (zV b e D A X) 0 yX12_met mX12_met fX12_met := rx_entry hZ.1 (kX12_met_0 hZ) (by decide +kernel) rfl (fun h => by cases h)
theorem zy_X12_met : rx_Y (zV b e D A X) yX12_met mX12_met 0 := ⟨zw2551, zw413, by decide, by decide +kernel, by decide +kernel, by decide +kernel⟩
abbrev mX13_met : rx_M := (RX13, cX13_met, 2, (some .int), false)
noncomputable def bX13_met_125 : rx_K := q_ld q_isR 0 (q_getf 13 3 (o_ret1 rx_isI))
set_option maxRecDepth 20000 in
theorem kX13_met_125 (hZ : zO b e D A X) : rx_OK (zV b e D A X) mX13_met 0 125 bX13_met_125 := by
  unfold bX13_met_125
  refine rx_by (e_ldR _ _) (s_aload_n hZ.1 dX13_met_125 rfl ?_)
  refine zg13_3 dX13_met_126 zw4124 ?_
  exact s_iret hZ.1 rfl dX13_met_129
noncomputable def bX13_met_0 : rx_K := q_ld q_isR 0 (o_const 0 (p_putf q_isI 13 3 (q_ld q_isR 0 (q_getf 13 137 (o_const 34359738352 (q_eq2 bX13_met_125 o_none))))))
set_option maxRecDepth 20000 in
theorem kX13_met_0 (hZ : zO b e D A X) : rx_OK (zV b e D A X) mX13_met 0 0 bX13_met_0 := by
  unfold bX13_met_0
  refine rx_by (e_ldR _ _) (s_aload_n hZ.1 dX13_met_0 rfl ?_)
  refine s_iconst dX13_met_1 (by decide +kernel) ?_
  refine zp13_3 hZ.1 dX13_met_2 zw4124 ?_
  refine rx_by (e_ldR _ _) (s_aload_n hZ.1 dX13_met_5 rfl ?_)
  refine zg13_137 dX13_met_6 zw4257 ?_
  refine s_bipush dX13_met_9 (by decide +kernel) ?_
  exact rx_by (e_eq2 _ _) (s_icmp_eq dX13_met_11 (by decide) (kX13_met_125 hZ) (s_none (pc := 14)))
noncomputable def fX13_met : List Nat → rx_H → Option (Nat × rx_H) := rx_ent 2 bX13_met_0
theorem met_X13_met (hZ : zO b e D A X) : rx_Met (zV b e D A X) 0 yX13_met mX13_met fX13_met := rx_entry hZ.1 (kX13_met_0 hZ) (by decide +kernel) rfl (fun h => by cases h)
theorem zy_X13_met : rx_Y (zV b e D A X) yX13_met mX13_met 0 := ⟨zw3773, zw431, by decide, by decide +kernel, by decide +kernel, by decide +kernel⟩
abbrev mX12_looked : rx_M := (RX12, cX12_looked, 2, (some .int), false)
noncomputable def bX12_looked_28 : rx_K := o_ret1 rx_isI
set_option maxRecDepth 20000 in
theorem kX12_looked_28 (hZ : zO b e D A X) : rx_OK (zV b e D A X) mX12_looked 0 28 bX12_looked_28 := by
  unfold bX12_looked_28
  exact s_iret hZ.1 rfl dX12_looked_28
noncomputable def bX12_looked_15 : rx_K := o_const 34359738360 (bX12_looked_28)
set_option maxRecDepth 20000 in
theorem kX12_looked_15 (hZ : zO b e D A X) : rx_OK (zV b e D A X) mX12_looked 0 15 bX12_looked_15 := by
  unfold bX12_looked_15
  refine s_iconst dX12_looked_15 (by decide +kernel) ?_
  exact s_goto dX12_looked_16 (by decide) (kX12_looked_28 hZ)
noncomputable def bX12_looked_4 : rx_K := q_ld q_isI 1 (q_ld q_isR 0 (q_getf 12 15 (q_getf 5 16 (q_lt2 o_none bX12_looked_15))))
set_option maxRecDepth 20000 in
theorem kX12_looked_4 (hZ : zO b e D A X) : rx_OK (zV b e D A X) mX12_looked 0 4 bX12_looked_4 := by
  unfold bX12_looked_4
  refine rx_by (e_ldI _ _) (s_iload_n hZ.1 dX12_looked_4 rfl ?_)
  refine rx_by (e_ldR _ _) (s_aload_n hZ.1 dX12_looked_5 rfl ?_)
  refine zg12_15 dX12_looked_6 zw1618 ?_
  refine zg5_16 dX12_looked_9 zw1378 ?_
  exact rx_by (e_lt2 _ _) (s_icmp_lt dX12_looked_12 (by decide) (s_none (pc := 19)) (kX12_looked_15 hZ))
noncomputable def bX12_looked_0 : rx_K := q_ld q_isI 1 (q_lt1 bX12_looked_15 bX12_looked_4)
set_option maxRecDepth 20000 in
theorem kX12_looked_0 (hZ : zO b e D A X) : rx_OK (zV b e D A X) mX12_looked 0 0 bX12_looked_0 := by
  unfold bX12_looked_0
  refine rx_by (e_ldI _ _) (s_iload_n hZ.1 dX12_looked_0 rfl ?_)
  exact rx_by (e_lt1 _ _) (s_if_lt dX12_looked_1 (by decide) (kX12_looked_15 hZ) (kX12_looked_4 hZ))
noncomputable def fX12_looked : List Nat → rx_H → Option (Nat × rx_H) := rx_ent 2 bX12_looked_0
theorem met_X12_looked (hZ : zO b e D A X) : rx_Met (zV b e D A X) 0 yX12_looked mX12_looked fX12_looked := rx_entry hZ.1 (kX12_looked_0 hZ) (by decide +kernel) rfl (fun h => by cases h)
theorem zy_X12_looked : rx_Y (zV b e D A X) yX12_looked mX12_looked 1 := ⟨zw2555, zw413, by decide, by decide +kernel, by decide +kernel, by decide +kernel⟩
abbrev mX13_looked : rx_M := (RX13, cX13_looked, 2, (some .int), false)
noncomputable def bX13_looked_22 : rx_K := o_ret1 rx_isI
set_option maxRecDepth 20000 in
theorem kX13_looked_22 (hZ : zO b e D A X) : rx_OK (zV b e D A X) mX13_looked 0 22 bX13_looked_22 := by
  unfold bX13_looked_22
  exact s_iret hZ.1 rfl dX13_looked_22
noncomputable def bX13_looked_12 : rx_K := o_const 34359738360 (bX13_looked_22)
set_option maxRecDepth 20000 in
theorem kX13_looked_12 (hZ : zO b e D A X) : rx_OK (zV b e D A X) mX13_looked 0 12 bX13_looked_12 := by
  unfold bX13_looked_12
  refine s_iconst dX13_looked_12 (by decide +kernel) ?_
  exact s_goto dX13_looked_13 (by decide) (kX13_looked_22 hZ)
noncomputable def bX13_looked_4 : rx_K := q_ld q_isI 1 (q_ld q_isR 0 (q_getf 13 139 (q_lt2 o_none bX13_looked_12)))
set_option maxRecDepth 20000 in
theorem kX13_looked_4 (hZ : zO b e D A X) : rx_OK (zV b e D A X) mX13_looked 0 4 bX13_looked_4 := by
  unfold bX13_looked_4
  refine rx_by (e_ldI _ _) (s_iload_n hZ.1 dX13_looked_4 rfl ?_)
  refine rx_by (e_ldR _ _) (s_aload_n hZ.1 dX13_looked_5 rfl ?_)
  refine zg13_139 dX13_looked_6 zw4259 ?_
  exact rx_by (e_lt2 _ _) (s_icmp_lt dX13_looked_9 (by decide) (s_none (pc := 16)) (kX13_looked_12 hZ))
noncomputable def bX13_looked_0 : rx_K := q_ld q_isI 1 (q_lt1 bX13_looked_12 bX13_looked_4)
set_option maxRecDepth 20000 in
theorem kX13_looked_0 (hZ : zO b e D A X) : rx_OK (zV b e D A X) mX13_looked 0 0 bX13_looked_0 := by
  unfold bX13_looked_0
  refine rx_by (e_ldI _ _) (s_iload_n hZ.1 dX13_looked_0 rfl ?_)
  exact rx_by (e_lt1 _ _) (s_if_lt dX13_looked_1 (by decide) (kX13_looked_12 hZ) (kX13_looked_4 hZ))
noncomputable def fX13_looked : List Nat → rx_H → Option (Nat × rx_H) := rx_ent 2 bX13_looked_0
theorem met_X13_looked (hZ : zO b e D A X) : rx_Met (zV b e D A X) 0 yX13_looked mX13_looked fX13_looked := rx_entry hZ.1 (kX13_looked_0 hZ) (by decide +kernel) rfl (fun h => by cases h)
theorem zy_X13_looked : rx_Y (zV b e D A X) yX13_looked mX13_looked 1 := ⟨zw3777, zw431, by decide, by decide +kernel, by decide +kernel, by decide +kernel⟩
abbrev mX12_countBroken : rx_M := (RX12, cX12_countBroken, 13, (some .int), false)
noncomputable def bX12_countBroken_223 (j : Nat → rx_K) : rx_K := q_ld q_isI 4 (o_ret1 rx_isI)
set_option maxRecDepth 20000 in
theorem kX12_countBroken_223 (hZ : zO b e D A X) (j : Nat → rx_K) (hj : ∀ k pc, [6][k]? = some pc → rx_OK (zV b e D A X) mX12_countBroken 2 pc (j k)) : rx_OK (zV b e D A X) mX12_countBroken 2 223 (bX12_countBroken_223 j) := by
  unfold bX12_countBroken_223
  refine rx_by (e_ldI _ _) (s_iload hZ.1 dX12_countBroken_223 ?_)
  exact s_iret hZ.1 rfl dX12_countBroken_225
noncomputable def bX12_countBroken_217 (j : Nat → rx_K) : rx_K := q_inc 5 8 ((j 0))
set_option maxRecDepth 20000 in
theorem kX12_countBroken_217 (hZ : zO b e D A X) (j : Nat → rx_K) (hj : ∀ k pc, [6][k]? = some pc → rx_OK (zV b e D A X) mX12_countBroken 2 pc (j k)) : rx_OK (zV b e D A X) mX12_countBroken 2 217 (bX12_countBroken_217 j) := by
  unfold bX12_countBroken_217
  refine rx_by (e_inc (by decide +kernel) _) (s_iinc hZ.1 dX12_countBroken_217 (Nat.le_of_ble_eq_true rfl) ?_)
  exact s_goto dX12_countBroken_220 (by decide) (hj 0 6 rfl)
noncomputable def bX12_countBroken_12 (j : Nat → rx_K) : rx_K := q_ld q_isR 0 (q_ld q_isI 5 (q_ld q_isR 2 (q_ld q_isI 5 (q_ald 0 (o_callV 2 12 fX12_buildOf (q_st q_isR 6 (o_const 0 (q_st q_isI 7 (q_ld q_isR 6 (o_nul (bX12_countBroken_217 j) o_none))))))))))
set_option maxRecDepth 20000 in
theorem kX12_countBroken_12 (hZ : zO b e D A X) (j : Nat → rx_K) (hj : ∀ k pc, [6][k]? = some pc → rx_OK (zV b e D A X) mX12_countBroken 2 pc (j k)) : rx_OK (zV b e D A X) mX12_countBroken 2 12 (bX12_countBroken_12 j) := by
  unfold bX12_countBroken_12
  refine rx_by (e_ldR _ _) (s_aload_n hZ.1 dX12_countBroken_12 rfl ?_)
  refine rx_by (e_ldI _ _) (s_iload hZ.1 dX12_countBroken_13 ?_)
  refine rx_by (e_ldR _ _) (s_aload_n hZ.1 dX12_countBroken_15 rfl ?_)
  refine rx_by (e_ldI _ _) (s_iload hZ.1 dX12_countBroken_16 ?_)
  refine rx_by (e_ald _ _) (s_iald (tt := 0) rfl dX12_countBroken_18 ?_)
  refine s_callV hZ.1 (met_X12_buildOf hZ) (by decide) zy_X12_buildOf zcl12 zw1559 zw1 (Or.inl zw1557) dX12_countBroken_19 ?_
  refine rx_by (e_stR _ _) (s_astore hZ.1 dX12_countBroken_22 (Nat.le_of_ble_eq_true rfl) ?_)
  refine s_iconst dX12_countBroken_24 (by decide +kernel) ?_
  refine rx_by (e_stI _ _) (s_istore hZ.1 dX12_countBroken_25 (Nat.le_of_ble_eq_true rfl) ?_)
  refine rx_by (e_ldR _ _) (s_aload hZ.1 dX12_countBroken_27 ?_)
  exact s_ifnull dX12_countBroken_29 (by decide) (kX12_countBroken_217 hZ j hj) (s_none (pc := 32))
noncomputable def bX12_countBroken_6 (j : Nat → rx_K) : rx_K := q_ld q_isI 5 (o_const 40 (q_lt2 (bX12_countBroken_12 j) (bX12_countBroken_223 j)))
set_option maxRecDepth 20000 in
theorem kX12_countBroken_6 (hZ : zO b e D A X) (j : Nat → rx_K) (hj : ∀ k pc, [6][k]? = some pc → rx_OK (zV b e D A X) mX12_countBroken 2 pc (j k)) : rx_OK (zV b e D A X) mX12_countBroken 2 6 (bX12_countBroken_6 j) := by
  unfold bX12_countBroken_6
  refine rx_by (e_ldI _ _) (s_iload hZ.1 dX12_countBroken_6 ?_)
  refine s_iconst dX12_countBroken_8 (by decide +kernel) ?_
  exact rx_by (e_lt2 _ _) (s_icmp_ge dX12_countBroken_9 (by decide) (kX12_countBroken_223 hZ j hj) (kX12_countBroken_12 hZ j hj))
noncomputable def bX12_countBroken_0 (j : Nat → rx_K) : rx_K := o_const 0 (q_st q_isI 4 (o_const 0 (q_st q_isI 5 ((bX12_countBroken_6 j)))))
set_option maxRecDepth 20000 in
theorem kX12_countBroken_0 (hZ : zO b e D A X) (j : Nat → rx_K) (hj : ∀ k pc, [6][k]? = some pc → rx_OK (zV b e D A X) mX12_countBroken 2 pc (j k)) : rx_OK (zV b e D A X) mX12_countBroken 2 0 (bX12_countBroken_0 j) := by
  unfold bX12_countBroken_0
  refine s_iconst dX12_countBroken_0 (by decide +kernel) ?_
  refine rx_by (e_stI _ _) (s_istore hZ.1 dX12_countBroken_1 (Nat.le_of_ble_eq_true rfl) ?_)
  refine s_iconst dX12_countBroken_3 (by decide +kernel) ?_
  refine rx_by (e_stI _ _) (s_istore hZ.1 dX12_countBroken_4 (Nat.le_of_ble_eq_true rfl) ?_)
  exact (kX12_countBroken_6 hZ j hj)
noncomputable def hX12_countBroken (j : Nat → rx_K) : List rx_K := [bX12_countBroken_6 j]
theorem lX12_countBroken (hZ : zO b e D A X) : ∀ n k pc, [6][k]? = some pc → rx_OK (zV b e D A X) mX12_countBroken 2 pc (rx_J hX12_countBroken n k) := rx_loop fun j hj k pc h => by
  match k, h with
  | 0, h =>
    have e9 := Option.some.inj (show some 6 = some pc from h)
    subst e9
    exact kX12_countBroken_6 hZ j hj
  | _ + 1, h => exact absurd h (by simp)
noncomputable def fX12_countBroken : List Nat → rx_H → Option (Nat × rx_H) := rx_ent 13 (bX12_countBroken_0 (rx_J hX12_countBroken 1000000))
theorem met_X12_countBroken (hZ : zO b e D A X) : rx_Met (zV b e D A X) 2 yX12_countBroken mX12_countBroken fX12_countBroken := rx_entry hZ.1 (kX12_countBroken_0 hZ _ (lX12_countBroken hZ 1000000)) (by decide +kernel) rfl (fun h => by cases h)
theorem zy_X12_countBroken : rx_Y (zV b e D A X) yX12_countBroken mX12_countBroken 3 := ⟨zw2563, zw413, by decide, by decide +kernel, by decide +kernel, by decide +kernel⟩
abbrev mX12_broken : rx_M := (RX12, cX12_broken, 1, (some .int), false)
noncomputable def bX12_broken_0 : rx_K := q_ld q_isR 0 (o_const 0 (p_putf q_isI 12 18 (q_ld q_isR 0 (q_ld q_isR 0 (q_getf 12 13 (q_ld q_isR 0 (q_getf 12 6 (o_const 8 (o_callV 3 12 fX12_countBroken (o_ret1 rx_isI))))))))))
set_option maxRecDepth 20000 in
theorem kX12_broken_0 (hZ : zO b e D A X) : rx_OK (zV b e D A X) mX12_broken 3 0 bX12_broken_0 := by
  unfold bX12_broken_0
  refine rx_by (e_ldR _ _) (s_aload_n hZ.1 dX12_broken_0 rfl ?_)
  refine s_iconst dX12_broken_1 (by decide +kernel) ?_
  refine zp12_18 hZ.1 dX12_broken_2 zw1621 ?_
  refine rx_by (e_ldR _ _) (s_aload_n hZ.1 dX12_broken_5 rfl ?_)
  refine rx_by (e_ldR _ _) (s_aload_n hZ.1 dX12_broken_6 rfl ?_)
  refine zg12_13 dX12_broken_7 zw1616 ?_
  refine rx_by (e_ldR _ _) (s_aload_n hZ.1 dX12_broken_10 rfl ?_)
  refine zg12_6 dX12_broken_11 zw1609 ?_
  refine s_iconst dX12_broken_14 (by decide +kernel) ?_
  refine s_callV hZ.1 (met_X12_countBroken hZ) (by decide) zy_X12_countBroken zcl12 zw2562 zw136 (Or.inl zw2560) dX12_broken_15 ?_
  exact s_iret hZ.1 rfl dX12_broken_18
noncomputable def fX12_broken : List Nat → rx_H → Option (Nat × rx_H) := rx_ent 1 bX12_broken_0
theorem met_X12_broken (hZ : zO b e D A X) : rx_Met (zV b e D A X) 3 yX12_broken mX12_broken fX12_broken := rx_entry hZ.1 (kX12_broken_0 hZ) (by decide +kernel) rfl (fun h => by cases h)
theorem zy_X12_broken : rx_Y (zV b e D A X) yX12_broken mX12_broken 0 := ⟨zw2559, zw413, by decide, by decide +kernel, by decide +kernel, by decide +kernel⟩
abbrev mX13_broken : rx_M := (RX13, cX13_broken, 6, (some .int), false)
noncomputable def bX13_broken_147 (j : Nat → rx_K) : rx_K := q_ld q_isR 0 (q_getf 13 145 (o_ret1 rx_isI))
set_option maxRecDepth 20000 in
theorem kX13_broken_147 (hZ : zO b e D A X) (j : Nat → rx_K) (hj : ∀ k pc, [7][k]? = some pc → rx_OK (zV b e D A X) mX13_broken 0 pc (j k)) : rx_OK (zV b e D A X) mX13_broken 0 147 (bX13_broken_147 j) := by
  unfold bX13_broken_147
  refine rx_by (e_ldR _ _) (s_aload_n hZ.1 dX13_broken_147 rfl ?_)
  refine zg13_145 dX13_broken_148 zw4265 ?_
  exact s_iret hZ.1 rfl dX13_broken_151
noncomputable def bX13_broken_141 (j : Nat → rx_K) : rx_K := q_inc 1 8 ((j 0))
set_option maxRecDepth 20000 in
theorem kX13_broken_141 (hZ : zO b e D A X) (j : Nat → rx_K) (hj : ∀ k pc, [7][k]? = some pc → rx_OK (zV b e D A X) mX13_broken 0 pc (j k)) : rx_OK (zV b e D A X) mX13_broken 0 141 (bX13_broken_141 j) := by
  unfold bX13_broken_141
  refine rx_by (e_inc (by decide +kernel) _) (s_iinc hZ.1 dX13_broken_141 (Nat.le_of_ble_eq_true rfl) ?_)
  exact s_goto dX13_broken_144 (by decide) (hj 0 7 rfl)
noncomputable def bX13_broken_12 (j : Nat → rx_K) : rx_K := q_ld q_isR 0 (q_getf 13 90 (q_ld q_isI 1 (q_ald 0 (q_st q_isI 2 (o_const 0 (q_st q_isI 3 (q_ld q_isI 2 (o_const 34359738352 (q_eq2 (bX13_broken_141 j) o_none)))))))))
set_option maxRecDepth 20000 in
theorem kX13_broken_12 (hZ : zO b e D A X) (j : Nat → rx_K) (hj : ∀ k pc, [7][k]? = some pc → rx_OK (zV b e D A X) mX13_broken 0 pc (j k)) : rx_OK (zV b e D A X) mX13_broken 0 12 (bX13_broken_12 j) := by
  unfold bX13_broken_12
  refine rx_by (e_ldR _ _) (s_aload_n hZ.1 dX13_broken_12 rfl ?_)
  refine zg13_90 dX13_broken_13 zw4211 ?_
  refine rx_by (e_ldI _ _) (s_iload_n hZ.1 dX13_broken_16 rfl ?_)
  refine rx_by (e_ald _ _) (s_iald (tt := 0) rfl dX13_broken_17 ?_)
  refine rx_by (e_stI _ _) (s_istore_n hZ.1 dX13_broken_18 rfl (Nat.le_of_ble_eq_true rfl) ?_)
  refine s_iconst dX13_broken_19 (by decide +kernel) ?_
  refine rx_by (e_stI _ _) (s_istore_n hZ.1 dX13_broken_20 rfl (Nat.le_of_ble_eq_true rfl) ?_)
  refine rx_by (e_ldI _ _) (s_iload_n hZ.1 dX13_broken_21 rfl ?_)
  refine s_bipush dX13_broken_22 (by decide +kernel) ?_
  exact rx_by (e_eq2 _ _) (s_icmp_eq dX13_broken_24 (by decide) (kX13_broken_141 hZ j hj) (s_none (pc := 27)))
noncomputable def bX13_broken_7 (j : Nat → rx_K) : rx_K := q_ld q_isI 1 (o_const 40 (q_lt2 (bX13_broken_12 j) (bX13_broken_147 j)))
set_option maxRecDepth 20000 in
theorem kX13_broken_7 (hZ : zO b e D A X) (j : Nat → rx_K) (hj : ∀ k pc, [7][k]? = some pc → rx_OK (zV b e D A X) mX13_broken 0 pc (j k)) : rx_OK (zV b e D A X) mX13_broken 0 7 (bX13_broken_7 j) := by
  unfold bX13_broken_7
  refine rx_by (e_ldI _ _) (s_iload_n hZ.1 dX13_broken_7 rfl ?_)
  refine s_iconst dX13_broken_8 (by decide +kernel) ?_
  exact rx_by (e_lt2 _ _) (s_icmp_ge dX13_broken_9 (by decide) (kX13_broken_147 hZ j hj) (kX13_broken_12 hZ j hj))
noncomputable def bX13_broken_0 (j : Nat → rx_K) : rx_K := q_ld q_isR 0 (o_const 0 (p_putf q_isI 13 145 (o_const 0 (q_st q_isI 1 ((bX13_broken_7 j))))))
set_option maxRecDepth 20000 in
theorem kX13_broken_0 (hZ : zO b e D A X) (j : Nat → rx_K) (hj : ∀ k pc, [7][k]? = some pc → rx_OK (zV b e D A X) mX13_broken 0 pc (j k)) : rx_OK (zV b e D A X) mX13_broken 0 0 (bX13_broken_0 j) := by
  unfold bX13_broken_0
  refine rx_by (e_ldR _ _) (s_aload_n hZ.1 dX13_broken_0 rfl ?_)
  refine s_iconst dX13_broken_1 (by decide +kernel) ?_
  refine zp13_145 hZ.1 dX13_broken_2 zw4265 ?_
  refine s_iconst dX13_broken_5 (by decide +kernel) ?_
  refine rx_by (e_stI _ _) (s_istore_n hZ.1 dX13_broken_6 rfl (Nat.le_of_ble_eq_true rfl) ?_)
  exact (kX13_broken_7 hZ j hj)
noncomputable def hX13_broken (j : Nat → rx_K) : List rx_K := [bX13_broken_7 j]
theorem lX13_broken (hZ : zO b e D A X) : ∀ n k pc, [7][k]? = some pc → rx_OK (zV b e D A X) mX13_broken 0 pc (rx_J hX13_broken n k) := rx_loop fun j hj k pc h => by
  match k, h with
  | 0, h =>
    have e9 := Option.some.inj (show some 7 = some pc from h)
    subst e9
    exact kX13_broken_7 hZ j hj
  | _ + 1, h => exact absurd h (by simp)
noncomputable def fX13_broken : List Nat → rx_H → Option (Nat × rx_H) := rx_ent 6 (bX13_broken_0 (rx_J hX13_broken 1000000))
theorem met_X13_broken (hZ : zO b e D A X) : rx_Met (zV b e D A X) 0 yX13_broken mX13_broken fX13_broken := rx_entry hZ.1 (kX13_broken_0 hZ _ (lX13_broken hZ 1000000)) (by decide +kernel) rfl (fun h => by cases h)
theorem zy_X13_broken : rx_Y (zV b e D A X) yX13_broken mX13_broken 0 := ⟨zw3781, zw431, by decide, by decide +kernel, by decide +kernel, by decide +kernel⟩
abbrev mX12_brokenAt : rx_M := (RX12, cX12_brokenAt, 3, (some .int), false)
noncomputable def bX12_brokenAt_35 : rx_K := o_ret1 rx_isI
set_option maxRecDepth 20000 in
theorem kX12_brokenAt_35 (hZ : zO b e D A X) : rx_OK (zV b e D A X) mX12_brokenAt 0 35 bX12_brokenAt_35 := by
  unfold bX12_brokenAt_35
  exact s_iret hZ.1 rfl dX12_brokenAt_35
noncomputable def bX12_brokenAt_21 : rx_K := o_const 34359738360 (bX12_brokenAt_35)
set_option maxRecDepth 20000 in
theorem kX12_brokenAt_21 (hZ : zO b e D A X) : rx_OK (zV b e D A X) mX12_brokenAt 0 21 bX12_brokenAt_21 := by
  unfold bX12_brokenAt_21
  refine s_iconst dX12_brokenAt_21 (by decide +kernel) ?_
  exact s_goto dX12_brokenAt_22 (by decide) (kX12_brokenAt_35 hZ)
noncomputable def bX12_brokenAt_4 : rx_K := q_ld q_isI 1 (q_ld q_isR 0 (q_getf 12 18 (q_lt2 o_none bX12_brokenAt_21)))
set_option maxRecDepth 20000 in
theorem kX12_brokenAt_4 (hZ : zO b e D A X) : rx_OK (zV b e D A X) mX12_brokenAt 0 4 bX12_brokenAt_4 := by
  unfold bX12_brokenAt_4
  refine rx_by (e_ldI _ _) (s_iload_n hZ.1 dX12_brokenAt_4 rfl ?_)
  refine rx_by (e_ldR _ _) (s_aload_n hZ.1 dX12_brokenAt_5 rfl ?_)
  refine zg12_18 dX12_brokenAt_6 zw1621 ?_
  exact rx_by (e_lt2 _ _) (s_icmp_ge dX12_brokenAt_9 (by decide) (kX12_brokenAt_21 hZ) (s_none (pc := 12)))
noncomputable def bX12_brokenAt_0 : rx_K := q_ld q_isI 1 (q_lt1 bX12_brokenAt_21 bX12_brokenAt_4)
set_option maxRecDepth 20000 in
theorem kX12_brokenAt_0 (hZ : zO b e D A X) : rx_OK (zV b e D A X) mX12_brokenAt 0 0 bX12_brokenAt_0 := by
  unfold bX12_brokenAt_0
  refine rx_by (e_ldI _ _) (s_iload_n hZ.1 dX12_brokenAt_0 rfl ?_)
  exact rx_by (e_lt1 _ _) (s_if_lt dX12_brokenAt_1 (by decide) (kX12_brokenAt_21 hZ) (kX12_brokenAt_4 hZ))
noncomputable def fX12_brokenAt : List Nat → rx_H → Option (Nat × rx_H) := rx_ent 3 bX12_brokenAt_0
theorem met_X12_brokenAt (hZ : zO b e D A X) : rx_Met (zV b e D A X) 0 yX12_brokenAt mX12_brokenAt fX12_brokenAt := rx_entry hZ.1 (kX12_brokenAt_0 hZ) (by decide +kernel) rfl (fun h => by cases h)
theorem zy_X12_brokenAt : rx_Y (zV b e D A X) yX12_brokenAt mX12_brokenAt 2 := ⟨zw2576, zw413, by decide, by decide +kernel, by decide +kernel, by decide +kernel⟩
end ZM9

section ZM7
variable {b : Nat} {e : Nat → Value} {D : va_G} {A : Nat → ClassId} {X : State → Prop}
abbrev mX9_scan : rx_M := (RX9, cX9_scan, 6, (some .int), false)
noncomputable def bX9_scan_46 : rx_K := o_const 34359738352 (o_ret1 rx_isI)
set_option maxRecDepth 20000 in
theorem kX9_scan_46 (hZ : zO b e D A X) : rx_OK (zV b e D A X) mX9_scan 0 46 bX9_scan_46 := by
  unfold bX9_scan_46
  refine s_bipush dX9_scan_46 (by decide +kernel) ?_
  exact s_iret hZ.1 rfl dX9_scan_48
noncomputable def bX9_scan_38 : rx_K := q_ld q_isI 2 (q_ld q_isR 0 (q_getf 9 7 (q_lt2 o_none bX9_scan_46)))
set_option maxRecDepth 20000 in
theorem kX9_scan_38 (hZ : zO b e D A X) : rx_OK (zV b e D A X) mX9_scan 0 38 bX9_scan_38 := by
  unfold bX9_scan_38
  refine rx_by (e_ldI _ _) (s_iload_n hZ.1 dX9_scan_38 rfl ?_)
  refine rx_by (e_ldR _ _) (s_aload_n hZ.1 dX9_scan_39 rfl ?_)
  refine zg9_7 dX9_scan_40 zw591 ?_
  exact rx_by (e_lt2 _ _) (s_icmp_lt dX9_scan_43 (by decide) (s_none (pc := 49)) (kX9_scan_46 hZ))
noncomputable def bX9_scan_0 : rx_K := q_ld q_isI 1 (q_st q_isI 2 (q_ld q_isI 2 (q_ld q_isR 0 (q_getf 9 7 (q_lt2 o_none bX9_scan_38)))))
set_option maxRecDepth 20000 in
theorem kX9_scan_0 (hZ : zO b e D A X) : rx_OK (zV b e D A X) mX9_scan 0 0 bX9_scan_0 := by
  unfold bX9_scan_0
  refine rx_by (e_ldI _ _) (s_iload_n hZ.1 dX9_scan_0 rfl ?_)
  refine rx_by (e_stI _ _) (s_istore_n hZ.1 dX9_scan_1 rfl (Nat.le_of_ble_eq_true rfl) ?_)
  refine rx_by (e_ldI _ _) (s_iload_n hZ.1 dX9_scan_2 rfl ?_)
  refine rx_by (e_ldR _ _) (s_aload_n hZ.1 dX9_scan_3 rfl ?_)
  refine zg9_7 dX9_scan_4 zw591 ?_
  exact rx_by (e_lt2 _ _) (s_icmp_ge dX9_scan_7 (by decide) (kX9_scan_38 hZ) (s_none (pc := 10)))
noncomputable def fX9_scan : List Nat → rx_H → Option (Nat × rx_H) := rx_ent 6 bX9_scan_0
theorem met_X9_scan (hZ : zO b e D A X) : rx_Met (zV b e D A X) 0 yX9_scan mX9_scan fX9_scan := rx_entry hZ.1 (kX9_scan_0 hZ) (by decide +kernel) rfl (fun h => by cases h)
theorem zy_X9_scan : rx_Y (zV b e D A X) yX9_scan mX9_scan 1 := ⟨zw1731, zw414, by decide, by decide +kernel, by decide +kernel, by decide +kernel⟩
abbrev mX9_scanAll : rx_M := (RX9, cX9_scanAll, 5, none, false)
noncomputable def bX9_scanAll_49 (j : Nat → rx_K) : rx_K := q_ld q_isR 0 (q_getf 9 1 (q_ld q_isR 0 (q_getf 9 5 (o_const 0 (p_ast 0 (fun v => v) q_isI (q_ld q_isR 0 (q_getf 9 2 (q_ld q_isR 0 (q_getf 9 5 (q_ld q_isR 0 (q_getf 9 7 (p_ast 0 (fun v => v) q_isI (q_ld q_isR 0 (q_getf 9 3 (q_ld q_isR 0 (q_getf 9 5 (q_ld q_isR 0 (q_getf 9 7 (p_ast 0 (fun v => v) q_isI (o_ret0))))))))))))))))))))
set_option maxRecDepth 20000 in
theorem kX9_scanAll_49 (hZ : zO b e D A X) (j : Nat → rx_K) (hj : ∀ k pc, [25][k]? = some pc → rx_OK (zV b e D A X) mX9_scanAll 1 pc (j k)) : rx_OK (zV b e D A X) mX9_scanAll 1 49 (bX9_scanAll_49 j) := by
  unfold bX9_scanAll_49
  refine rx_by (e_ldR _ _) (s_aload_n hZ.1 dX9_scanAll_49 rfl ?_)
  refine zg9_1 dX9_scanAll_50 zw582 ?_
  refine rx_by (e_ldR _ _) (s_aload_n hZ.1 dX9_scanAll_53 rfl ?_)
  refine zg9_5 dX9_scanAll_54 zw589 ?_
  refine s_iconst dX9_scanAll_57 (by decide +kernel) ?_
  refine rx_by2 (l_astI _ _ _) (s_iast hZ.1 (tt := 0) rfl dX9_scanAll_58 ?_)
  refine rx_by (e_ldR _ _) (s_aload_n hZ.1 dX9_scanAll_59 rfl ?_)
  refine zg9_2 dX9_scanAll_60 zw583 ?_
  refine rx_by (e_ldR _ _) (s_aload_n hZ.1 dX9_scanAll_63 rfl ?_)
  refine zg9_5 dX9_scanAll_64 zw589 ?_
  refine rx_by (e_ldR _ _) (s_aload_n hZ.1 dX9_scanAll_67 rfl ?_)
  refine zg9_7 dX9_scanAll_68 zw591 ?_
  refine rx_by2 (l_astI _ _ _) (s_iast hZ.1 (tt := 0) rfl dX9_scanAll_71 ?_)
  refine rx_by (e_ldR _ _) (s_aload_n hZ.1 dX9_scanAll_72 rfl ?_)
  refine zg9_3 dX9_scanAll_73 zw585 ?_
  refine rx_by (e_ldR _ _) (s_aload_n hZ.1 dX9_scanAll_76 rfl ?_)
  refine zg9_5 dX9_scanAll_77 zw589 ?_
  refine rx_by (e_ldR _ _) (s_aload_n hZ.1 dX9_scanAll_80 rfl ?_)
  refine zg9_7 dX9_scanAll_81 zw591 ?_
  refine rx_by2 (l_astI _ _ _) (s_iast hZ.1 (tt := 0) rfl dX9_scanAll_84 ?_)
  exact s_vret rfl dX9_scanAll_85
noncomputable def bX9_scanAll_37 (j : Nat → rx_K) : rx_K := q_ld q_isR 0 (q_ld q_isI 3 (o_callV 1 9 fX9_scan (q_st q_isI 3 (q_inc 4 8 ((j 0))))))
set_option maxRecDepth 20000 in
theorem kX9_scanAll_37 (hZ : zO b e D A X) (j : Nat → rx_K) (hj : ∀ k pc, [25][k]? = some pc → rx_OK (zV b e D A X) mX9_scanAll 1 pc (j k)) : rx_OK (zV b e D A X) mX9_scanAll 1 37 (bX9_scanAll_37 j) := by
  unfold bX9_scanAll_37
  refine rx_by (e_ldR _ _) (s_aload_n hZ.1 dX9_scanAll_37 rfl ?_)
  refine rx_by (e_ldI _ _) (s_iload_n hZ.1 dX9_scanAll_38 rfl ?_)
  refine s_callV hZ.1 (met_X9_scan hZ) (by decide) zy_X9_scan zcl9 zw1730 zw9 (Or.inl zw1728) dX9_scanAll_39 ?_
  refine rx_by (e_stI _ _) (s_istore_n hZ.1 dX9_scanAll_42 rfl (Nat.le_of_ble_eq_true rfl) ?_)
  refine rx_by (e_inc (by decide +kernel) _) (s_iinc hZ.1 dX9_scanAll_43 (Nat.le_of_ble_eq_true rfl) ?_)
  exact s_goto dX9_scanAll_46 (by decide) (hj 0 25 rfl)
noncomputable def bX9_scanAll_33 (j : Nat → rx_K) : rx_K := q_ld q_isI 3 (q_lt1 (bX9_scanAll_49 j) (bX9_scanAll_37 j))
set_option maxRecDepth 20000 in
theorem kX9_scanAll_33 (hZ : zO b e D A X) (j : Nat → rx_K) (hj : ∀ k pc, [25][k]? = some pc → rx_OK (zV b e D A X) mX9_scanAll 1 pc (j k)) : rx_OK (zV b e D A X) mX9_scanAll 1 33 (bX9_scanAll_33 j) := by
  unfold bX9_scanAll_33
  refine rx_by (e_ldI _ _) (s_iload_n hZ.1 dX9_scanAll_33 rfl ?_)
  exact rx_by (e_lt1 _ _) (s_if_lt dX9_scanAll_34 (by decide) (kX9_scanAll_49 hZ j hj) (kX9_scanAll_37 hZ j hj))
noncomputable def bX9_scanAll_25 (j : Nat → rx_K) : rx_K := q_ld q_isI 4 (o_const 5616 (q_lt2 (bX9_scanAll_33 j) (bX9_scanAll_49 j)))
set_option maxRecDepth 20000 in
theorem kX9_scanAll_25 (hZ : zO b e D A X) (j : Nat → rx_K) (hj : ∀ k pc, [25][k]? = some pc → rx_OK (zV b e D A X) mX9_scanAll 1 pc (j k)) : rx_OK (zV b e D A X) mX9_scanAll 1 25 (bX9_scanAll_25 j) := by
  unfold bX9_scanAll_25
  refine rx_by (e_ldI _ _) (s_iload hZ.1 dX9_scanAll_25 ?_)
  refine s_sipush dX9_scanAll_27 (by decide +kernel) ?_
  exact rx_by (e_lt2 _ _) (s_icmp_ge dX9_scanAll_30 (by decide) (kX9_scanAll_49 hZ j hj) (kX9_scanAll_33 hZ j hj))
noncomputable def bX9_scanAll_0 (j : Nat → rx_K) : rx_K := q_ld q_isR 0 (q_ld q_isR 1 (p_putf q_isR 9 6 (q_ld q_isR 0 (q_ld q_isI 2 (p_putf q_isI 9 7 (q_ld q_isR 0 (o_const 0 (p_putf q_isI 9 5 (q_ld q_isR 0 (o_const 0 (p_putf q_isI 9 8 (o_const 0 (q_st q_isI 3 (o_const 0 (q_st q_isI 4 ((bX9_scanAll_25 j)))))))))))))))))
set_option maxRecDepth 20000 in
theorem kX9_scanAll_0 (hZ : zO b e D A X) (j : Nat → rx_K) (hj : ∀ k pc, [25][k]? = some pc → rx_OK (zV b e D A X) mX9_scanAll 1 pc (j k)) : rx_OK (zV b e D A X) mX9_scanAll 1 0 (bX9_scanAll_0 j) := by
  unfold bX9_scanAll_0
  refine rx_by (e_ldR _ _) (s_aload_n hZ.1 dX9_scanAll_0 rfl ?_)
  refine rx_by (e_ldR _ _) (s_aload_n hZ.1 dX9_scanAll_1 rfl ?_)
  refine zp9_6 hZ.1 dX9_scanAll_2 zw590 ?_
  refine rx_by (e_ldR _ _) (s_aload_n hZ.1 dX9_scanAll_5 rfl ?_)
  refine rx_by (e_ldI _ _) (s_iload_n hZ.1 dX9_scanAll_6 rfl ?_)
  refine zp9_7 hZ.1 dX9_scanAll_7 zw591 ?_
  refine rx_by (e_ldR _ _) (s_aload_n hZ.1 dX9_scanAll_10 rfl ?_)
  refine s_iconst dX9_scanAll_11 (by decide +kernel) ?_
  refine zp9_5 hZ.1 dX9_scanAll_12 zw589 ?_
  refine rx_by (e_ldR _ _) (s_aload_n hZ.1 dX9_scanAll_15 rfl ?_)
  refine s_iconst dX9_scanAll_16 (by decide +kernel) ?_
  refine zp9_8 hZ.1 dX9_scanAll_17 zw592 ?_
  refine s_iconst dX9_scanAll_20 (by decide +kernel) ?_
  refine rx_by (e_stI _ _) (s_istore_n hZ.1 dX9_scanAll_21 rfl (Nat.le_of_ble_eq_true rfl) ?_)
  refine s_iconst dX9_scanAll_22 (by decide +kernel) ?_
  refine rx_by (e_stI _ _) (s_istore hZ.1 dX9_scanAll_23 (Nat.le_of_ble_eq_true rfl) ?_)
  exact (kX9_scanAll_25 hZ j hj)
noncomputable def hX9_scanAll (j : Nat → rx_K) : List rx_K := [bX9_scanAll_25 j]
theorem lX9_scanAll (hZ : zO b e D A X) : ∀ n k pc, [25][k]? = some pc → rx_OK (zV b e D A X) mX9_scanAll 1 pc (rx_J hX9_scanAll n k) := rx_loop fun j hj k pc h => by
  match k, h with
  | 0, h =>
    have e9 := Option.some.inj (show some 25 = some pc from h)
    subst e9
    exact kX9_scanAll_25 hZ j hj
  | _ + 1, h => exact absurd h (by simp)
noncomputable def fX9_scanAll : List Nat → rx_H → Option (Nat × rx_H) := rx_ent 5 (bX9_scanAll_0 (rx_J hX9_scanAll 1000000))
theorem met_X9_scanAll (hZ : zO b e D A X) : rx_Met (zV b e D A X) 1 yX9_scanAll mX9_scanAll fX9_scanAll := rx_entry hZ.1 (kX9_scanAll_0 hZ _ (lX9_scanAll hZ 1000000)) (by decide +kernel) rfl (fun h => by cases h)
theorem zy_X9_scanAll : rx_Y (zV b e D A X) yX9_scanAll mX9_scanAll 2 := ⟨zw1727, zw414, by decide, by decide +kernel, by decide +kernel, by decide +kernel⟩
abbrev mX9_now : rx_M := (RX9, cX9_now, 1, (some .int), false)
noncomputable def bX9_now_24 : rx_K := o_ret1 rx_isI
set_option maxRecDepth 20000 in
theorem kX9_now_24 (hZ : zO b e D A X) : rx_OK (zV b e D A X) mX9_now 0 24 bX9_now_24 := by
  unfold bX9_now_24
  exact s_iret hZ.1 rfl dX9_now_24
noncomputable def bX9_now_11 : rx_K := q_ld q_isR 0 (q_getf 9 1 (q_ld q_isR 0 (q_getf 9 8 (q_ald 0 (bX9_now_24)))))
set_option maxRecDepth 20000 in
theorem kX9_now_11 (hZ : zO b e D A X) : rx_OK (zV b e D A X) mX9_now 0 11 bX9_now_11 := by
  unfold bX9_now_11
  refine rx_by (e_ldR _ _) (s_aload_n hZ.1 dX9_now_11 rfl ?_)
  refine zg9_1 dX9_now_12 zw582 ?_
  refine rx_by (e_ldR _ _) (s_aload_n hZ.1 dX9_now_15 rfl ?_)
  refine zg9_8 dX9_now_16 zw592 ?_
  refine rx_by (e_ald _ _) (s_iald (tt := 0) rfl dX9_now_19 ?_)
  exact s_goto dX9_now_20 (by decide) (kX9_now_24 hZ)
noncomputable def bX9_now_0 : rx_K := q_ld q_isR 0 (q_getf 9 8 (q_ld q_isR 0 (q_getf 9 5 (q_gt2 o_none bX9_now_11))))
set_option maxRecDepth 20000 in
theorem kX9_now_0 (hZ : zO b e D A X) : rx_OK (zV b e D A X) mX9_now 0 0 bX9_now_0 := by
  unfold bX9_now_0
  refine rx_by (e_ldR _ _) (s_aload_n hZ.1 dX9_now_0 rfl ?_)
  refine zg9_8 dX9_now_1 zw592 ?_
  refine rx_by (e_ldR _ _) (s_aload_n hZ.1 dX9_now_4 rfl ?_)
  refine zg9_5 dX9_now_5 zw589 ?_
  exact rx_by (e_gt2 _ _) (s_icmp_gt dX9_now_8 (by decide) (s_none (pc := 23)) (kX9_now_11 hZ))
noncomputable def fX9_now : List Nat → rx_H → Option (Nat × rx_H) := rx_ent 1 bX9_now_0
theorem met_X9_now (hZ : zO b e D A X) : rx_Met (zV b e D A X) 0 yX9_now mX9_now fX9_now := rx_entry hZ.1 (kX9_now_0 hZ) (by decide +kernel) rfl (fun h => by cases h)
theorem zy_X9_now : rx_Y (zV b e D A X) yX9_now mX9_now 0 := ⟨zw1747, zw414, by decide, by decide +kernel, by decide +kernel, by decide +kernel⟩
abbrev mX9_read : rx_M := (RX9, cX9_read, 7, (some .boolean), false)
noncomputable def bX9_read_182 : rx_K := o_ret1 rx_isZ
set_option maxRecDepth 20000 in
theorem kX9_read_182 (hZ : zO b e D A X) : rx_OK (zV b e D A X) mX9_read 2 182 bX9_read_182 := by
  unfold bX9_read_182
  exact s_zret rx_z_ok rfl dX9_read_182
noncomputable def bX9_read_177 : rx_K := o_const 8 (bX9_read_182)
set_option maxRecDepth 20000 in
theorem kX9_read_177 (hZ : zO b e D A X) : rx_OK (zV b e D A X) mX9_read 2 177 bX9_read_177 := by
  unfold bX9_read_177
  refine s_iconst dX9_read_177 (by decide +kernel) ?_
  exact s_goto dX9_read_178 (by decide) (kX9_read_182 hZ)
noncomputable def bX9_read_170 : rx_K := q_ld q_isR 0 (q_getf 9 9 (q_eq1 bX9_read_177 o_none))
set_option maxRecDepth 20000 in
theorem kX9_read_170 (hZ : zO b e D A X) : rx_OK (zV b e D A X) mX9_read 2 170 bX9_read_170 := by
  unfold bX9_read_170
  refine rx_by (e_ldR _ _) (s_aload_n hZ.1 dX9_read_170 rfl ?_)
  refine zg9_9 dX9_read_171 zw593 ?_
  exact rx_by (e_eq1 _ _) (s_if_ne dX9_read_174 (by decide) (s_none (pc := 181)) (kX9_read_177 hZ))
noncomputable def bX9_read_51 : rx_K := q_ld q_isR 0 (o_callV 0 9 fX9_now (q_eq1 bX9_read_170 o_none))
set_option maxRecDepth 20000 in
theorem kX9_read_51 (hZ : zO b e D A X) : rx_OK (zV b e D A X) mX9_read 2 51 bX9_read_51 := by
  unfold bX9_read_51
  refine rx_by (e_ldR _ _) (s_aload_n hZ.1 dX9_read_51 rfl ?_)
  refine s_callV hZ.1 (met_X9_now hZ) (by decide) zy_X9_now zcl9 zw1746 zw12 (Or.inl zw1744) dX9_read_52 ?_
  exact rx_by (e_eq1 _ _) (s_if_eq dX9_read_55 (by decide) (kX9_read_170 hZ) (s_none (pc := 58)))
noncomputable def bX9_read_44 : rx_K := q_ld q_isR 0 (q_getf 9 9 (q_eq1 bX9_read_51 bX9_read_170))
set_option maxRecDepth 20000 in
theorem kX9_read_44 (hZ : zO b e D A X) : rx_OK (zV b e D A X) mX9_read 2 44 bX9_read_44 := by
  unfold bX9_read_44
  refine rx_by (e_ldR _ _) (s_aload_n hZ.1 dX9_read_44 rfl ?_)
  refine zg9_9 dX9_read_45 zw593 ?_
  exact rx_by (e_eq1 _ _) (s_if_ne dX9_read_48 (by decide) (kX9_read_170 hZ) (kX9_read_51 hZ))
noncomputable def bX9_read_0 : rx_K := q_ld q_isR 0 (q_ld q_isR 1 (p_putf q_isR 9 11 (q_ld q_isR 0 (q_getf 9 11 (o_callV 0 1 fX1_clear (q_ld q_isR 0 (o_const 0 (p_putf q_isI 9 9 (q_ld q_isR 0 (o_const 0 (p_putf q_isI 9 10 (q_ld q_isR 0 (o_const 0 (p_putf q_isI 9 14 (q_ld q_isR 0 (q_ld q_isR 2 (q_ld q_isI 3 (o_callV 2 9 fX9_scanAll (o_const 0 (q_st q_isI 4 (q_ld q_isI 4 (o_const 5600 (q_gt2 bX9_read_170 bX9_read_44)))))))))))))))))))))))
set_option maxRecDepth 20000 in
theorem kX9_read_0 (hZ : zO b e D A X) : rx_OK (zV b e D A X) mX9_read 2 0 bX9_read_0 := by
  unfold bX9_read_0
  refine rx_by (e_ldR _ _) (s_aload_n hZ.1 dX9_read_0 rfl ?_)
  refine rx_by (e_ldR _ _) (s_aload_n hZ.1 dX9_read_1 rfl ?_)
  refine zp9_11 hZ.1 dX9_read_2 zw597 ?_
  refine rx_by (e_ldR _ _) (s_aload_n hZ.1 dX9_read_5 rfl ?_)
  refine zg9_11 dX9_read_6 zw597 ?_
  refine s_callV hZ.1 (met_X1_clear hZ) (by decide) zy_X1_clear zcl1 zw1721 zw1722 (Or.inl zw1720) dX9_read_9 ?_
  refine rx_by (e_ldR _ _) (s_aload_n hZ.1 dX9_read_12 rfl ?_)
  refine s_iconst dX9_read_13 (by decide +kernel) ?_
  refine zp9_9 hZ.1 dX9_read_14 zw593 ?_
  refine rx_by (e_ldR _ _) (s_aload_n hZ.1 dX9_read_17 rfl ?_)
  refine s_iconst dX9_read_18 (by decide +kernel) ?_
  refine zp9_10 hZ.1 dX9_read_19 zw595 ?_
  refine rx_by (e_ldR _ _) (s_aload_n hZ.1 dX9_read_22 rfl ?_)
  refine s_iconst dX9_read_23 (by decide +kernel) ?_
  refine zp9_14 hZ.1 dX9_read_24 zw600 ?_
  refine rx_by (e_ldR _ _) (s_aload_n hZ.1 dX9_read_27 rfl ?_)
  refine rx_by (e_ldR _ _) (s_aload_n hZ.1 dX9_read_28 rfl ?_)
  refine rx_by (e_ldI _ _) (s_iload_n hZ.1 dX9_read_29 rfl ?_)
  refine s_callV hZ.1 (met_X9_scanAll hZ) (by decide) zy_X9_scanAll zcl9 zw1726 zw8 (Or.inl zw1724) dX9_read_30 ?_
  refine s_iconst dX9_read_33 (by decide +kernel) ?_
  refine rx_by (e_stI _ _) (s_istore hZ.1 dX9_read_34 (Nat.le_of_ble_eq_true rfl) ?_)
  refine rx_by (e_ldI _ _) (s_iload hZ.1 dX9_read_36 ?_)
  refine s_sipush dX9_read_38 (by decide +kernel) ?_
  exact rx_by (e_gt2 _ _) (s_icmp_gt dX9_read_41 (by decide) (kX9_read_170 hZ) (kX9_read_44 hZ))
noncomputable def fX9_read : List Nat → rx_H → Option (Nat × rx_H) := rx_ent 7 bX9_read_0
theorem met_X9_read (hZ : zO b e D A X) : rx_Met (zV b e D A X) 2 yX9_read mX9_read fX9_read := rx_entry hZ.1 (kX9_read_0 hZ) (by decide +kernel) rfl (fun h => by cases h)
theorem zy_X9_read : rx_Y (zV b e D A X) yX9_read mX9_read 3 := ⟨zw1719, zw414, by decide, by decide +kernel, by decide +kernel, by decide +kernel⟩
abbrev mX4_judge : rx_M := (RX4, cX4_judge, 5, (some .boolean), false)
noncomputable def bX4_judge_397 : rx_K := o_ret1 rx_isZ
set_option maxRecDepth 20000 in
theorem kX4_judge_397 (hZ : zO b e D A X) : rx_OK (zV b e D A X) mX4_judge 0 397 bX4_judge_397 := by
  unfold bX4_judge_397
  exact s_zret rx_z_ok rfl dX4_judge_397
noncomputable def bX4_judge_392 : rx_K := o_const 8 (bX4_judge_397)
set_option maxRecDepth 20000 in
theorem kX4_judge_392 (hZ : zO b e D A X) : rx_OK (zV b e D A X) mX4_judge 0 392 bX4_judge_392 := by
  unfold bX4_judge_392
  refine s_iconst dX4_judge_392 (by decide +kernel) ?_
  exact s_goto dX4_judge_393 (by decide) (kX4_judge_397 hZ)
noncomputable def bX4_judge_385 : rx_K := q_ld q_isR 0 (q_getf 4 2 (q_eq1 bX4_judge_392 o_none))
set_option maxRecDepth 20000 in
theorem kX4_judge_385 (hZ : zO b e D A X) : rx_OK (zV b e D A X) mX4_judge 0 385 bX4_judge_385 := by
  unfold bX4_judge_385
  refine rx_by (e_ldR _ _) (s_aload_n hZ.1 dX4_judge_385 rfl ?_)
  refine zg4_2 dX4_judge_386 zw640 ?_
  exact rx_by (e_eq1 _ _) (s_if_ne dX4_judge_389 (by decide) (s_none (pc := 396)) (kX4_judge_392 hZ))
noncomputable def bX4_judge_327 : rx_K := o_const 0 (q_st q_isI 3 (q_ld q_isI 3 (q_ld q_isR 0 (q_getf 4 1 (q_getf 1 3 (q_lt2 o_none bX4_judge_385))))))
set_option maxRecDepth 20000 in
theorem kX4_judge_327 (hZ : zO b e D A X) : rx_OK (zV b e D A X) mX4_judge 0 327 bX4_judge_327 := by
  unfold bX4_judge_327
  refine s_iconst dX4_judge_327 (by decide +kernel) ?_
  refine rx_by (e_stI _ _) (s_istore_n hZ.1 dX4_judge_328 rfl (Nat.le_of_ble_eq_true rfl) ?_)
  refine rx_by (e_ldI _ _) (s_iload_n hZ.1 dX4_judge_329 rfl ?_)
  refine rx_by (e_ldR _ _) (s_aload_n hZ.1 dX4_judge_330 rfl ?_)
  refine zg4_1 dX4_judge_331 zw639 ?_
  refine zg1_3 dX4_judge_334 zw1123 ?_
  exact rx_by (e_lt2 _ _) (s_icmp_ge dX4_judge_337 (by decide) (kX4_judge_385 hZ) (s_none (pc := 340)))
noncomputable def bX4_judge_256 : rx_K := o_const 0 (q_st q_isI 3 (q_ld q_isI 3 (q_ld q_isR 0 (q_getf 4 1 (q_getf 1 3 (q_lt2 o_none bX4_judge_327))))))
set_option maxRecDepth 20000 in
theorem kX4_judge_256 (hZ : zO b e D A X) : rx_OK (zV b e D A X) mX4_judge 0 256 bX4_judge_256 := by
  unfold bX4_judge_256
  refine s_iconst dX4_judge_256 (by decide +kernel) ?_
  refine rx_by (e_stI _ _) (s_istore_n hZ.1 dX4_judge_257 rfl (Nat.le_of_ble_eq_true rfl) ?_)
  refine rx_by (e_ldI _ _) (s_iload_n hZ.1 dX4_judge_258 rfl ?_)
  refine rx_by (e_ldR _ _) (s_aload_n hZ.1 dX4_judge_259 rfl ?_)
  refine zg4_1 dX4_judge_260 zw639 ?_
  refine zg1_3 dX4_judge_263 zw1123 ?_
  exact rx_by (e_lt2 _ _) (s_icmp_ge dX4_judge_266 (by decide) (kX4_judge_327 hZ) (s_none (pc := 269)))
noncomputable def bX4_judge_198 : rx_K := o_const 0 (q_st q_isI 3 (q_ld q_isI 3 (q_ld q_isR 0 (q_getf 4 1 (q_getf 1 3 (q_lt2 o_none bX4_judge_256))))))
set_option maxRecDepth 20000 in
theorem kX4_judge_198 (hZ : zO b e D A X) : rx_OK (zV b e D A X) mX4_judge 0 198 bX4_judge_198 := by
  unfold bX4_judge_198
  refine s_iconst dX4_judge_198 (by decide +kernel) ?_
  refine rx_by (e_stI _ _) (s_istore_n hZ.1 dX4_judge_199 rfl (Nat.le_of_ble_eq_true rfl) ?_)
  refine rx_by (e_ldI _ _) (s_iload_n hZ.1 dX4_judge_200 rfl ?_)
  refine rx_by (e_ldR _ _) (s_aload_n hZ.1 dX4_judge_201 rfl ?_)
  refine zg4_1 dX4_judge_202 zw639 ?_
  refine zg1_3 dX4_judge_205 zw1123 ?_
  exact rx_by (e_lt2 _ _) (s_icmp_ge dX4_judge_208 (by decide) (kX4_judge_256 hZ) (s_none (pc := 211)))
noncomputable def bX4_judge_140 : rx_K := o_const 0 (q_st q_isI 3 (q_ld q_isI 3 (q_ld q_isR 0 (q_getf 4 1 (q_getf 1 3 (q_lt2 o_none bX4_judge_198))))))
set_option maxRecDepth 20000 in
theorem kX4_judge_140 (hZ : zO b e D A X) : rx_OK (zV b e D A X) mX4_judge 0 140 bX4_judge_140 := by
  unfold bX4_judge_140
  refine s_iconst dX4_judge_140 (by decide +kernel) ?_
  refine rx_by (e_stI _ _) (s_istore_n hZ.1 dX4_judge_141 rfl (Nat.le_of_ble_eq_true rfl) ?_)
  refine rx_by (e_ldI _ _) (s_iload_n hZ.1 dX4_judge_142 rfl ?_)
  refine rx_by (e_ldR _ _) (s_aload_n hZ.1 dX4_judge_143 rfl ?_)
  refine zg4_1 dX4_judge_144 zw639 ?_
  refine zg1_3 dX4_judge_147 zw1123 ?_
  exact rx_by (e_lt2 _ _) (s_icmp_ge dX4_judge_150 (by decide) (kX4_judge_198 hZ) (s_none (pc := 153)))
noncomputable def bX4_judge_56 : rx_K := o_const 0 (q_st q_isI 3 (q_ld q_isI 3 (q_ld q_isR 0 (q_getf 4 1 (q_getf 1 3 (q_lt2 o_none bX4_judge_140))))))
set_option maxRecDepth 20000 in
theorem kX4_judge_56 (hZ : zO b e D A X) : rx_OK (zV b e D A X) mX4_judge 0 56 bX4_judge_56 := by
  unfold bX4_judge_56
  refine s_iconst dX4_judge_56 (by decide +kernel) ?_
  refine rx_by (e_stI _ _) (s_istore_n hZ.1 dX4_judge_57 rfl (Nat.le_of_ble_eq_true rfl) ?_)
  refine rx_by (e_ldI _ _) (s_iload_n hZ.1 dX4_judge_58 rfl ?_)
  refine rx_by (e_ldR _ _) (s_aload_n hZ.1 dX4_judge_59 rfl ?_)
  refine zg4_1 dX4_judge_60 zw639 ?_
  refine zg1_3 dX4_judge_63 zw1123 ?_
  exact rx_by (e_lt2 _ _) (s_icmp_ge dX4_judge_66 (by decide) (kX4_judge_140 hZ) (s_none (pc := 69)))
noncomputable def bX4_judge_0 : rx_K := q_ld q_isR 0 (q_ld q_isR 1 (p_putf q_isR 4 0 (q_ld q_isR 0 (q_ld q_isR 2 (p_putf q_isR 4 1 (q_ld q_isR 0 (o_const 0 (p_putf q_isI 4 2 (o_const 0 (q_st q_isI 3 (q_ld q_isI 3 (q_ld q_isR 0 (q_getf 4 1 (q_getf 1 3 (q_lt2 o_none bX4_judge_56)))))))))))))))
set_option maxRecDepth 20000 in
theorem kX4_judge_0 (hZ : zO b e D A X) : rx_OK (zV b e D A X) mX4_judge 0 0 bX4_judge_0 := by
  unfold bX4_judge_0
  refine rx_by (e_ldR _ _) (s_aload_n hZ.1 dX4_judge_0 rfl ?_)
  refine rx_by (e_ldR _ _) (s_aload_n hZ.1 dX4_judge_1 rfl ?_)
  refine zp4_0 hZ.1 dX4_judge_2 zw638 ?_
  refine rx_by (e_ldR _ _) (s_aload_n hZ.1 dX4_judge_5 rfl ?_)
  refine rx_by (e_ldR _ _) (s_aload_n hZ.1 dX4_judge_6 rfl ?_)
  refine zp4_1 hZ.1 dX4_judge_7 zw639 ?_
  refine rx_by (e_ldR _ _) (s_aload_n hZ.1 dX4_judge_10 rfl ?_)
  refine s_iconst dX4_judge_11 (by decide +kernel) ?_
  refine zp4_2 hZ.1 dX4_judge_12 zw640 ?_
  refine s_iconst dX4_judge_15 (by decide +kernel) ?_
  refine rx_by (e_stI _ _) (s_istore_n hZ.1 dX4_judge_16 rfl (Nat.le_of_ble_eq_true rfl) ?_)
  refine rx_by (e_ldI _ _) (s_iload_n hZ.1 dX4_judge_17 rfl ?_)
  refine rx_by (e_ldR _ _) (s_aload_n hZ.1 dX4_judge_18 rfl ?_)
  refine zg4_1 dX4_judge_19 zw639 ?_
  refine zg1_3 dX4_judge_22 zw1123 ?_
  exact rx_by (e_lt2 _ _) (s_icmp_ge dX4_judge_25 (by decide) (kX4_judge_56 hZ) (s_none (pc := 28)))
noncomputable def fX4_judge : List Nat → rx_H → Option (Nat × rx_H) := rx_ent 5 bX4_judge_0
theorem met_X4_judge (hZ : zO b e D A X) : rx_Met (zV b e D A X) 0 yX4_judge mX4_judge fX4_judge := rx_entry hZ.1 (kX4_judge_0 hZ) (by decide +kernel) rfl (fun h => by cases h)
theorem zy_X4_judge : rx_Y (zV b e D A X) yX4_judge mX4_judge 2 := ⟨zw1891, zw420, by decide, by decide +kernel, by decide +kernel, by decide +kernel⟩
abbrev mX0_judge : rx_M := (RX0, cX0_judge, 7, (some .boolean), false)
noncomputable def bX0_judge_286 : rx_K := o_ret1 rx_isZ
set_option maxRecDepth 20000 in
theorem kX0_judge_286 (hZ : zO b e D A X) : rx_OK (zV b e D A X) mX0_judge 0 286 bX0_judge_286 := by
  unfold bX0_judge_286
  exact s_zret rx_z_ok rfl dX0_judge_286
noncomputable def bX0_judge_281 : rx_K := o_const 8 (bX0_judge_286)
set_option maxRecDepth 20000 in
theorem kX0_judge_281 (hZ : zO b e D A X) : rx_OK (zV b e D A X) mX0_judge 0 281 bX0_judge_281 := by
  unfold bX0_judge_281
  refine s_iconst dX0_judge_281 (by decide +kernel) ?_
  exact s_goto dX0_judge_282 (by decide) (kX0_judge_286 hZ)
noncomputable def bX0_judge_274 : rx_K := q_ld q_isR 0 (q_getf 0 3 (q_eq1 bX0_judge_281 o_none))
set_option maxRecDepth 20000 in
theorem kX0_judge_274 (hZ : zO b e D A X) : rx_OK (zV b e D A X) mX0_judge 0 274 bX0_judge_274 := by
  unfold bX0_judge_274
  refine rx_by (e_ldR _ _) (s_aload_n hZ.1 dX0_judge_274 rfl ?_)
  refine zg0_3 dX0_judge_275 zw664 ?_
  exact rx_by (e_eq1 _ _) (s_if_ne dX0_judge_278 (by decide) (s_none (pc := 285)) (kX0_judge_281 hZ))
noncomputable def bX0_judge_77 : rx_K := o_const 0 (q_st q_isI 4 (q_ld q_isI 4 (q_ld q_isR 0 (q_getf 0 1 (q_getf 1 3 (q_lt2 o_none bX0_judge_274))))))
set_option maxRecDepth 20000 in
theorem kX0_judge_77 (hZ : zO b e D A X) : rx_OK (zV b e D A X) mX0_judge 0 77 bX0_judge_77 := by
  unfold bX0_judge_77
  refine s_iconst dX0_judge_77 (by decide +kernel) ?_
  refine rx_by (e_stI _ _) (s_istore hZ.1 dX0_judge_78 (Nat.le_of_ble_eq_true rfl) ?_)
  refine rx_by (e_ldI _ _) (s_iload hZ.1 dX0_judge_80 ?_)
  refine rx_by (e_ldR _ _) (s_aload_n hZ.1 dX0_judge_82 rfl ?_)
  refine zg0_1 dX0_judge_83 zw662 ?_
  refine zg1_3 dX0_judge_86 zw1124 ?_
  exact rx_by (e_lt2 _ _) (s_icmp_ge dX0_judge_89 (by decide) (kX0_judge_274 hZ) (s_none (pc := 92)))
noncomputable def bX0_judge_0 : rx_K := q_ld q_isR 0 (q_ld q_isR 1 (p_putf q_isR 0 0 (q_ld q_isR 0 (q_ld q_isR 2 (p_putf q_isR 0 1 (q_ld q_isR 0 (q_ld q_isR 3 (p_putf q_isR 0 2 (q_ld q_isR 0 (o_const 0 (p_putf q_isI 0 3 (o_const 0 (q_st q_isI 4 (q_ld q_isI 4 (q_ld q_isR 0 (q_getf 0 1 (q_getf 1 3 (q_lt2 o_none bX0_judge_77))))))))))))))))))
set_option maxRecDepth 20000 in
theorem kX0_judge_0 (hZ : zO b e D A X) : rx_OK (zV b e D A X) mX0_judge 0 0 bX0_judge_0 := by
  unfold bX0_judge_0
  refine rx_by (e_ldR _ _) (s_aload_n hZ.1 dX0_judge_0 rfl ?_)
  refine rx_by (e_ldR _ _) (s_aload_n hZ.1 dX0_judge_1 rfl ?_)
  refine zp0_0 hZ.1 dX0_judge_2 zw661 ?_
  refine rx_by (e_ldR _ _) (s_aload_n hZ.1 dX0_judge_5 rfl ?_)
  refine rx_by (e_ldR _ _) (s_aload_n hZ.1 dX0_judge_6 rfl ?_)
  refine zp0_1 hZ.1 dX0_judge_7 zw662 ?_
  refine rx_by (e_ldR _ _) (s_aload_n hZ.1 dX0_judge_10 rfl ?_)
  refine rx_by (e_ldR _ _) (s_aload_n hZ.1 dX0_judge_11 rfl ?_)
  refine zp0_2 hZ.1 dX0_judge_12 zw663 ?_
  refine rx_by (e_ldR _ _) (s_aload_n hZ.1 dX0_judge_15 rfl ?_)
  refine s_iconst dX0_judge_16 (by decide +kernel) ?_
  refine zp0_3 hZ.1 dX0_judge_17 zw664 ?_
  refine s_iconst dX0_judge_20 (by decide +kernel) ?_
  refine rx_by (e_stI _ _) (s_istore hZ.1 dX0_judge_21 (Nat.le_of_ble_eq_true rfl) ?_)
  refine rx_by (e_ldI _ _) (s_iload hZ.1 dX0_judge_23 ?_)
  refine rx_by (e_ldR _ _) (s_aload_n hZ.1 dX0_judge_25 rfl ?_)
  refine zg0_1 dX0_judge_26 zw662 ?_
  refine zg1_3 dX0_judge_29 zw1124 ?_
  exact rx_by (e_lt2 _ _) (s_icmp_ge dX0_judge_32 (by decide) (kX0_judge_77 hZ) (s_none (pc := 35)))
noncomputable def fX0_judge : List Nat → rx_H → Option (Nat × rx_H) := rx_ent 7 bX0_judge_0
theorem met_X0_judge (hZ : zO b e D A X) : rx_Met (zV b e D A X) 0 yX0_judge mX0_judge fX0_judge := rx_entry hZ.1 (kX0_judge_0 hZ) (by decide +kernel) rfl (fun h => by cases h)
theorem zy_X0_judge : rx_Y (zV b e D A X) yX0_judge mX0_judge 3 := ⟨zw2047, zw421, by decide, by decide +kernel, by decide +kernel, by decide +kernel⟩
abbrev mX3_write : rx_M := (RX3, cX3_write, 6, none, false)
noncomputable def bX3_write_221 : rx_K := o_ret0
set_option maxRecDepth 20000 in
theorem kX3_write_221 (hZ : zO b e D A X) : rx_OK (zV b e D A X) mX3_write 0 221 bX3_write_221 := by
  unfold bX3_write_221
  exact s_vret rfl dX3_write_221
noncomputable def bX3_write_0 : rx_K := q_ld q_isR 0 (q_ld q_isR 1 (p_putf q_isR 3 0 (q_ld q_isR 0 (q_ld q_isR 2 (p_putf q_isR 3 1 (o_const 0 (q_st q_isI 3 (q_ld q_isI 3 (q_ld q_isR 0 (q_getf 3 1 (q_getf 1 3 (q_lt2 o_none bX3_write_221))))))))))))
set_option maxRecDepth 20000 in
theorem kX3_write_0 (hZ : zO b e D A X) : rx_OK (zV b e D A X) mX3_write 0 0 bX3_write_0 := by
  unfold bX3_write_0
  refine rx_by (e_ldR _ _) (s_aload_n hZ.1 dX3_write_0 rfl ?_)
  refine rx_by (e_ldR _ _) (s_aload_n hZ.1 dX3_write_1 rfl ?_)
  refine zp3_0 hZ.1 dX3_write_2 zw721 ?_
  refine rx_by (e_ldR _ _) (s_aload_n hZ.1 dX3_write_5 rfl ?_)
  refine rx_by (e_ldR _ _) (s_aload_n hZ.1 dX3_write_6 rfl ?_)
  refine zp3_1 hZ.1 dX3_write_7 zw722 ?_
  refine s_iconst dX3_write_10 (by decide +kernel) ?_
  refine rx_by (e_stI _ _) (s_istore_n hZ.1 dX3_write_11 rfl (Nat.le_of_ble_eq_true rfl) ?_)
  refine rx_by (e_ldI _ _) (s_iload_n hZ.1 dX3_write_12 rfl ?_)
  refine rx_by (e_ldR _ _) (s_aload_n hZ.1 dX3_write_13 rfl ?_)
  refine zg3_1 dX3_write_14 zw722 ?_
  refine zg1_3 dX3_write_17 zw1121 ?_
  exact rx_by (e_lt2 _ _) (s_icmp_ge dX3_write_20 (by decide) (kX3_write_221 hZ) (s_none (pc := 23)))
noncomputable def fX3_write : List Nat → rx_H → Option (Nat × rx_H) := rx_ent 6 bX3_write_0
theorem met_X3_write (hZ : zO b e D A X) : rx_Met (zV b e D A X) 0 yX3_write mX3_write fX3_write := rx_entry hZ.1 (kX3_write_0 hZ) (by decide +kernel) rfl (fun h => by cases h)
theorem zy_X3_write : rx_Y (zV b e D A X) yX3_write mX3_write 2 := ⟨zw2222, zw422, by decide, by decide +kernel, by decide +kernel, by decide +kernel⟩
abbrev mX9_keep : rx_M := (RX9, cX9_keep, 1, none, false)
noncomputable def bX9_keep_98 : rx_K := o_mm z_min (o_copy 0 (rx_chk .int) (o_ret0))
set_option maxRecDepth 20000 in
theorem kX9_keep_98 (hZ : zO b e D A X) : rx_OK (zV b e D A X) mX9_keep 1 98 bX9_keep_98 := by
  unfold bX9_keep_98
  refine s_mmin hZ.1 (by decide) zw2334 zw1688 zw432 zmath_min dX9_keep_98 ?_
  refine s_copy hZ.1 (tt := 0) (ty := .int) rfl rfl (fun c h => Or.inl (rx_isI_v hZ.1 h).2) rfl (by decide) zw2335 zw1692 zw1691 zw433 dX9_keep_101 ?_
  exact s_vret rfl dX9_keep_104
noncomputable def bX9_keep_48 : rx_K := q_getf 9 11 (q_getf 1 8 (o_const 0 (q_ld q_isR 0 (q_getf 9 5 (q_ld q_isR 0 (q_getf 9 11 (q_getf 1 8 (o_alen 0 (o_mm z_min (o_copy 0 (rx_chk .int) (q_ld q_isR 0 (q_getf 9 3 (o_const 0 (q_ld q_isR 0 (q_getf 9 11 (q_getf 1 9 (o_const 0 (q_ld q_isR 0 (q_getf 9 5 (q_ld q_isR 0 (q_getf 9 11 (q_getf 1 9 (o_alen 0 (bX9_keep_98))))))))))))))))))))))))
set_option maxRecDepth 20000 in
theorem kX9_keep_48 (hZ : zO b e D A X) : rx_OK (zV b e D A X) mX9_keep 1 48 bX9_keep_48 := by
  unfold bX9_keep_48
  refine zg9_11 dX9_keep_48 zw597 ?_
  refine zg1_8 dX9_keep_51 zw1137 ?_
  refine s_iconst dX9_keep_54 (by decide +kernel) ?_
  refine rx_by (e_ldR _ _) (s_aload_n hZ.1 dX9_keep_55 rfl ?_)
  refine zg9_5 dX9_keep_56 zw589 ?_
  refine rx_by (e_ldR _ _) (s_aload_n hZ.1 dX9_keep_59 rfl ?_)
  refine zg9_11 dX9_keep_60 zw597 ?_
  refine zg1_8 dX9_keep_63 zw1137 ?_
  refine s_alen (tt := 0) rfl dX9_keep_66 ?_
  refine s_mmin hZ.1 (by decide) zw2334 zw1688 zw432 zmath_min dX9_keep_67 ?_
  refine s_copy hZ.1 (tt := 0) (ty := .int) rfl rfl (fun c h => Or.inl (rx_isI_v hZ.1 h).2) rfl (by decide) zw2335 zw1692 zw1691 zw433 dX9_keep_70 ?_
  refine rx_by (e_ldR _ _) (s_aload_n hZ.1 dX9_keep_73 rfl ?_)
  refine zg9_3 dX9_keep_74 zw585 ?_
  refine s_iconst dX9_keep_77 (by decide +kernel) ?_
  refine rx_by (e_ldR _ _) (s_aload_n hZ.1 dX9_keep_78 rfl ?_)
  refine zg9_11 dX9_keep_79 zw597 ?_
  refine zg1_9 dX9_keep_82 zw1141 ?_
  refine s_iconst dX9_keep_85 (by decide +kernel) ?_
  refine rx_by (e_ldR _ _) (s_aload_n hZ.1 dX9_keep_86 rfl ?_)
  refine zg9_5 dX9_keep_87 zw589 ?_
  refine rx_by (e_ldR _ _) (s_aload_n hZ.1 dX9_keep_90 rfl ?_)
  refine zg9_11 dX9_keep_91 zw597 ?_
  refine zg1_9 dX9_keep_94 zw1141 ?_
  refine s_alen (tt := 0) rfl dX9_keep_97 ?_
  exact (kX9_keep_98 hZ)
noncomputable def bX9_keep_0 : rx_K := q_ld q_isR 0 (q_getf 9 6 (o_const 0 (q_ld q_isR 0 (q_getf 9 11 (q_getf 1 6 (o_const 0 (q_ld q_isR 0 (q_getf 9 7 (q_ld q_isR 0 (q_getf 9 11 (q_getf 1 6 (o_alen 2 (o_mm z_min (o_copy 2 (rx_chk .byte) (q_ld q_isR 0 (q_getf 9 11 (q_ld q_isR 0 (q_getf 9 7 (p_putf q_isI 1 7 (q_ld q_isR 0 (q_getf 9 2 (o_const 0 (q_ld q_isR 0 (bX9_keep_48))))))))))))))))))))))))
set_option maxRecDepth 20000 in
theorem kX9_keep_0 (hZ : zO b e D A X) : rx_OK (zV b e D A X) mX9_keep 1 0 bX9_keep_0 := by
  unfold bX9_keep_0
  refine rx_by (e_ldR _ _) (s_aload_n hZ.1 dX9_keep_0 rfl ?_)
  refine zg9_6 dX9_keep_1 zw590 ?_
  refine s_iconst dX9_keep_4 (by decide +kernel) ?_
  refine rx_by (e_ldR _ _) (s_aload_n hZ.1 dX9_keep_5 rfl ?_)
  refine zg9_11 dX9_keep_6 zw597 ?_
  refine zg1_6 dX9_keep_9 zw1130 ?_
  refine s_iconst dX9_keep_12 (by decide +kernel) ?_
  refine rx_by (e_ldR _ _) (s_aload_n hZ.1 dX9_keep_13 rfl ?_)
  refine zg9_7 dX9_keep_14 zw591 ?_
  refine rx_by (e_ldR _ _) (s_aload_n hZ.1 dX9_keep_17 rfl ?_)
  refine zg9_11 dX9_keep_18 zw597 ?_
  refine zg1_6 dX9_keep_21 zw1130 ?_
  refine s_alen (tt := 2) rfl dX9_keep_24 ?_
  refine s_mmin hZ.1 (by decide) zw2334 zw1688 zw432 zmath_min dX9_keep_25 ?_
  refine s_copy hZ.1 (tt := 2) (ty := .byte) rfl rfl (fun c h => by cases h) rfl (by decide) zw2335 zw1692 zw1691 zw433 dX9_keep_28 ?_
  refine rx_by (e_ldR _ _) (s_aload_n hZ.1 dX9_keep_31 rfl ?_)
  refine zg9_11 dX9_keep_32 zw597 ?_
  refine rx_by (e_ldR _ _) (s_aload_n hZ.1 dX9_keep_35 rfl ?_)
  refine zg9_7 dX9_keep_36 zw591 ?_
  refine zp1_7 hZ.1 dX9_keep_39 zw1134 ?_
  refine rx_by (e_ldR _ _) (s_aload_n hZ.1 dX9_keep_42 rfl ?_)
  refine zg9_2 dX9_keep_43 zw583 ?_
  refine s_iconst dX9_keep_46 (by decide +kernel) ?_
  refine rx_by (e_ldR _ _) (s_aload_n hZ.1 dX9_keep_47 rfl ?_)
  exact (kX9_keep_48 hZ)
noncomputable def fX9_keep : List Nat → rx_H → Option (Nat × rx_H) := rx_ent 1 bX9_keep_0
theorem met_X9_keep (hZ : zO b e D A X) : rx_Met (zV b e D A X) 1 yX9_keep mX9_keep fX9_keep := rx_entry hZ.1 (kX9_keep_0 hZ) (by decide +kernel) rfl (fun h => by cases h)
theorem zy_X9_keep : rx_Y (zV b e D A X) yX9_keep mX9_keep 0 := ⟨zw2333, zw414, by decide, by decide +kernel, by decide +kernel, by decide +kernel⟩
abbrev mX12_keep : rx_M := (RX12, cX12_keep, 3, (some .int), false)
noncomputable def bX12_keep_0 : rx_K := q_ld q_isR 1 (q_ld q_isI 2 (p_putf q_isI 1 0 (q_ld q_isR 1 (q_ld q_isR 0 (q_getf 12 5 (q_ld q_isI 2 (q_ald 0 (p_putf q_isI 1 1 (q_ld q_isR 0 (q_getf 12 5 (q_ld q_isI 2 (o_dup2 (q_ald 0 (o_const 8 (q_bi q_Fadd (p_ast 0 (fun v => v) q_isI (q_ld q_isR 1 (q_getf 1 1 (o_ret1 rx_isI)))))))))))))))))))
set_option maxRecDepth 20000 in
theorem kX12_keep_0 (hZ : zO b e D A X) : rx_OK (zV b e D A X) mX12_keep 0 0 bX12_keep_0 := by
  unfold bX12_keep_0
  refine rx_by (e_ldR _ _) (s_aload_n hZ.1 dX12_keep_0 rfl ?_)
  refine rx_by (e_ldI _ _) (s_iload_n hZ.1 dX12_keep_1 rfl ?_)
  refine zp1_0 hZ.1 dX12_keep_2 zw1111 ?_
  refine rx_by (e_ldR _ _) (s_aload_n hZ.1 dX12_keep_5 rfl ?_)
  refine rx_by (e_ldR _ _) (s_aload_n hZ.1 dX12_keep_6 rfl ?_)
  refine zg12_5 dX12_keep_7 zw1608 ?_
  refine rx_by (e_ldI _ _) (s_iload_n hZ.1 dX12_keep_10 rfl ?_)
  refine rx_by (e_ald _ _) (s_iald (tt := 0) rfl dX12_keep_11 ?_)
  refine zp1_1 hZ.1 dX12_keep_12 zw1112 ?_
  refine rx_by (e_ldR _ _) (s_aload_n hZ.1 dX12_keep_15 rfl ?_)
  refine zg12_5 dX12_keep_16 zw1608 ?_
  refine rx_by (e_ldI _ _) (s_iload_n hZ.1 dX12_keep_19 rfl ?_)
  refine s_dup2 hZ.1 dX12_keep_20 ?_
  refine rx_by (e_ald _ _) (s_iald (tt := 0) rfl dX12_keep_21 ?_)
  refine s_iconst dX12_keep_22 (by decide +kernel) ?_
  refine rx_by (e_add _) (s_iadd dX12_keep_23 ?_)
  refine rx_by2 (l_astI _ _ _) (s_iast hZ.1 (tt := 0) rfl dX12_keep_24 ?_)
  refine rx_by (e_ldR _ _) (s_aload_n hZ.1 dX12_keep_25 rfl ?_)
  refine zg1_1 dX12_keep_26 zw1112 ?_
  exact s_iret hZ.1 rfl dX12_keep_29
noncomputable def fX12_keep : List Nat → rx_H → Option (Nat × rx_H) := rx_ent 3 bX12_keep_0
theorem met_X12_keep (hZ : zO b e D A X) : rx_Met (zV b e D A X) 0 yX12_keep mX12_keep fX12_keep := rx_entry hZ.1 (kX12_keep_0 hZ) (by decide +kernel) rfl (fun h => by cases h)
theorem zy_X12_keep : rx_Y (zV b e D A X) yX12_keep mX12_keep 2 := ⟨zw2339, zw413, by decide, by decide +kernel, by decide +kernel, by decide +kernel⟩
abbrev mX12_make : rx_M := (RX12, cX12_make, 5, (some .int), false)
noncomputable def bX12_make_209 (j : Nat → rx_K) : rx_K := q_ld q_isR 0 (q_getf 12 11 (q_ld q_isR 0 (q_getf 12 14 (q_ld q_isR 3 (o_callV 2 3 fX3_write (q_ld q_isR 0 (q_getf 12 8 (o_callV 0 9 fX9_keep (q_ld q_isR 0 (o_const 34359738352 (p_putf q_isI 12 12 (q_ld q_isR 0 (q_ld q_isR 3 (q_ld q_isI 1 (o_callV 2 12 fX12_keep (o_ret1 rx_isI))))))))))))))))
set_option maxRecDepth 20000 in
theorem kX12_make_209 (hZ : zO b e D A X) (j : Nat → rx_K) (hj : ∀ k pc, [88][k]? = some pc → rx_OK (zV b e D A X) mX12_make 3 pc (j k)) : rx_OK (zV b e D A X) mX12_make 3 209 (bX12_make_209 j) := by
  unfold bX12_make_209
  refine rx_by (e_ldR _ _) (s_aload_n hZ.1 dX12_make_209 rfl ?_)
  refine zg12_11 dX12_make_210 zw1614 ?_
  refine rx_by (e_ldR _ _) (s_aload_n hZ.1 dX12_make_213 rfl ?_)
  refine zg12_14 dX12_make_214 zw1617 ?_
  refine rx_by (e_ldR _ _) (s_aload_n hZ.1 dX12_make_217 rfl ?_)
  refine s_callV hZ.1 (met_X3_write hZ) (by decide) zy_X3_write zcl3 zw2220 zw2221 (Or.inl zw2219) dX12_make_218 ?_
  refine rx_by (e_ldR _ _) (s_aload_n hZ.1 dX12_make_221 rfl ?_)
  refine zg12_8 dX12_make_222 zw1611 ?_
  refine s_callV hZ.1 (met_X9_keep hZ) (by decide) zy_X9_keep zcl9 zw2331 zw2332 (Or.inl zw2330) dX12_make_225 ?_
  refine rx_by (e_ldR _ _) (s_aload_n hZ.1 dX12_make_228 rfl ?_)
  refine s_bipush dX12_make_229 (by decide +kernel) ?_
  refine zp12_12 hZ.1 dX12_make_231 zw1615 ?_
  refine rx_by (e_ldR _ _) (s_aload_n hZ.1 dX12_make_234 rfl ?_)
  refine rx_by (e_ldR _ _) (s_aload_n hZ.1 dX12_make_235 rfl ?_)
  refine rx_by (e_ldI _ _) (s_iload_n hZ.1 dX12_make_236 rfl ?_)
  refine s_callV hZ.1 (met_X12_keep hZ) (by decide) zy_X12_keep zcl12 zw2338 zw111 (Or.inl zw2336) dX12_make_237 ?_
  exact s_iret hZ.1 rfl dX12_make_240
noncomputable def bX12_make_171 (j : Nat → rx_K) : rx_K := q_ld q_isR 0 (q_getf 12 10 (q_ld q_isR 0 (q_getf 12 14 (q_ld q_isR 3 (q_ld q_isR 0 (q_getf 12 8 (o_callV 3 0 fX0_judge (q_eq1 o_none (bX12_make_209 j)))))))))
set_option maxRecDepth 20000 in
theorem kX12_make_171 (hZ : zO b e D A X) (j : Nat → rx_K) (hj : ∀ k pc, [88][k]? = some pc → rx_OK (zV b e D A X) mX12_make 3 pc (j k)) : rx_OK (zV b e D A X) mX12_make 3 171 (bX12_make_171 j) := by
  unfold bX12_make_171
  refine rx_by (e_ldR _ _) (s_aload_n hZ.1 dX12_make_171 rfl ?_)
  refine zg12_10 dX12_make_172 zw1613 ?_
  refine rx_by (e_ldR _ _) (s_aload_n hZ.1 dX12_make_175 rfl ?_)
  refine zg12_14 dX12_make_176 zw1617 ?_
  refine rx_by (e_ldR _ _) (s_aload_n hZ.1 dX12_make_179 rfl ?_)
  refine rx_by (e_ldR _ _) (s_aload_n hZ.1 dX12_make_180 rfl ?_)
  refine zg12_8 dX12_make_181 zw1611 ?_
  refine s_callV hZ.1 (met_X0_judge hZ) (by decide) zy_X0_judge zcl0 zw2045 zw2046 (Or.inl zw2044) dX12_make_184 ?_
  exact rx_by (e_eq1 _ _) (s_if_ne dX12_make_187 (by decide) (kX12_make_209 hZ j hj) (s_none (pc := 190)))
noncomputable def bX12_make_130 (j : Nat → rx_K) : rx_K := q_ld q_isR 0 (q_getf 12 14 (o_callV 0 11 fX11_settle (q_ld q_isR 0 (q_getf 12 9 (q_ld q_isR 0 (q_getf 12 14 (q_ld q_isR 3 (o_callV 2 4 fX4_judge (q_eq1 o_none (bX12_make_171 j))))))))))
set_option maxRecDepth 20000 in
theorem kX12_make_130 (hZ : zO b e D A X) (j : Nat → rx_K) (hj : ∀ k pc, [88][k]? = some pc → rx_OK (zV b e D A X) mX12_make 3 pc (j k)) : rx_OK (zV b e D A X) mX12_make 3 130 (bX12_make_130 j) := by
  unfold bX12_make_130
  refine rx_by (e_ldR _ _) (s_aload_n hZ.1 dX12_make_130 rfl ?_)
  refine zg12_14 dX12_make_131 zw1617 ?_
  refine s_callV hZ.1 (met_X11_settle hZ) (by decide) zy_X11_settle zcl11 zw1570 zw1571 (Or.inl zw1569) dX12_make_134 ?_
  refine rx_by (e_ldR _ _) (s_aload_n hZ.1 dX12_make_137 rfl ?_)
  refine zg12_9 dX12_make_138 zw1612 ?_
  refine rx_by (e_ldR _ _) (s_aload_n hZ.1 dX12_make_141 rfl ?_)
  refine zg12_14 dX12_make_142 zw1617 ?_
  refine rx_by (e_ldR _ _) (s_aload_n hZ.1 dX12_make_145 rfl ?_)
  refine s_callV hZ.1 (met_X4_judge hZ) (by decide) zy_X4_judge zcl4 zw1889 zw1890 (Or.inl zw1888) dX12_make_146 ?_
  exact rx_by (e_eq1 _ _) (s_if_ne dX12_make_149 (by decide) (kX12_make_171 hZ j hj) (s_none (pc := 152)))
noncomputable def bX12_make_121 (j : Nat → rx_K) : rx_K := o_callV 1 11 fX11_enter (q_inc 4 8 ((j 0)))
set_option maxRecDepth 20000 in
theorem kX12_make_121 (hZ : zO b e D A X) (j : Nat → rx_K) (hj : ∀ k pc, [88][k]? = some pc → rx_OK (zV b e D A X) mX12_make 3 pc (j k)) : rx_OK (zV b e D A X) mX12_make 3 121 (bX12_make_121 j) := by
  unfold bX12_make_121
  refine s_callV hZ.1 (met_X11_enter hZ) (by decide) zy_X11_enter zcl11 zw1566 zw1567 (Or.inl zw1565) dX12_make_121 ?_
  refine rx_by (e_inc (by decide +kernel) _) (s_iinc hZ.1 dX12_make_124 (Nat.le_of_ble_eq_true rfl) ?_)
  exact s_goto dX12_make_127 (by decide) (hj 0 88 rfl)
noncomputable def bX12_make_108 (j : Nat → rx_K) : rx_K := q_ld q_isR 0 (q_ld q_isI 4 (q_ld q_isR 0 (q_getf 12 6 (q_ld q_isI 4 (q_ald 0 (o_callV 2 12 fX12_buildOf ((bX12_make_121 j))))))))
set_option maxRecDepth 20000 in
theorem kX12_make_108 (hZ : zO b e D A X) (j : Nat → rx_K) (hj : ∀ k pc, [88][k]? = some pc → rx_OK (zV b e D A X) mX12_make 3 pc (j k)) : rx_OK (zV b e D A X) mX12_make 3 108 (bX12_make_108 j) := by
  unfold bX12_make_108
  refine rx_by (e_ldR _ _) (s_aload_n hZ.1 dX12_make_108 rfl ?_)
  refine rx_by (e_ldI _ _) (s_iload hZ.1 dX12_make_109 ?_)
  refine rx_by (e_ldR _ _) (s_aload_n hZ.1 dX12_make_111 rfl ?_)
  refine zg12_6 dX12_make_112 zw1609 ?_
  refine rx_by (e_ldI _ _) (s_iload hZ.1 dX12_make_115 ?_)
  refine rx_by (e_ald _ _) (s_iald (tt := 0) rfl dX12_make_117 ?_)
  refine s_callV hZ.1 (met_X12_buildOf hZ) (by decide) zy_X12_buildOf zcl12 zw1559 zw1 (Or.inl zw1557) dX12_make_118 ?_
  exact (kX12_make_121 hZ j hj)
noncomputable def bX12_make_104 (j : Nat → rx_K) : rx_K := o_const 3 ((bX12_make_121 j))
set_option maxRecDepth 20000 in
theorem kX12_make_104 (hZ : zO b e D A X) (j : Nat → rx_K) (hj : ∀ k pc, [88][k]? = some pc → rx_OK (zV b e D A X) mX12_make 3 pc (j k)) : rx_OK (zV b e D A X) mX12_make 3 104 (bX12_make_104 j) := by
  unfold bX12_make_104
  refine s_null dX12_make_104 ?_
  exact s_goto dX12_make_105 (by decide) (kX12_make_121 hZ j hj)
noncomputable def bX12_make_94 (j : Nat → rx_K) : rx_K := q_ld q_isR 0 (q_getf 12 14 (q_ld q_isI 4 (q_ld q_isI 1 (q_eq2 (bX12_make_104 j) (bX12_make_108 j)))))
set_option maxRecDepth 20000 in
theorem kX12_make_94 (hZ : zO b e D A X) (j : Nat → rx_K) (hj : ∀ k pc, [88][k]? = some pc → rx_OK (zV b e D A X) mX12_make 3 pc (j k)) : rx_OK (zV b e D A X) mX12_make 3 94 (bX12_make_94 j) := by
  unfold bX12_make_94
  refine rx_by (e_ldR _ _) (s_aload_n hZ.1 dX12_make_94 rfl ?_)
  refine zg12_14 dX12_make_95 zw1617 ?_
  refine rx_by (e_ldI _ _) (s_iload hZ.1 dX12_make_98 ?_)
  refine rx_by (e_ldI _ _) (s_iload_n hZ.1 dX12_make_100 rfl ?_)
  exact rx_by (e_eq2 _ _) (s_icmp_ne dX12_make_101 (by decide) (kX12_make_108 hZ j hj) (kX12_make_104 hZ j hj))
noncomputable def bX12_make_88 (j : Nat → rx_K) : rx_K := q_ld q_isI 4 (o_const 40 (q_lt2 (bX12_make_94 j) (bX12_make_130 j)))
set_option maxRecDepth 20000 in
theorem kX12_make_88 (hZ : zO b e D A X) (j : Nat → rx_K) (hj : ∀ k pc, [88][k]? = some pc → rx_OK (zV b e D A X) mX12_make 3 pc (j k)) : rx_OK (zV b e D A X) mX12_make 3 88 (bX12_make_88 j) := by
  unfold bX12_make_88
  refine rx_by (e_ldI _ _) (s_iload hZ.1 dX12_make_88 ?_)
  refine s_iconst dX12_make_90 (by decide +kernel) ?_
  exact rx_by (e_lt2 _ _) (s_icmp_ge dX12_make_91 (by decide) (kX12_make_130 hZ j hj) (kX12_make_94 hZ j hj))
noncomputable def bX12_make_70 (j : Nat → rx_K) : rx_K := q_ld q_isR 0 (q_getf 12 14 (o_callV 0 11 fX11_clear (q_ld q_isR 0 (q_getf 12 14 (q_ld q_isR 3 (o_callV 1 11 fX11_enter (o_const 0 (q_st q_isI 4 ((bX12_make_88 j))))))))))
set_option maxRecDepth 20000 in
theorem kX12_make_70 (hZ : zO b e D A X) (j : Nat → rx_K) (hj : ∀ k pc, [88][k]? = some pc → rx_OK (zV b e D A X) mX12_make 3 pc (j k)) : rx_OK (zV b e D A X) mX12_make 3 70 (bX12_make_70 j) := by
  unfold bX12_make_70
  refine rx_by (e_ldR _ _) (s_aload_n hZ.1 dX12_make_70 rfl ?_)
  refine zg12_14 dX12_make_71 zw1617 ?_
  refine s_callV hZ.1 (met_X11_clear hZ) (by decide) zy_X11_clear zcl11 zw1554 zw1555 (Or.inl zw1553) dX12_make_74 ?_
  refine rx_by (e_ldR _ _) (s_aload_n hZ.1 dX12_make_77 rfl ?_)
  refine zg12_14 dX12_make_78 zw1617 ?_
  refine rx_by (e_ldR _ _) (s_aload_n hZ.1 dX12_make_81 rfl ?_)
  refine s_callV hZ.1 (met_X11_enter hZ) (by decide) zy_X11_enter zcl11 zw1566 zw1567 (Or.inl zw1565) dX12_make_82 ?_
  refine s_iconst dX12_make_85 (by decide +kernel) ?_
  refine rx_by (e_stI _ _) (s_istore hZ.1 dX12_make_86 (Nat.le_of_ble_eq_true rfl) ?_)
  exact (kX12_make_88 hZ j hj)
noncomputable def bX12_make_20 (j : Nat → rx_K) : rx_K := q_ld q_isR 0 (q_getf 12 1 (q_st q_isI 2 (q_ld q_isR 0 (o_const 0 (p_putf q_isI 12 1 (q_ld q_isR 0 (o_callV 0 12 fX12_unused (q_st q_isR 3 (q_ld q_isR 0 (q_getf 12 8 (q_ld q_isR 3 (q_ld q_isR 0 (q_getf 12 0 (q_ld q_isI 2 (o_callV 3 9 fX9_read (q_eq1 o_none (bX12_make_70 j)))))))))))))))))
set_option maxRecDepth 20000 in
theorem kX12_make_20 (hZ : zO b e D A X) (j : Nat → rx_K) (hj : ∀ k pc, [88][k]? = some pc → rx_OK (zV b e D A X) mX12_make 3 pc (j k)) : rx_OK (zV b e D A X) mX12_make 3 20 (bX12_make_20 j) := by
  unfold bX12_make_20
  refine rx_by (e_ldR _ _) (s_aload_n hZ.1 dX12_make_20 rfl ?_)
  refine zg12_1 dX12_make_21 zw1604 ?_
  refine rx_by (e_stI _ _) (s_istore_n hZ.1 dX12_make_24 rfl (Nat.le_of_ble_eq_true rfl) ?_)
  refine rx_by (e_ldR _ _) (s_aload_n hZ.1 dX12_make_25 rfl ?_)
  refine s_iconst dX12_make_26 (by decide +kernel) ?_
  refine zp12_1 hZ.1 dX12_make_27 zw1604 ?_
  refine rx_by (e_ldR _ _) (s_aload_n hZ.1 dX12_make_30 rfl ?_)
  refine s_callV hZ.1 (met_X12_unused hZ) (by decide) zy_X12_unused zcl12 zw1685 zw6 (Or.inl zw1683) dX12_make_31 ?_
  refine rx_by (e_stR _ _) (s_astore_n hZ.1 dX12_make_34 rfl (Nat.le_of_ble_eq_true rfl) ?_)
  refine rx_by (e_ldR _ _) (s_aload_n hZ.1 dX12_make_35 rfl ?_)
  refine zg12_8 dX12_make_36 zw1611 ?_
  refine rx_by (e_ldR _ _) (s_aload_n hZ.1 dX12_make_39 rfl ?_)
  refine rx_by (e_ldR _ _) (s_aload_n hZ.1 dX12_make_40 rfl ?_)
  refine zg12_0 dX12_make_41 zw1603 ?_
  refine rx_by (e_ldI _ _) (s_iload_n hZ.1 dX12_make_44 rfl ?_)
  refine s_callV hZ.1 (met_X9_read hZ) (by decide) zy_X9_read zcl9 zw1717 zw1718 (Or.inl zw1716) dX12_make_45 ?_
  exact rx_by (e_eq1 _ _) (s_if_ne dX12_make_48 (by decide) (kX12_make_70 hZ j hj) (s_none (pc := 51)))
noncomputable def bX12_make_9 (j : Nat → rx_K) : rx_K := q_ld q_isR 0 (q_ld q_isI 1 (o_callV 1 12 fX12_isFull (q_eq1 (bX12_make_20 j) o_none)))
set_option maxRecDepth 20000 in
theorem kX12_make_9 (hZ : zO b e D A X) (j : Nat → rx_K) (hj : ∀ k pc, [88][k]? = some pc → rx_OK (zV b e D A X) mX12_make 3 pc (j k)) : rx_OK (zV b e D A X) mX12_make 3 9 (bX12_make_9 j) := by
  unfold bX12_make_9
  refine rx_by (e_ldR _ _) (s_aload_n hZ.1 dX12_make_9 rfl ?_)
  refine rx_by (e_ldI _ _) (s_iload_n hZ.1 dX12_make_10 rfl ?_)
  refine s_callV hZ.1 (met_X12_isFull hZ) (by decide) zy_X12_isFull zcl12 zw1714 zw7 (Or.inl zw1712) dX12_make_11 ?_
  exact rx_by (e_eq1 _ _) (s_if_eq dX12_make_14 (by decide) (kX12_make_20 hZ j hj) (s_none (pc := 17)))
noncomputable def bX12_make_7 (j : Nat → rx_K) : rx_K := o_const 34359738360 (o_ret1 rx_isI)
set_option maxRecDepth 20000 in
theorem kX12_make_7 (hZ : zO b e D A X) (j : Nat → rx_K) (hj : ∀ k pc, [88][k]? = some pc → rx_OK (zV b e D A X) mX12_make 3 pc (j k)) : rx_OK (zV b e D A X) mX12_make 3 7 (bX12_make_7 j) := by
  unfold bX12_make_7
  refine s_iconst dX12_make_7 (by decide +kernel) ?_
  exact s_iret hZ.1 rfl dX12_make_8
noncomputable def bX12_make_0 (j : Nat → rx_K) : rx_K := q_ld q_isI 1 (o_callS 1 fX12_isLibrary (q_eq1 (bX12_make_7 j) (bX12_make_9 j)))
set_option maxRecDepth 20000 in
theorem kX12_make_0 (hZ : zO b e D A X) (j : Nat → rx_K) (hj : ∀ k pc, [88][k]? = some pc → rx_OK (zV b e D A X) mX12_make 3 pc (j k)) : rx_OK (zV b e D A X) mX12_make 3 0 (bX12_make_0 j) := by
  unfold bX12_make_0
  refine rx_by (e_ldI _ _) (s_iload_n hZ.1 dX12_make_0 rfl ?_)
  refine s_callS hZ.1 (met_X12_isLibrary hZ) (by decide) zy_X12_isLibrary zw1710 (Or.inl zw1709) dX12_make_1 ?_
  exact rx_by (e_eq1 _ _) (s_if_ne dX12_make_4 (by decide) (kX12_make_9 hZ j hj) (kX12_make_7 hZ j hj))
noncomputable def hX12_make (j : Nat → rx_K) : List rx_K := [bX12_make_88 j]
theorem lX12_make (hZ : zO b e D A X) : ∀ n k pc, [88][k]? = some pc → rx_OK (zV b e D A X) mX12_make 3 pc (rx_J hX12_make n k) := rx_loop fun j hj k pc h => by
  match k, h with
  | 0, h =>
    have e9 := Option.some.inj (show some 88 = some pc from h)
    subst e9
    exact kX12_make_88 hZ j hj
  | _ + 1, h => exact absurd h (by simp)
noncomputable def fX12_make : List Nat → rx_H → Option (Nat × rx_H) := rx_ent 5 (bX12_make_0 (rx_J hX12_make 1000000))
theorem met_X12_make (hZ : zO b e D A X) : rx_Met (zV b e D A X) 3 yX12_make mX12_make fX12_make := rx_entry hZ.1 (kX12_make_0 hZ _ (lX12_make hZ 1000000)) (by decide +kernel) rfl (fun h => by cases h)
theorem zy_X12_make : rx_Y (zV b e D A X) yX12_make mX12_make 1 := ⟨zw1708, zw413, by decide, by decide +kernel, by decide +kernel, by decide +kernel⟩
abbrev mX13_tokenize : rx_M := (RX13, cX13_tokenize, 6, none, false)
noncomputable def bX13_tokenize_172 (j : Nat → rx_K) : rx_K := q_ld q_isR 0 (q_getf 13 16 (q_ld q_isR 0 (q_getf 13 19 (q_ld q_isI 2 (p_ast 0 (fun v => v) q_isI (o_ret0))))))
set_option maxRecDepth 20000 in
theorem kX13_tokenize_172 (hZ : zO b e D A X) (j : Nat → rx_K) (hj : ∀ k pc, [6][k]? = some pc → rx_OK (zV b e D A X) mX13_tokenize 0 pc (j k)) : rx_OK (zV b e D A X) mX13_tokenize 0 172 (bX13_tokenize_172 j) := by
  unfold bX13_tokenize_172
  refine rx_by (e_ldR _ _) (s_aload_n hZ.1 dX13_tokenize_172 rfl ?_)
  refine zg13_16 dX13_tokenize_173 zw4137 ?_
  refine rx_by (e_ldR _ _) (s_aload_n hZ.1 dX13_tokenize_176 rfl ?_)
  refine zg13_19 dX13_tokenize_177 zw4140 ?_
  refine rx_by (e_ldI _ _) (s_iload_n hZ.1 dX13_tokenize_180 rfl ?_)
  refine rx_by2 (l_astI _ _ _) (s_iast hZ.1 (tt := 0) rfl dX13_tokenize_181 ?_)
  exact s_vret rfl dX13_tokenize_182
noncomputable def bX13_tokenize_161 (j : Nat → rx_K) : rx_K := o_const 0 (q_st q_isI 3 (q_ld q_isI 5 (q_st q_isI 1 (q_inc 2 8 ((j 0))))))
set_option maxRecDepth 20000 in
theorem kX13_tokenize_161 (hZ : zO b e D A X) (j : Nat → rx_K) (hj : ∀ k pc, [6][k]? = some pc → rx_OK (zV b e D A X) mX13_tokenize 0 pc (j k)) : rx_OK (zV b e D A X) mX13_tokenize 0 161 (bX13_tokenize_161 j) := by
  unfold bX13_tokenize_161
  refine s_iconst dX13_tokenize_161 (by decide +kernel) ?_
  refine rx_by (e_stI _ _) (s_istore_n hZ.1 dX13_tokenize_162 rfl (Nat.le_of_ble_eq_true rfl) ?_)
  refine rx_by (e_ldI _ _) (s_iload hZ.1 dX13_tokenize_163 ?_)
  refine rx_by (e_stI _ _) (s_istore_n hZ.1 dX13_tokenize_165 rfl (Nat.le_of_ble_eq_true rfl) ?_)
  refine rx_by (e_inc (by decide +kernel) _) (s_iinc hZ.1 dX13_tokenize_166 (Nat.le_of_ble_eq_true rfl) ?_)
  exact s_goto dX13_tokenize_169 (by decide) (hj 0 6 rfl)
noncomputable def bX13_tokenize_116 (j : Nat → rx_K) : rx_K := q_ld q_isI 1 (q_st q_isI 5 (q_ld q_isR 0 (q_getf 13 13 (q_ld q_isI 4 (q_ld q_isI 5 (p_ast 0 (fun v => v) q_isI (q_ld q_isR 0 (q_getf 13 11 (q_ld q_isI 4 (q_ald 0 (q_eq1 (bX13_tokenize_161 j) o_none)))))))))))
set_option maxRecDepth 20000 in
theorem kX13_tokenize_116 (hZ : zO b e D A X) (j : Nat → rx_K) (hj : ∀ k pc, [6][k]? = some pc → rx_OK (zV b e D A X) mX13_tokenize 0 pc (j k)) : rx_OK (zV b e D A X) mX13_tokenize 0 116 (bX13_tokenize_116 j) := by
  unfold bX13_tokenize_116
  refine rx_by (e_ldI _ _) (s_iload_n hZ.1 dX13_tokenize_116 rfl ?_)
  refine rx_by (e_stI _ _) (s_istore hZ.1 dX13_tokenize_117 (Nat.le_of_ble_eq_true rfl) ?_)
  refine rx_by (e_ldR _ _) (s_aload_n hZ.1 dX13_tokenize_119 rfl ?_)
  refine zg13_13 dX13_tokenize_120 zw4134 ?_
  refine rx_by (e_ldI _ _) (s_iload hZ.1 dX13_tokenize_123 ?_)
  refine rx_by (e_ldI _ _) (s_iload hZ.1 dX13_tokenize_125 ?_)
  refine rx_by2 (l_astI _ _ _) (s_iast hZ.1 (tt := 0) rfl dX13_tokenize_127 ?_)
  refine rx_by (e_ldR _ _) (s_aload_n hZ.1 dX13_tokenize_128 rfl ?_)
  refine zg13_11 dX13_tokenize_129 zw4132 ?_
  refine rx_by (e_ldI _ _) (s_iload hZ.1 dX13_tokenize_132 ?_)
  refine rx_by (e_ald _ _) (s_iald (tt := 0) rfl dX13_tokenize_134 ?_)
  exact rx_by (e_eq1 _ _) (s_if_eq dX13_tokenize_135 (by decide) (kX13_tokenize_161 hZ j hj) (s_none (pc := 138)))
noncomputable def bX13_tokenize_89 (j : Nat → rx_K) : rx_K := q_ld q_isI 4 (o_const 0 (p_ast 0 (fun v => v) q_isI (q_ld q_isI 1 (q_ld q_isR 0 (q_getf 13 6 (q_ld q_isR 0 (q_getf 13 19 (q_ald 0 (q_lt2 o_none (bX13_tokenize_116 j))))))))))
set_option maxRecDepth 20000 in
theorem kX13_tokenize_89 (hZ : zO b e D A X) (j : Nat → rx_K) (hj : ∀ k pc, [6][k]? = some pc → rx_OK (zV b e D A X) mX13_tokenize 0 pc (j k)) : rx_OK (zV b e D A X) mX13_tokenize 0 89 (bX13_tokenize_89 j) := by
  unfold bX13_tokenize_89
  refine rx_by (e_ldI _ _) (s_iload hZ.1 dX13_tokenize_89 ?_)
  refine s_iconst dX13_tokenize_91 (by decide +kernel) ?_
  refine rx_by2 (l_astI _ _ _) (s_iast hZ.1 (tt := 0) rfl dX13_tokenize_92 ?_)
  refine rx_by (e_ldI _ _) (s_iload_n hZ.1 dX13_tokenize_93 rfl ?_)
  refine rx_by (e_ldR _ _) (s_aload_n hZ.1 dX13_tokenize_94 rfl ?_)
  refine zg13_6 dX13_tokenize_95 zw4127 ?_
  refine rx_by (e_ldR _ _) (s_aload_n hZ.1 dX13_tokenize_98 rfl ?_)
  refine zg13_19 dX13_tokenize_99 zw4140 ?_
  refine rx_by (e_ald _ _) (s_iald (tt := 0) rfl dX13_tokenize_102 ?_)
  exact rx_by (e_lt2 _ _) (s_icmp_ge dX13_tokenize_103 (by decide) (kX13_tokenize_116 hZ j hj) (s_none (pc := 106)))
noncomputable def bX13_tokenize_49 (j : Nat → rx_K) : rx_K := q_ld q_isR 0 (q_getf 13 19 (o_const 5616 (q_bi q_Fmul (q_ld q_isI 2 (q_bi q_Fadd (q_st q_isI 4 (q_ld q_isR 0 (q_getf 13 12 (q_ld q_isI 4 (q_ld q_isI 1 (p_ast 0 (fun v => v) q_isI (q_ld q_isR 0 (q_getf 13 14 (q_ld q_isI 4 (o_const 1 (p_ast 1 (fun v => v) q_isL (q_ld q_isR 0 (q_getf 13 15 (q_ld q_isI 4 (o_const 0 (p_ast 0 (fun v => v) q_isI (q_ld q_isR 0 (q_getf 13 11 ((bX13_tokenize_89 j)))))))))))))))))))))))))
set_option maxRecDepth 20000 in
theorem kX13_tokenize_49 (hZ : zO b e D A X) (j : Nat → rx_K) (hj : ∀ k pc, [6][k]? = some pc → rx_OK (zV b e D A X) mX13_tokenize 0 pc (j k)) : rx_OK (zV b e D A X) mX13_tokenize 0 49 (bX13_tokenize_49 j) := by
  unfold bX13_tokenize_49
  refine rx_by (e_ldR _ _) (s_aload_n hZ.1 dX13_tokenize_49 rfl ?_)
  refine zg13_19 dX13_tokenize_50 zw4140 ?_
  refine s_sipush dX13_tokenize_53 (by decide +kernel) ?_
  refine rx_by (e_mul _) (s_imul dX13_tokenize_56 ?_)
  refine rx_by (e_ldI _ _) (s_iload_n hZ.1 dX13_tokenize_57 rfl ?_)
  refine rx_by (e_add _) (s_iadd dX13_tokenize_58 ?_)
  refine rx_by (e_stI _ _) (s_istore hZ.1 dX13_tokenize_59 (Nat.le_of_ble_eq_true rfl) ?_)
  refine rx_by (e_ldR _ _) (s_aload_n hZ.1 dX13_tokenize_61 rfl ?_)
  refine zg13_12 dX13_tokenize_62 zw4133 ?_
  refine rx_by (e_ldI _ _) (s_iload hZ.1 dX13_tokenize_65 ?_)
  refine rx_by (e_ldI _ _) (s_iload_n hZ.1 dX13_tokenize_67 rfl ?_)
  refine rx_by2 (l_astI _ _ _) (s_iast hZ.1 (tt := 0) rfl dX13_tokenize_68 ?_)
  refine rx_by (e_ldR _ _) (s_aload_n hZ.1 dX13_tokenize_69 rfl ?_)
  refine zg13_14 dX13_tokenize_70 zw4135 ?_
  refine rx_by (e_ldI _ _) (s_iload hZ.1 dX13_tokenize_73 ?_)
  refine s_lconst dX13_tokenize_75 (by decide +kernel) ?_
  refine rx_by2 (l_ast _ _ _ _) (s_last (tt := 1) rfl dX13_tokenize_76 ?_)
  refine rx_by (e_ldR _ _) (s_aload_n hZ.1 dX13_tokenize_77 rfl ?_)
  refine zg13_15 dX13_tokenize_78 zw4136 ?_
  refine rx_by (e_ldI _ _) (s_iload hZ.1 dX13_tokenize_81 ?_)
  refine s_iconst dX13_tokenize_83 (by decide +kernel) ?_
  refine rx_by2 (l_astI _ _ _) (s_iast hZ.1 (tt := 0) rfl dX13_tokenize_84 ?_)
  refine rx_by (e_ldR _ _) (s_aload_n hZ.1 dX13_tokenize_85 rfl ?_)
  refine zg13_11 dX13_tokenize_86 zw4132 ?_
  exact (kX13_tokenize_89 hZ j hj)
noncomputable def bX13_tokenize_10 (j : Nat → rx_K) : rx_K := q_ld q_isI 1 (q_ld q_isR 0 (q_getf 13 6 (q_ld q_isR 0 (q_getf 13 19 (q_ald 0 (q_lt2 o_none (bX13_tokenize_49 j)))))))
set_option maxRecDepth 20000 in
theorem kX13_tokenize_10 (hZ : zO b e D A X) (j : Nat → rx_K) (hj : ∀ k pc, [6][k]? = some pc → rx_OK (zV b e D A X) mX13_tokenize 0 pc (j k)) : rx_OK (zV b e D A X) mX13_tokenize 0 10 (bX13_tokenize_10 j) := by
  unfold bX13_tokenize_10
  refine rx_by (e_ldI _ _) (s_iload_n hZ.1 dX13_tokenize_10 rfl ?_)
  refine rx_by (e_ldR _ _) (s_aload_n hZ.1 dX13_tokenize_11 rfl ?_)
  refine zg13_6 dX13_tokenize_12 zw4127 ?_
  refine rx_by (e_ldR _ _) (s_aload_n hZ.1 dX13_tokenize_15 rfl ?_)
  refine zg13_19 dX13_tokenize_16 zw4140 ?_
  refine rx_by (e_ald _ _) (s_iald (tt := 0) rfl dX13_tokenize_19 ?_)
  exact rx_by (e_lt2 _ _) (s_icmp_ge dX13_tokenize_20 (by decide) (kX13_tokenize_49 hZ j hj) (s_none (pc := 23)))
noncomputable def bX13_tokenize_6 (j : Nat → rx_K) : rx_K := q_ld q_isI 3 (q_eq1 (bX13_tokenize_172 j) (bX13_tokenize_10 j))
set_option maxRecDepth 20000 in
theorem kX13_tokenize_6 (hZ : zO b e D A X) (j : Nat → rx_K) (hj : ∀ k pc, [6][k]? = some pc → rx_OK (zV b e D A X) mX13_tokenize 0 pc (j k)) : rx_OK (zV b e D A X) mX13_tokenize 0 6 (bX13_tokenize_6 j) := by
  unfold bX13_tokenize_6
  refine rx_by (e_ldI _ _) (s_iload_n hZ.1 dX13_tokenize_6 rfl ?_)
  exact rx_by (e_eq1 _ _) (s_if_eq dX13_tokenize_7 (by decide) (kX13_tokenize_172 hZ j hj) (kX13_tokenize_10 hZ j hj))
noncomputable def bX13_tokenize_0 (j : Nat → rx_K) : rx_K := o_const 0 (q_st q_isI 1 (o_const 0 (q_st q_isI 2 (o_const 8 (q_st q_isI 3 ((bX13_tokenize_6 j)))))))
set_option maxRecDepth 20000 in
theorem kX13_tokenize_0 (hZ : zO b e D A X) (j : Nat → rx_K) (hj : ∀ k pc, [6][k]? = some pc → rx_OK (zV b e D A X) mX13_tokenize 0 pc (j k)) : rx_OK (zV b e D A X) mX13_tokenize 0 0 (bX13_tokenize_0 j) := by
  unfold bX13_tokenize_0
  refine s_iconst dX13_tokenize_0 (by decide +kernel) ?_
  refine rx_by (e_stI _ _) (s_istore_n hZ.1 dX13_tokenize_1 rfl (Nat.le_of_ble_eq_true rfl) ?_)
  refine s_iconst dX13_tokenize_2 (by decide +kernel) ?_
  refine rx_by (e_stI _ _) (s_istore_n hZ.1 dX13_tokenize_3 rfl (Nat.le_of_ble_eq_true rfl) ?_)
  refine s_iconst dX13_tokenize_4 (by decide +kernel) ?_
  refine rx_by (e_stI _ _) (s_istore_n hZ.1 dX13_tokenize_5 rfl (Nat.le_of_ble_eq_true rfl) ?_)
  exact (kX13_tokenize_6 hZ j hj)
noncomputable def hX13_tokenize (j : Nat → rx_K) : List rx_K := [bX13_tokenize_6 j]
theorem lX13_tokenize (hZ : zO b e D A X) : ∀ n k pc, [6][k]? = some pc → rx_OK (zV b e D A X) mX13_tokenize 0 pc (rx_J hX13_tokenize n k) := rx_loop fun j hj k pc h => by
  match k, h with
  | 0, h =>
    have e9 := Option.some.inj (show some 6 = some pc from h)
    subst e9
    exact kX13_tokenize_6 hZ j hj
  | _ + 1, h => exact absurd h (by simp)
noncomputable def fX13_tokenize : List Nat → rx_H → Option (Nat × rx_H) := rx_ent 6 (bX13_tokenize_0 (rx_J hX13_tokenize 1000000))
theorem met_X13_tokenize (hZ : zO b e D A X) : rx_Met (zV b e D A X) 0 yX13_tokenize mX13_tokenize fX13_tokenize := rx_entry hZ.1 (kX13_tokenize_0 hZ _ (lX13_tokenize hZ 1000000)) (by decide +kernel) rfl (fun h => by cases h)
theorem zy_X13_tokenize : rx_Y (zV b e D A X) yX13_tokenize mX13_tokenize 0 := ⟨zw2937, zw431, by decide, by decide +kernel, by decide +kernel, by decide +kernel⟩
abbrev mX13_kindAt : rx_M := (RX13, cX13_kindAt, 2, (some .int), false)
noncomputable def bX13_kindAt_0 : rx_K := q_ld q_isR 0 (q_getf 13 11 (q_ld q_isR 0 (q_getf 13 19 (o_const 5616 (q_bi q_Fmul (q_ld q_isI 1 (q_bi q_Fadd (q_ald 0 (o_ret1 rx_isI)))))))))
set_option maxRecDepth 20000 in
theorem kX13_kindAt_0 (hZ : zO b e D A X) : rx_OK (zV b e D A X) mX13_kindAt 0 0 bX13_kindAt_0 := by
  unfold bX13_kindAt_0
  refine rx_by (e_ldR _ _) (s_aload_n hZ.1 dX13_kindAt_0 rfl ?_)
  refine zg13_11 dX13_kindAt_1 zw4132 ?_
  refine rx_by (e_ldR _ _) (s_aload_n hZ.1 dX13_kindAt_4 rfl ?_)
  refine zg13_19 dX13_kindAt_5 zw4140 ?_
  refine s_sipush dX13_kindAt_8 (by decide +kernel) ?_
  refine rx_by (e_mul _) (s_imul dX13_kindAt_11 ?_)
  refine rx_by (e_ldI _ _) (s_iload_n hZ.1 dX13_kindAt_12 rfl ?_)
  refine rx_by (e_add _) (s_iadd dX13_kindAt_13 ?_)
  refine rx_by (e_ald _ _) (s_iald (tt := 0) rfl dX13_kindAt_14 ?_)
  exact s_iret hZ.1 rfl dX13_kindAt_15
noncomputable def fX13_kindAt : List Nat → rx_H → Option (Nat × rx_H) := rx_ent 2 bX13_kindAt_0
theorem met_X13_kindAt (hZ : zO b e D A X) : rx_Met (zV b e D A X) 0 yX13_kindAt mX13_kindAt fX13_kindAt := rx_entry hZ.1 (kX13_kindAt_0 hZ) (by decide +kernel) rfl (fun h => by cases h)
theorem zy_X13_kindAt : rx_Y (zV b e D A X) yX13_kindAt mX13_kindAt 1 := ⟨zw2971, zw431, by decide, by decide +kernel, by decide +kernel, by decide +kernel⟩
end ZM7

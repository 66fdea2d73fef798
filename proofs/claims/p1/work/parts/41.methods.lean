section ZM1
variable {b : Nat} {e : Nat → Value} {D : va_G} {A : Nat → ClassId} {X : State → Prop}
abbrev mX10_clear : rx_M := (RX10, cX10_clear, 2, none, false)
noncomputable def bX10_clear_86 : rx_K := p_putf q_isR 10 18 (q_ld q_isR 0 (o_const 0 (p_putf q_isI 10 19 (q_ld q_isR 0 (o_const 0 (p_putf q_isI 10 20 (o_ret0)))))))
set_option maxRecDepth 20000 in
theorem kX10_clear_86 (hZ : zO b e D A X) : rx_OK (zV b e D A X) mX10_clear 1 86 bX10_clear_86 := by
  unfold bX10_clear_86
  refine zp10_18 hZ.1 dX10_clear_86 zw883 ?_
  refine rx_by (e_ldR _ _) (s_aload_n hZ.1 dX10_clear_89 rfl ?_)
  refine s_iconst dX10_clear_90 (by decide +kernel) ?_
  refine zp10_19 hZ.1 dX10_clear_91 zw886 ?_
  refine rx_by (e_ldR _ _) (s_aload_n hZ.1 dX10_clear_94 rfl ?_)
  refine s_iconst dX10_clear_95 (by decide +kernel) ?_
  refine zp10_20 hZ.1 dX10_clear_96 zw890 ?_
  exact s_vret rfl dX10_clear_99
noncomputable def bX10_clear_42 : rx_K := q_ld q_isR 0 (o_const 115324555267378511873 (p_putf q_isL 10 8 (q_ld q_isR 0 (o_const 147573952589676412897 (p_putf q_isL 10 9 (q_ld q_isR 0 (q_getf 10 11 (o_const 0 (o_callS 2 fJ7_fill_53178 (q_ld q_isR 0 (o_const 0 (p_putf q_isI 10 13 (q_ld q_isR 0 (o_const 0 (p_putf q_isI 10 15 (q_ld q_isR 0 (o_const 0 (p_putf q_isI 10 16 (q_ld q_isR 0 (o_const 0 (p_putf q_isI 10 17 (q_ld q_isR 0 (o_const 3 (bX10_clear_86))))))))))))))))))))))))
set_option maxRecDepth 20000 in
theorem kX10_clear_42 (hZ : zO b e D A X) : rx_OK (zV b e D A X) mX10_clear 1 42 bX10_clear_42 := by
  unfold bX10_clear_42
  refine rx_by (e_ldR _ _) (s_aload_n hZ.1 dX10_clear_42 rfl ?_)
  refine s_ldc2 dX10_clear_43 zw1221 (by decide +kernel) ?_
  refine zp10_8 hZ.1 dX10_clear_46 zw822 ?_
  refine rx_by (e_ldR _ _) (s_aload_n hZ.1 dX10_clear_49 rfl ?_)
  refine s_ldc2 dX10_clear_50 zw1220 (by decide +kernel) ?_
  refine zp10_9 hZ.1 dX10_clear_53 zw829 ?_
  refine rx_by (e_ldR _ _) (s_aload_n hZ.1 dX10_clear_56 rfl ?_)
  refine zg10_11 dX10_clear_57 zw838 ?_
  refine s_iconst dX10_clear_60 (by decide +kernel) ?_
  refine s_callS hZ.1 (met_J7_fill_53178 hZ) (by decide) zy_J7_fill_53178 zw1223 (Or.inl zw1222) dX10_clear_61 ?_
  refine rx_by (e_ldR _ _) (s_aload_n hZ.1 dX10_clear_64 rfl ?_)
  refine s_iconst dX10_clear_65 (by decide +kernel) ?_
  refine zp10_13 hZ.1 dX10_clear_66 zw853 ?_
  refine rx_by (e_ldR _ _) (s_aload_n hZ.1 dX10_clear_69 rfl ?_)
  refine s_iconst dX10_clear_70 (by decide +kernel) ?_
  refine zp10_15 hZ.1 dX10_clear_71 zw866 ?_
  refine rx_by (e_ldR _ _) (s_aload_n hZ.1 dX10_clear_74 rfl ?_)
  refine s_iconst dX10_clear_75 (by decide +kernel) ?_
  refine zp10_16 hZ.1 dX10_clear_76 zw874 ?_
  refine rx_by (e_ldR _ _) (s_aload_n hZ.1 dX10_clear_79 rfl ?_)
  refine s_iconst dX10_clear_80 (by decide +kernel) ?_
  refine zp10_17 hZ.1 dX10_clear_81 zw880 ?_
  refine rx_by (e_ldR _ _) (s_aload_n hZ.1 dX10_clear_84 rfl ?_)
  refine s_null dX10_clear_85 ?_
  exact (kX10_clear_86 hZ)
noncomputable def bX10_clear_0 : rx_K := q_ld q_isR 0 (q_ld q_isR 1 (p_putf q_isR 10 0 (q_ld q_isR 0 (o_const 147573952589676412897 (p_putf q_isL 10 1 (q_ld q_isR 0 (o_const 0 (p_putf q_isI 10 2 (q_ld q_isR 0 (o_const 0 (p_putf rx_isZ 10 3 (q_ld q_isR 0 (o_const 0 (p_putf rx_isZ 10 4 (q_ld q_isR 0 (o_const 0 (p_putf rx_isZ 10 5 (q_ld q_isR 0 (o_const 0 (p_putf rx_isZ 10 6 (q_ld q_isR 0 (o_const 0 (p_putf rx_isZ 10 7 (bX10_clear_42))))))))))))))))))))))))
set_option maxRecDepth 20000 in
theorem kX10_clear_0 (hZ : zO b e D A X) : rx_OK (zV b e D A X) mX10_clear 1 0 bX10_clear_0 := by
  unfold bX10_clear_0
  refine rx_by (e_ldR _ _) (s_aload_n hZ.1 dX10_clear_0 rfl ?_)
  refine rx_by (e_ldR _ _) (s_aload_n hZ.1 dX10_clear_1 rfl ?_)
  refine zp10_0 hZ.1 dX10_clear_2 zw765 ?_
  refine rx_by (e_ldR _ _) (s_aload_n hZ.1 dX10_clear_5 rfl ?_)
  refine s_ldc2 dX10_clear_6 zw1220 (by decide +kernel) ?_
  refine zp10_1 hZ.1 dX10_clear_9 zw769 ?_
  refine rx_by (e_ldR _ _) (s_aload_n hZ.1 dX10_clear_12 rfl ?_)
  refine s_iconst dX10_clear_13 (by decide +kernel) ?_
  refine zp10_2 hZ.1 dX10_clear_14 zw778 ?_
  refine rx_by (e_ldR _ _) (s_aload_n hZ.1 dX10_clear_17 rfl ?_)
  refine s_iconst dX10_clear_18 (by decide +kernel) ?_
  refine zp10_3 hZ.1 dX10_clear_19 zw784 ?_
  refine rx_by (e_ldR _ _) (s_aload_n hZ.1 dX10_clear_22 rfl ?_)
  refine s_iconst dX10_clear_23 (by decide +kernel) ?_
  refine zp10_4 hZ.1 dX10_clear_24 zw790 ?_
  refine rx_by (e_ldR _ _) (s_aload_n hZ.1 dX10_clear_27 rfl ?_)
  refine s_iconst dX10_clear_28 (by decide +kernel) ?_
  refine zp10_5 hZ.1 dX10_clear_29 zw800 ?_
  refine rx_by (e_ldR _ _) (s_aload_n hZ.1 dX10_clear_32 rfl ?_)
  refine s_iconst dX10_clear_33 (by decide +kernel) ?_
  refine zp10_6 hZ.1 dX10_clear_34 zw807 ?_
  refine rx_by (e_ldR _ _) (s_aload_n hZ.1 dX10_clear_37 rfl ?_)
  refine s_iconst dX10_clear_38 (by decide +kernel) ?_
  refine zp10_7 hZ.1 dX10_clear_39 zw816 ?_
  exact (kX10_clear_42 hZ)
noncomputable def fX10_clear : List Nat → rx_H → Option (Nat × rx_H) := rx_ent 2 bX10_clear_0
theorem met_X10_clear (hZ : zO b e D A X) : rx_Met (zV b e D A X) 1 yX10_clear mX10_clear fX10_clear := rx_entry hZ.1 (kX10_clear_0 hZ) (by decide +kernel) rfl (fun h => by cases h)
theorem zy_X10_clear : rx_Y (zV b e D A X) yX10_clear mX10_clear 1 := ⟨zw1219, zw425, by decide, by decide +kernel, by decide +kernel, by decide +kernel⟩
abbrev mX1_newRow : rx_M := (RX1, cX1_newRow, 2, (some (.object "LinkHouse$Row")), false)
noncomputable def bX1_newRow_14 : rx_K := q_ld q_isR 0 (q_getf 1 2 (q_ld q_isR 0 (q_getf 1 3 (q_ald 4 (q_st q_isR 1 (q_ld q_isR 0 (q_dup (q_getf 1 3 (o_const 8 (q_bi q_Fadd (p_putf q_isI 1 3 (q_ld q_isR 1 (q_ld q_isR 0 (o_callV 1 10 fX10_clear (q_ld q_isR 1 (o_ret1 rx_isR))))))))))))))))
set_option maxRecDepth 20000 in
theorem kX1_newRow_14 (hZ : zO b e D A X) : rx_OK (zV b e D A X) mX1_newRow 2 14 bX1_newRow_14 := by
  unfold bX1_newRow_14
  refine rx_by (e_ldR _ _) (s_aload_n hZ.1 dX1_newRow_14 rfl ?_)
  refine zg1_2 dX1_newRow_15 zw1113 ?_
  refine rx_by (e_ldR _ _) (s_aload_n hZ.1 dX1_newRow_18 rfl ?_)
  refine zg1_3 dX1_newRow_19 zw1120 ?_
  refine rx_by (e_ald _ _) (s_aald (tt := 4) rfl rfl dX1_newRow_22 ?_)
  refine rx_by (e_stR _ _) (s_astore_n hZ.1 dX1_newRow_23 rfl (Nat.le_of_ble_eq_true rfl) ?_)
  refine rx_by (e_ldR _ _) (s_aload_n hZ.1 dX1_newRow_24 rfl ?_)
  refine rx_by (e_dup _) (s_dup hZ.1 dX1_newRow_25 ?_)
  refine zg1_3 dX1_newRow_26 zw1120 ?_
  refine s_iconst dX1_newRow_29 (by decide +kernel) ?_
  refine rx_by (e_add _) (s_iadd dX1_newRow_30 ?_)
  refine zp1_3 hZ.1 dX1_newRow_31 zw1120 ?_
  refine rx_by (e_ldR _ _) (s_aload_n hZ.1 dX1_newRow_34 rfl ?_)
  refine rx_by (e_ldR _ _) (s_aload_n hZ.1 dX1_newRow_35 rfl ?_)
  refine s_callV hZ.1 (met_X10_clear hZ) (by decide) zy_X10_clear zcl10 zw1217 zw1218 (Or.inl zw1216) dX1_newRow_36 ?_
  refine rx_by (e_ldR _ _) (s_aload_n hZ.1 dX1_newRow_39 rfl ?_)
  exact s_aret hZ.1 rfl (Or.inl ⟨_, rfl⟩) dX1_newRow_40
noncomputable def bX1_newRow_0 : rx_K := q_ld q_isR 0 (q_getf 1 3 (q_ld q_isR 0 (q_getf 1 2 (o_alen 4 (q_lt2 bX1_newRow_14 o_none)))))
set_option maxRecDepth 20000 in
theorem kX1_newRow_0 (hZ : zO b e D A X) : rx_OK (zV b e D A X) mX1_newRow 2 0 bX1_newRow_0 := by
  unfold bX1_newRow_0
  refine rx_by (e_ldR _ _) (s_aload_n hZ.1 dX1_newRow_0 rfl ?_)
  refine zg1_3 dX1_newRow_1 zw1120 ?_
  refine rx_by (e_ldR _ _) (s_aload_n hZ.1 dX1_newRow_4 rfl ?_)
  refine zg1_2 dX1_newRow_5 zw1113 ?_
  refine s_alen (tt := 4) rfl dX1_newRow_8 ?_
  exact rx_by (e_lt2 _ _) (s_icmp_lt dX1_newRow_9 (by decide) (kX1_newRow_14 hZ) (s_none (pc := 12)))
noncomputable def fX1_newRow : List Nat → rx_H → Option (Nat × rx_H) := rx_ent 2 bX1_newRow_0
theorem met_X1_newRow (hZ : zO b e D A X) : rx_Met (zV b e D A X) 2 yX1_newRow mX1_newRow fX1_newRow := rx_entry hZ.1 (kX1_newRow_0 hZ) (by decide +kernel) rfl (fun h => by cases h)
theorem zy_X1_newRow : rx_Y (zV b e D A X) yX1_newRow mX1_newRow 0 := ⟨zw1215, zw424, by decide, by decide +kernel, by decide +kernel, by decide +kernel⟩
abbrev mJ7_fill_d0a16 : rx_M := (RJ7, cJ7_fill_d0a16, 5, none, false)
noncomputable def bJ7_fill_d0a16_22 (j : Nat → rx_K) : rx_K := o_ret0
set_option maxRecDepth 20000 in
theorem kJ7_fill_d0a16_22 (hZ : zO b e D A X) (j : Nat → rx_K) (hj : ∀ k pc, [6][k]? = some pc → rx_OK (zV b e D A X) mJ7_fill_d0a16 0 pc (j k)) : rx_OK (zV b e D A X) mJ7_fill_d0a16 0 22 (bJ7_fill_d0a16_22 j) := by
  unfold bJ7_fill_d0a16_22
  exact s_vret rfl dJ7_fill_d0a16_22
noncomputable def bJ7_fill_d0a16_12 (j : Nat → rx_K) : rx_K := q_ld q_isR 0 (q_ld q_isI 3 (q_ld q_isL 1 (p_ast 1 (fun v => v) q_isL (q_inc 3 8 ((j 0))))))
set_option maxRecDepth 20000 in
theorem kJ7_fill_d0a16_12 (hZ : zO b e D A X) (j : Nat → rx_K) (hj : ∀ k pc, [6][k]? = some pc → rx_OK (zV b e D A X) mJ7_fill_d0a16 0 pc (j k)) : rx_OK (zV b e D A X) mJ7_fill_d0a16 0 12 (bJ7_fill_d0a16_12 j) := by
  unfold bJ7_fill_d0a16_12
  refine rx_by (e_ldR _ _) (s_aload_n hZ.1 dJ7_fill_d0a16_12 rfl ?_)
  refine rx_by (e_ldI _ _) (s_iload_n hZ.1 dJ7_fill_d0a16_13 rfl ?_)
  refine rx_by (e_ld _ _ _) (s_lload_n hZ.1 dJ7_fill_d0a16_14 rfl ?_)
  refine rx_by2 (l_ast _ _ _ _) (s_last (tt := 1) rfl dJ7_fill_d0a16_15 ?_)
  refine rx_by (e_inc (by decide +kernel) _) (s_iinc hZ.1 dJ7_fill_d0a16_16 (Nat.le_of_ble_eq_true rfl) ?_)
  exact s_goto dJ7_fill_d0a16_19 (by decide) (hj 0 6 rfl)
noncomputable def bJ7_fill_d0a16_6 (j : Nat → rx_K) : rx_K := q_ld q_isI 3 (q_ld q_isI 4 (q_lt2 (bJ7_fill_d0a16_12 j) (bJ7_fill_d0a16_22 j)))
set_option maxRecDepth 20000 in
theorem kJ7_fill_d0a16_6 (hZ : zO b e D A X) (j : Nat → rx_K) (hj : ∀ k pc, [6][k]? = some pc → rx_OK (zV b e D A X) mJ7_fill_d0a16 0 pc (j k)) : rx_OK (zV b e D A X) mJ7_fill_d0a16 0 6 (bJ7_fill_d0a16_6 j) := by
  unfold bJ7_fill_d0a16_6
  refine rx_by (e_ldI _ _) (s_iload_n hZ.1 dJ7_fill_d0a16_6 rfl ?_)
  refine rx_by (e_ldI _ _) (s_iload hZ.1 dJ7_fill_d0a16_7 ?_)
  exact rx_by (e_lt2 _ _) (s_icmp_ge dJ7_fill_d0a16_9 (by decide) (kJ7_fill_d0a16_22 hZ j hj) (kJ7_fill_d0a16_12 hZ j hj))
noncomputable def bJ7_fill_d0a16_0 (j : Nat → rx_K) : rx_K := o_const 0 (q_st q_isI 3 (q_ld q_isR 0 (o_alen 1 (q_st q_isI 4 ((bJ7_fill_d0a16_6 j))))))
set_option maxRecDepth 20000 in
theorem kJ7_fill_d0a16_0 (hZ : zO b e D A X) (j : Nat → rx_K) (hj : ∀ k pc, [6][k]? = some pc → rx_OK (zV b e D A X) mJ7_fill_d0a16 0 pc (j k)) : rx_OK (zV b e D A X) mJ7_fill_d0a16 0 0 (bJ7_fill_d0a16_0 j) := by
  unfold bJ7_fill_d0a16_0
  refine s_iconst dJ7_fill_d0a16_0 (by decide +kernel) ?_
  refine rx_by (e_stI _ _) (s_istore_n hZ.1 dJ7_fill_d0a16_1 rfl (Nat.le_of_ble_eq_true rfl) ?_)
  refine rx_by (e_ldR _ _) (s_aload_n hZ.1 dJ7_fill_d0a16_2 rfl ?_)
  refine s_alen (tt := 1) rfl dJ7_fill_d0a16_3 ?_
  refine rx_by (e_stI _ _) (s_istore hZ.1 dJ7_fill_d0a16_4 (Nat.le_of_ble_eq_true rfl) ?_)
  exact (kJ7_fill_d0a16_6 hZ j hj)
noncomputable def hJ7_fill_d0a16 (j : Nat → rx_K) : List rx_K := [bJ7_fill_d0a16_6 j]
theorem lJ7_fill_d0a16 (hZ : zO b e D A X) : ∀ n k pc, [6][k]? = some pc → rx_OK (zV b e D A X) mJ7_fill_d0a16 0 pc (rx_J hJ7_fill_d0a16 n k) := rx_loop fun j hj k pc h => by
  match k, h with
  | 0, h =>
    have e9 := Option.some.inj (show some 6 = some pc from h)
    subst e9
    exact kJ7_fill_d0a16_6 hZ j hj
  | _ + 1, h => exact absurd h (by simp)
noncomputable def fJ7_fill_d0a16 : List Nat → rx_H → Option (Nat × rx_H) := rx_ent 5 (bJ7_fill_d0a16_0 (rx_J hJ7_fill_d0a16 1000000))
theorem met_J7_fill_d0a16 (hZ : zO b e D A X) : rx_Met (zV b e D A X) 0 yJ7_fill_d0a16 mJ7_fill_d0a16 fJ7_fill_d0a16 := rx_entry hZ.1 (kJ7_fill_d0a16_0 hZ _ (lJ7_fill_d0a16 hZ 1000000)) (by decide +kernel) rfl (fun h => by cases h)
theorem zy_J7_fill_d0a16 : rx_Y (zV b e D A X) yJ7_fill_d0a16 mJ7_fill_d0a16 2 := ⟨zw1239, zw427, by decide, by decide +kernel, by decide +kernel, by decide +kernel⟩
abbrev mX7_clear : rx_M := (RX7, cX7_clear, 1, none, false)
noncomputable def bX7_clear_86 : rx_K := p_putf rx_isZ 7 15 (q_ld q_isR 0 (o_const 0 (p_putf q_isI 7 16 (q_ld q_isR 0 (o_const 0 (p_putf q_isI 7 17 (q_ld q_isR 0 (o_const 0 (p_putf q_isI 7 18 (o_ret0))))))))))
set_option maxRecDepth 20000 in
theorem kX7_clear_86 (hZ : zO b e D A X) : rx_OK (zV b e D A X) mX7_clear 1 86 bX7_clear_86 := by
  unfold bX7_clear_86
  refine zp7_15 hZ.1 dX7_clear_86 zw1051 ?_
  refine rx_by (e_ldR _ _) (s_aload_n hZ.1 dX7_clear_89 rfl ?_)
  refine s_iconst dX7_clear_90 (by decide +kernel) ?_
  refine zp7_16 hZ.1 dX7_clear_91 zw1058 ?_
  refine rx_by (e_ldR _ _) (s_aload_n hZ.1 dX7_clear_94 rfl ?_)
  refine s_iconst dX7_clear_95 (by decide +kernel) ?_
  refine zp7_17 hZ.1 dX7_clear_96 zw1065 ?_
  refine rx_by (e_ldR _ _) (s_aload_n hZ.1 dX7_clear_99 rfl ?_)
  refine s_iconst dX7_clear_100 (by decide +kernel) ?_
  refine zp7_18 hZ.1 dX7_clear_101 zw1068 ?_
  exact s_vret rfl dX7_clear_104
noncomputable def bX7_clear_42 : rx_K := q_ld q_isR 0 (o_const 147573952589676412905 (p_putf q_isL 7 8 (q_ld q_isR 0 (o_const 0 (p_putf q_isI 7 9 (q_ld q_isR 0 (q_getf 7 10 (o_const 147573952589676412897 (o_callS 2 fJ7_fill_d0a16 (q_ld q_isR 0 (o_const 0 (p_putf q_isI 7 11 (q_ld q_isR 0 (o_const 0 (p_putf q_isI 7 12 (q_ld q_isR 0 (o_const 0 (p_putf q_isI 7 13 (q_ld q_isR 0 (o_const 3 (p_putf q_isR 7 14 (q_ld q_isR 0 (o_const 0 (bX7_clear_86))))))))))))))))))))))))
set_option maxRecDepth 20000 in
theorem kX7_clear_42 (hZ : zO b e D A X) : rx_OK (zV b e D A X) mX7_clear 1 42 bX7_clear_42 := by
  unfold bX7_clear_42
  refine rx_by (e_ldR _ _) (s_aload_n hZ.1 dX7_clear_42 rfl ?_)
  refine s_ldc2 dX7_clear_43 zw1236 (by decide +kernel) ?_
  refine zp7_8 hZ.1 dX7_clear_46 zw1012 ?_
  refine rx_by (e_ldR _ _) (s_aload_n hZ.1 dX7_clear_49 rfl ?_)
  refine s_iconst dX7_clear_50 (by decide +kernel) ?_
  refine zp7_9 hZ.1 dX7_clear_51 zw1021 ?_
  refine rx_by (e_ldR _ _) (s_aload_n hZ.1 dX7_clear_54 rfl ?_)
  refine zg7_10 dX7_clear_55 zw1029 ?_
  refine s_ldc2 dX7_clear_58 zw1235 (by decide +kernel) ?_
  refine s_callS hZ.1 (met_J7_fill_d0a16 hZ) (by decide) zy_J7_fill_d0a16 zw1238 (Or.inl zw1237) dX7_clear_61 ?_
  refine rx_by (e_ldR _ _) (s_aload_n hZ.1 dX7_clear_64 rfl ?_)
  refine s_iconst dX7_clear_65 (by decide +kernel) ?_
  refine zp7_11 hZ.1 dX7_clear_66 zw1036 ?_
  refine rx_by (e_ldR _ _) (s_aload_n hZ.1 dX7_clear_69 rfl ?_)
  refine s_iconst dX7_clear_70 (by decide +kernel) ?_
  refine zp7_12 hZ.1 dX7_clear_71 zw1040 ?_
  refine rx_by (e_ldR _ _) (s_aload_n hZ.1 dX7_clear_74 rfl ?_)
  refine s_iconst dX7_clear_75 (by decide +kernel) ?_
  refine zp7_13 hZ.1 dX7_clear_76 zw1043 ?_
  refine rx_by (e_ldR _ _) (s_aload_n hZ.1 dX7_clear_79 rfl ?_)
  refine s_null dX7_clear_80 ?_
  refine zp7_14 hZ.1 dX7_clear_81 zw1046 ?_
  refine rx_by (e_ldR _ _) (s_aload_n hZ.1 dX7_clear_84 rfl ?_)
  refine s_iconst dX7_clear_85 (by decide +kernel) ?_
  exact (kX7_clear_86 hZ)
noncomputable def bX7_clear_0 : rx_K := q_ld q_isR 0 (o_const 0 (p_putf q_isI 7 0 (q_ld q_isR 0 (o_const 8 (p_putf q_isI 7 1 (q_ld q_isR 0 (o_const 0 (p_putf rx_isZ 7 2 (q_ld q_isR 0 (o_const 0 (p_putf rx_isZ 7 3 (q_ld q_isR 0 (o_const 0 (p_putf rx_isZ 7 4 (q_ld q_isR 0 (o_const 0 (p_putf rx_isZ 7 5 (q_ld q_isR 0 (o_const 0 (p_putf rx_isZ 7 6 (q_ld q_isR 0 (o_const 147573952589676412897 (p_putf q_isL 7 7 (bX7_clear_42))))))))))))))))))))))))
set_option maxRecDepth 20000 in
theorem kX7_clear_0 (hZ : zO b e D A X) : rx_OK (zV b e D A X) mX7_clear 1 0 bX7_clear_0 := by
  unfold bX7_clear_0
  refine rx_by (e_ldR _ _) (s_aload_n hZ.1 dX7_clear_0 rfl ?_)
  refine s_iconst dX7_clear_1 (by decide +kernel) ?_
  refine zp7_0 hZ.1 dX7_clear_2 zw942 ?_
  refine rx_by (e_ldR _ _) (s_aload_n hZ.1 dX7_clear_5 rfl ?_)
  refine s_iconst dX7_clear_6 (by decide +kernel) ?_
  refine zp7_1 hZ.1 dX7_clear_7 zw954 ?_
  refine rx_by (e_ldR _ _) (s_aload_n hZ.1 dX7_clear_10 rfl ?_)
  refine s_iconst dX7_clear_11 (by decide +kernel) ?_
  refine zp7_2 hZ.1 dX7_clear_12 zw961 ?_
  refine rx_by (e_ldR _ _) (s_aload_n hZ.1 dX7_clear_15 rfl ?_)
  refine s_iconst dX7_clear_16 (by decide +kernel) ?_
  refine zp7_3 hZ.1 dX7_clear_17 zw972 ?_
  refine rx_by (e_ldR _ _) (s_aload_n hZ.1 dX7_clear_20 rfl ?_)
  refine s_iconst dX7_clear_21 (by decide +kernel) ?_
  refine zp7_4 hZ.1 dX7_clear_22 zw979 ?_
  refine rx_by (e_ldR _ _) (s_aload_n hZ.1 dX7_clear_25 rfl ?_)
  refine s_iconst dX7_clear_26 (by decide +kernel) ?_
  refine zp7_5 hZ.1 dX7_clear_27 zw988 ?_
  refine rx_by (e_ldR _ _) (s_aload_n hZ.1 dX7_clear_30 rfl ?_)
  refine s_iconst dX7_clear_31 (by decide +kernel) ?_
  refine zp7_6 hZ.1 dX7_clear_32 zw995 ?_
  refine rx_by (e_ldR _ _) (s_aload_n hZ.1 dX7_clear_35 rfl ?_)
  refine s_ldc2 dX7_clear_36 zw1235 (by decide +kernel) ?_
  refine zp7_7 hZ.1 dX7_clear_39 zw1003 ?_
  exact (kX7_clear_42 hZ)
noncomputable def fX7_clear : List Nat → rx_H → Option (Nat × rx_H) := rx_ent 1 bX7_clear_0
theorem met_X7_clear (hZ : zO b e D A X) : rx_Met (zV b e D A X) 1 yX7_clear mX7_clear fX7_clear := rx_entry hZ.1 (kX7_clear_0 hZ) (by decide +kernel) rfl (fun h => by cases h)
theorem zy_X7_clear : rx_Y (zV b e D A X) yX7_clear mX7_clear 0 := ⟨zw1234, zw426, by decide, by decide +kernel, by decide +kernel, by decide +kernel⟩
abbrev mX1_newMember : rx_M := (RX1, cX1_newMember, 2, (some (.object "LinkHouse$Member")), false)
noncomputable def bX1_newMember_23 : rx_K := q_ld q_isR 0 (q_getf 1 4 (q_ld q_isR 0 (q_getf 1 5 (q_ald 5 (q_st q_isR 1 (q_ld q_isR 0 (q_dup (q_getf 1 5 (o_const 8 (q_bi q_Fadd (p_putf q_isI 1 5 (q_ld q_isR 1 (o_callV 0 7 fX7_clear (q_ld q_isR 1 (o_ret1 rx_isR)))))))))))))))
set_option maxRecDepth 20000 in
theorem kX1_newMember_23 (hZ : zO b e D A X) : rx_OK (zV b e D A X) mX1_newMember 2 23 bX1_newMember_23 := by
  unfold bX1_newMember_23
  refine rx_by (e_ldR _ _) (s_aload_n hZ.1 dX1_newMember_23 rfl ?_)
  refine zg1_4 dX1_newMember_24 zw1127 ?_
  refine rx_by (e_ldR _ _) (s_aload_n hZ.1 dX1_newMember_27 rfl ?_)
  refine zg1_5 dX1_newMember_28 zw1128 ?_
  refine rx_by (e_ald _ _) (s_aald (tt := 5) rfl rfl dX1_newMember_31 ?_)
  refine rx_by (e_stR _ _) (s_astore_n hZ.1 dX1_newMember_32 rfl (Nat.le_of_ble_eq_true rfl) ?_)
  refine rx_by (e_ldR _ _) (s_aload_n hZ.1 dX1_newMember_33 rfl ?_)
  refine rx_by (e_dup _) (s_dup hZ.1 dX1_newMember_34 ?_)
  refine zg1_5 dX1_newMember_35 zw1128 ?_
  refine s_iconst dX1_newMember_38 (by decide +kernel) ?_
  refine rx_by (e_add _) (s_iadd dX1_newMember_39 ?_)
  refine zp1_5 hZ.1 dX1_newMember_40 zw1128 ?_
  refine rx_by (e_ldR _ _) (s_aload_n hZ.1 dX1_newMember_43 rfl ?_)
  refine s_callV hZ.1 (met_X7_clear hZ) (by decide) zy_X7_clear zcl7 zw1232 zw1233 (Or.inl zw1231) dX1_newMember_44 ?_
  refine rx_by (e_ldR _ _) (s_aload_n hZ.1 dX1_newMember_47 rfl ?_)
  exact s_aret hZ.1 rfl (Or.inl ⟨_, rfl⟩) dX1_newMember_48
noncomputable def bX1_newMember_0 : rx_K := q_ld q_isR 0 (q_getf 1 5 (q_ld q_isR 0 (q_getf 1 4 (o_alen 5 (q_lt2 bX1_newMember_23 o_none)))))
set_option maxRecDepth 20000 in
theorem kX1_newMember_0 (hZ : zO b e D A X) : rx_OK (zV b e D A X) mX1_newMember 2 0 bX1_newMember_0 := by
  unfold bX1_newMember_0
  refine rx_by (e_ldR _ _) (s_aload_n hZ.1 dX1_newMember_0 rfl ?_)
  refine zg1_5 dX1_newMember_1 zw1128 ?_
  refine rx_by (e_ldR _ _) (s_aload_n hZ.1 dX1_newMember_4 rfl ?_)
  refine zg1_4 dX1_newMember_5 zw1127 ?_
  refine s_alen (tt := 5) rfl dX1_newMember_8 ?_
  exact rx_by (e_lt2 _ _) (s_icmp_lt dX1_newMember_9 (by decide) (kX1_newMember_23 hZ) (s_none (pc := 12)))
noncomputable def fX1_newMember : List Nat → rx_H → Option (Nat × rx_H) := rx_ent 2 bX1_newMember_0
theorem met_X1_newMember (hZ : zO b e D A X) : rx_Met (zV b e D A X) 2 yX1_newMember mX1_newMember fX1_newMember := rx_entry hZ.1 (kX1_newMember_0 hZ) (by decide +kernel) rfl (fun h => by cases h)
theorem zy_X1_newMember : rx_Y (zV b e D A X) yX1_newMember mX1_newMember 0 := ⟨zw1230, zw424, by decide, by decide +kernel, by decide +kernel, by decide +kernel⟩
abbrev mX11_openMaker : rx_M := (RX11, cX11_openMaker, 1, (some (.object "LinkHouse$Member")), false)
noncomputable def bX11_openMaker_0 : rx_K := q_ld q_isR 0 (o_const 16 (p_putf q_isI 7 0 (q_ld q_isR 0 (o_const 24 (p_putf q_isI 7 1 (q_ld q_isR 0 (o_ret1 rx_isR)))))))
set_option maxRecDepth 20000 in
theorem kX11_openMaker_0 (hZ : zO b e D A X) : rx_OK (zV b e D A X) mX11_openMaker 0 0 bX11_openMaker_0 := by
  unfold bX11_openMaker_0
  refine rx_by (e_ldR _ _) (s_aload_n hZ.1 dX11_openMaker_0 rfl ?_)
  refine s_iconst dX11_openMaker_1 (by decide +kernel) ?_
  refine zp7_0 hZ.1 dX11_openMaker_2 zw943 ?_
  refine rx_by (e_ldR _ _) (s_aload_n hZ.1 dX11_openMaker_5 rfl ?_)
  refine s_iconst dX11_openMaker_6 (by decide +kernel) ?_
  refine zp7_1 hZ.1 dX11_openMaker_7 zw953 ?_
  refine rx_by (e_ldR _ _) (s_aload_n hZ.1 dX11_openMaker_10 rfl ?_)
  exact s_aret hZ.1 rfl (Or.inl ⟨_, rfl⟩) dX11_openMaker_11
noncomputable def fX11_openMaker : List Nat → rx_H → Option (Nat × rx_H) := rx_ent 1 bX11_openMaker_0
theorem met_X11_openMaker (hZ : zO b e D A X) : rx_Met (zV b e D A X) 0 yX11_openMaker mX11_openMaker fX11_openMaker := rx_entry hZ.1 (kX11_openMaker_0 hZ) (by decide +kernel) rfl (fun h => by cases h)
theorem zy_X11_openMaker : rx_Y (zV b e D A X) yX11_openMaker mX11_openMaker 1 := ⟨zw1242, zw423, by decide, by decide +kernel, by decide +kernel, by decide +kernel⟩
abbrev mX10_add : rx_M := (RX10, cX10_add, 2, none, false)
noncomputable def bX10_add_32 : rx_K := o_ret0
set_option maxRecDepth 20000 in
theorem kX10_add_32 (hZ : zO b e D A X) : rx_OK (zV b e D A X) mX10_add 0 32 bX10_add_32 := by
  unfold bX10_add_32
  exact s_vret rfl dX10_add_32
noncomputable def bX10_add_12 : rx_K := q_ld q_isR 0 (q_getf 10 14 (q_ld q_isR 0 (q_getf 10 15 (q_ld q_isR 1 (p_aast 5 7 (q_ld q_isR 0 (q_dup (q_getf 10 15 (o_const 8 (q_bi q_Fadd (p_putf q_isI 10 15 (bX10_add_32))))))))))))
set_option maxRecDepth 20000 in
theorem kX10_add_12 (hZ : zO b e D A X) : rx_OK (zV b e D A X) mX10_add 0 12 bX10_add_12 := by
  unfold bX10_add_12
  refine rx_by (e_ldR _ _) (s_aload_n hZ.1 dX10_add_12 rfl ?_)
  refine zg10_14 dX10_add_13 zw858 ?_
  refine rx_by (e_ldR _ _) (s_aload_n hZ.1 dX10_add_16 rfl ?_)
  refine zg10_15 dX10_add_17 zw866 ?_
  refine rx_by (e_ldR _ _) (s_aload_n hZ.1 dX10_add_20 rfl ?_)
  refine rx_by2 (l_aast _ _ _) (s_aast (tt := 5) rfl zaa7 dX10_add_21 ?_)
  refine rx_by (e_ldR _ _) (s_aload_n hZ.1 dX10_add_22 rfl ?_)
  refine rx_by (e_dup _) (s_dup hZ.1 dX10_add_23 ?_)
  refine zg10_15 dX10_add_24 zw866 ?_
  refine s_iconst dX10_add_27 (by decide +kernel) ?_
  refine rx_by (e_add _) (s_iadd dX10_add_28 ?_)
  refine zp10_15 hZ.1 dX10_add_29 zw866 ?_
  exact (kX10_add_32 hZ)
noncomputable def bX10_add_0 : rx_K := q_ld q_isR 0 (q_getf 10 15 (q_ld q_isR 0 (q_getf 10 14 (o_alen 5 (q_lt2 bX10_add_12 bX10_add_32)))))
set_option maxRecDepth 20000 in
theorem kX10_add_0 (hZ : zO b e D A X) : rx_OK (zV b e D A X) mX10_add 0 0 bX10_add_0 := by
  unfold bX10_add_0
  refine rx_by (e_ldR _ _) (s_aload_n hZ.1 dX10_add_0 rfl ?_)
  refine zg10_15 dX10_add_1 zw866 ?_
  refine rx_by (e_ldR _ _) (s_aload_n hZ.1 dX10_add_4 rfl ?_)
  refine zg10_14 dX10_add_5 zw858 ?_
  refine s_alen (tt := 5) rfl dX10_add_8 ?_
  exact rx_by (e_lt2 _ _) (s_icmp_ge dX10_add_9 (by decide) (kX10_add_32 hZ) (kX10_add_12 hZ))
noncomputable def fX10_add : List Nat → rx_H → Option (Nat × rx_H) := rx_ent 2 bX10_add_0
theorem met_X10_add (hZ : zO b e D A X) : rx_Met (zV b e D A X) 0 yX10_add mX10_add fX10_add := rx_entry hZ.1 (kX10_add_0 hZ) (by decide +kernel) rfl (fun h => by cases h)
theorem zy_X10_add : rx_Y (zV b e D A X) yX10_add mX10_add 1 := ⟨zw1246, zw425, by decide, by decide +kernel, by decide +kernel, by decide +kernel⟩
abbrev mX11_init : rx_M := (RX11, cX11_init, 4, none, true)
noncomputable def bX11_init_241 : rx_K := q_ld q_isR 2 (q_ld q_isR 0 (q_getf 11 0 (o_callV 0 1 fX1_newMember (o_callS 1 fX11_openMaker (o_callV 1 10 fX10_add (o_ret0))))))
set_option maxRecDepth 20000 in
theorem kX11_init_241 (hZ : zO b e D A X) : rx_OK (zV b e D A X) mX11_init 3 241 bX11_init_241 := by
  unfold bX11_init_241
  refine rx_by (e_ldR _ _) (s_aload_n hZ.1 dX11_init_241 rfl ?_)
  refine rx_by (e_ldR _ _) (s_aload_n hZ.1 dX11_init_242 rfl ?_)
  refine zg11_0 dX11_init_243 zw1250 ?_
  refine s_callV hZ.1 (met_X1_newMember hZ) (by decide) zy_X1_newMember zcl1 zw1228 zw1229 (Or.inl zw1227) dX11_init_246 ?_
  refine s_callS hZ.1 (met_X11_openMaker hZ) (by decide) zy_X11_openMaker zw1241 (Or.inl zw1240) dX11_init_249 ?_
  refine s_callV hZ.1 (met_X10_add hZ) (by decide) zy_X10_add zcl10 zw1244 zw1245 (Or.inl zw1243) dX11_init_252 ?_
  exact s_vret rfl dX11_init_255
noncomputable def bX11_init_195 : rx_K := o_const 8 (p_putf rx_isZ 10 3 (q_ld q_isR 2 (o_const 8 (p_putf rx_isZ 10 7 (q_ld q_isR 2 (o_const 8 (p_putf q_isI 10 20 (q_ld q_isR 0 (q_getf 11 0 (o_callV 0 1 fX1_newMember (q_st q_isR 3 (q_ld q_isR 3 (o_const 24 (p_putf q_isI 7 1 (q_ld q_isR 3 (o_const 322150859624415233 (p_putf q_isL 7 7 (q_ld q_isR 3 (o_const 147573952589676412921 (p_putf q_isL 7 8 (q_ld q_isR 2 (q_ld q_isR 3 (o_callV 1 10 fX10_add (bX11_init_241))))))))))))))))))))))))
set_option maxRecDepth 20000 in
theorem kX11_init_195 (hZ : zO b e D A X) : rx_OK (zV b e D A X) mX11_init 3 195 bX11_init_195 := by
  unfold bX11_init_195
  refine s_iconst dX11_init_195 (by decide +kernel) ?_
  refine zp10_3 hZ.1 dX11_init_196 zw783 ?_
  refine rx_by (e_ldR _ _) (s_aload_n hZ.1 dX11_init_199 rfl ?_)
  refine s_iconst dX11_init_200 (by decide +kernel) ?_
  refine zp10_7 hZ.1 dX11_init_201 zw815 ?_
  refine rx_by (e_ldR _ _) (s_aload_n hZ.1 dX11_init_204 rfl ?_)
  refine s_iconst dX11_init_205 (by decide +kernel) ?_
  refine zp10_20 hZ.1 dX11_init_206 zw889 ?_
  refine rx_by (e_ldR _ _) (s_aload_n hZ.1 dX11_init_209 rfl ?_)
  refine zg11_0 dX11_init_210 zw1250 ?_
  refine s_callV hZ.1 (met_X1_newMember hZ) (by decide) zy_X1_newMember zcl1 zw1228 zw1229 (Or.inl zw1227) dX11_init_213 ?_
  refine rx_by (e_stR _ _) (s_astore_n hZ.1 dX11_init_216 rfl (Nat.le_of_ble_eq_true rfl) ?_)
  refine rx_by (e_ldR _ _) (s_aload_n hZ.1 dX11_init_217 rfl ?_)
  refine s_iconst dX11_init_218 (by decide +kernel) ?_
  refine zp7_1 hZ.1 dX11_init_219 zw953 ?_
  refine rx_by (e_ldR _ _) (s_aload_n hZ.1 dX11_init_222 rfl ?_)
  refine s_ldc2 dX11_init_223 zw1248 (by decide +kernel) ?_
  refine zp7_7 hZ.1 dX11_init_226 zw1002 ?_
  refine rx_by (e_ldR _ _) (s_aload_n hZ.1 dX11_init_229 rfl ?_)
  refine s_ldc2 dX11_init_230 zw1249 (by decide +kernel) ?_
  refine zp7_8 hZ.1 dX11_init_233 zw1011 ?_
  refine rx_by (e_ldR _ _) (s_aload_n hZ.1 dX11_init_236 rfl ?_)
  refine rx_by (e_ldR _ _) (s_aload_n hZ.1 dX11_init_237 rfl ?_)
  refine s_callV hZ.1 (met_X10_add hZ) (by decide) zy_X10_add zcl10 zw1244 zw1245 (Or.inl zw1243) dX11_init_238 ?_
  exact (kX11_init_241 hZ)
noncomputable def bX11_init_145 : rx_K := q_st q_isR 1 (q_ld q_isR 0 (q_getf 11 0 (o_callV 0 1 fX1_newRow (q_st q_isR 2 (q_ld q_isR 1 (o_const 115324555267378511873 (p_putf q_isL 10 1 (q_ld q_isR 1 (o_const 8 (p_putf rx_isZ 10 3 (q_ld q_isR 1 (o_const 147573952589676412897 (p_putf q_isL 10 8 (q_ld q_isR 1 (q_ld q_isR 0 (q_getf 11 0 (o_callV 0 1 fX1_newMember (o_callS 1 fX11_openMaker (o_callV 1 10 fX10_add (q_ld q_isR 2 (o_const 116472515775520833537 (p_putf q_isL 10 1 (q_ld q_isR 2 (bX11_init_195))))))))))))))))))))))))
set_option maxRecDepth 20000 in
theorem kX11_init_145 (hZ : zO b e D A X) : rx_OK (zV b e D A X) mX11_init 3 145 bX11_init_145 := by
  unfold bX11_init_145
  refine rx_by (e_stR _ _) (s_astore_n hZ.1 dX11_init_145 rfl (Nat.le_of_ble_eq_true rfl) ?_)
  refine rx_by (e_ldR _ _) (s_aload_n hZ.1 dX11_init_146 rfl ?_)
  refine zg11_0 dX11_init_147 zw1250 ?_
  refine s_callV hZ.1 (met_X1_newRow hZ) (by decide) zy_X1_newRow zcl1 zw1213 zw1214 (Or.inl zw1212) dX11_init_150 ?_
  refine rx_by (e_stR _ _) (s_astore_n hZ.1 dX11_init_153 rfl (Nat.le_of_ble_eq_true rfl) ?_)
  refine rx_by (e_ldR _ _) (s_aload_n hZ.1 dX11_init_154 rfl ?_)
  refine s_ldc2 dX11_init_155 zw1225 (by decide +kernel) ?_
  refine zp10_1 hZ.1 dX11_init_158 zw768 ?_
  refine rx_by (e_ldR _ _) (s_aload_n hZ.1 dX11_init_161 rfl ?_)
  refine s_iconst dX11_init_162 (by decide +kernel) ?_
  refine zp10_3 hZ.1 dX11_init_163 zw783 ?_
  refine rx_by (e_ldR _ _) (s_aload_n hZ.1 dX11_init_166 rfl ?_)
  refine s_ldc2 dX11_init_167 zw1226 (by decide +kernel) ?_
  refine zp10_8 hZ.1 dX11_init_170 zw821 ?_
  refine rx_by (e_ldR _ _) (s_aload_n hZ.1 dX11_init_173 rfl ?_)
  refine rx_by (e_ldR _ _) (s_aload_n hZ.1 dX11_init_174 rfl ?_)
  refine zg11_0 dX11_init_175 zw1250 ?_
  refine s_callV hZ.1 (met_X1_newMember hZ) (by decide) zy_X1_newMember zcl1 zw1228 zw1229 (Or.inl zw1227) dX11_init_178 ?_
  refine s_callS hZ.1 (met_X11_openMaker hZ) (by decide) zy_X11_openMaker zw1241 (Or.inl zw1240) dX11_init_181 ?_
  refine s_callV hZ.1 (met_X10_add hZ) (by decide) zy_X10_add zcl10 zw1244 zw1245 (Or.inl zw1243) dX11_init_184 ?_
  refine rx_by (e_ldR _ _) (s_aload_n hZ.1 dX11_init_187 rfl ?_)
  refine s_ldc2 dX11_init_188 zw1247 (by decide +kernel) ?_
  refine zp10_1 hZ.1 dX11_init_191 zw768 ?_
  refine rx_by (e_ldR _ _) (s_aload_n hZ.1 dX11_init_194 rfl ?_)
  exact (kX11_init_195 hZ)
noncomputable def bX11_init_99 : rx_K := p_newa 0 0 (p_putf q_isR 11 13 (q_ld q_isR 0 (o_const 512 (p_newa 0 0 (p_putf q_isR 11 14 (q_ld q_isR 0 (o_const 512 (p_newa 5 3 (p_putf q_isR 11 16 (q_ld q_isR 0 (p_new 1 18 zfs1 (q_dup (o_const 16 (o_const 24 (o_const 0 (o_const 0 (o_const 0 (o_const 0 (o_callI 6 fX1_init (p_putf q_isR 11 0 (q_ld q_isR 0 (q_getf 11 0 (o_callV 0 1 fX1_newRow (bX11_init_145))))))))))))))))))))))))
set_option maxRecDepth 20000 in
theorem kX11_init_99 (hZ : zO b e D A X) : rx_OK (zV b e D A X) mX11_init 3 99 bX11_init_99 := by
  unfold bX11_init_99
  refine rx_by2 (l_newa _ _ _) (s_newa (tt := 0) (ty := .int) rfl rfl rfl rfl rfl (by decide) zw527 dX11_init_99 ?_)
  refine zp11_13 hZ.1 rfl rfl dX11_init_101 zw1288 ?_
  refine rx_by (e_ldR _ _) (s_aload_n hZ.1 dX11_init_104 rfl ?_)
  refine s_bipush dX11_init_105 (by decide +kernel) ?_
  refine rx_by2 (l_newa _ _ _) (s_newa (tt := 0) (ty := .int) rfl rfl rfl rfl rfl (by decide) zw527 dX11_init_107 ?_)
  refine zp11_14 hZ.1 rfl rfl dX11_init_109 zw1289 ?_
  refine rx_by (e_ldR _ _) (s_aload_n hZ.1 dX11_init_112 rfl ?_)
  refine s_bipush dX11_init_113 (by decide +kernel) ?_
  refine rx_by2 (l_newa _ _ _) (s_anewa (tt := 5) rfl zw751 (zo_W5 hZ) dX11_init_115 ?_)
  refine zp11_16 hZ.1 rfl rfl dX11_init_118 zw1293 ?_
  refine rx_by (e_ldR _ _) (s_aload_n hZ.1 dX11_init_121 rfl ?_)
  refine rx_by2 (l_new _ _ _ _) (s_new zcl1 zfk1 dX11_init_122 zw752 zw753 zw424 ?_)
  refine rx_by (e_dup _) (s_dup hZ.1 dX11_init_125 ?_)
  refine s_iconst dX11_init_126 (by decide +kernel) ?_
  refine s_iconst dX11_init_127 (by decide +kernel) ?_
  refine s_iconst dX11_init_128 (by decide +kernel) ?_
  refine s_iconst dX11_init_129 (by decide +kernel) ?_
  refine s_iconst dX11_init_130 (by decide +kernel) ?_
  refine s_iconst dX11_init_131 (by decide +kernel) ?_
  refine s_callI hZ.1 (met_X1_init hZ) (by decide) zy_X1_init rfl rfl zw755 (Or.inl zw754) dX11_init_132 ?_
  refine zp11_0 hZ.1 rfl rfl dX11_init_135 zw1250 ?_
  refine rx_by (e_ldR _ _) (s_aload_n hZ.1 dX11_init_138 rfl ?_)
  refine zg11_0 dX11_init_139 zw1250 ?_
  refine s_callV hZ.1 (met_X1_newRow hZ) (by decide) zy_X1_newRow zcl1 zw1213 zw1214 (Or.inl zw1212) dX11_init_142 ?_
  exact (kX11_init_145 hZ)
noncomputable def bX11_init_50 : rx_K := p_newa 0 0 (p_putf q_isR 11 7 (q_ld q_isR 0 (o_const 512 (p_newa 0 0 (p_putf q_isR 11 8 (q_ld q_isR 0 (o_const 512 (p_newa 1 1 (p_putf q_isR 11 9 (q_ld q_isR 0 (o_const 32768 (p_newa 0 0 (p_putf q_isR 11 10 (q_ld q_isR 0 (o_const 512 (p_newa 0 0 (p_putf q_isR 11 11 (q_ld q_isR 0 (o_const 528 (p_newa 0 0 (p_putf q_isR 11 12 (q_ld q_isR 0 (o_const 528 (bX11_init_99))))))))))))))))))))))))
set_option maxRecDepth 20000 in
theorem kX11_init_50 (hZ : zO b e D A X) : rx_OK (zV b e D A X) mX11_init 3 50 bX11_init_50 := by
  unfold bX11_init_50
  refine rx_by2 (l_newa _ _ _) (s_newa (tt := 0) (ty := .int) rfl rfl rfl rfl rfl (by decide) zw527 dX11_init_50 ?_)
  refine zp11_7 hZ.1 rfl rfl dX11_init_52 zw1277 ?_
  refine rx_by (e_ldR _ _) (s_aload_n hZ.1 dX11_init_55 rfl ?_)
  refine s_bipush dX11_init_56 (by decide +kernel) ?_
  refine rx_by2 (l_newa _ _ _) (s_newa (tt := 0) (ty := .int) rfl rfl rfl rfl rfl (by decide) zw527 dX11_init_58 ?_)
  refine zp11_8 hZ.1 rfl rfl dX11_init_60 zw1279 ?_
  refine rx_by (e_ldR _ _) (s_aload_n hZ.1 dX11_init_63 rfl ?_)
  refine s_bipush dX11_init_64 (by decide +kernel) ?_
  refine rx_by2 (l_newa _ _ _) (s_newa (tt := 1) (ty := .long) rfl rfl rfl rfl rfl (by decide) zw528 dX11_init_66 ?_)
  refine zp11_9 hZ.1 rfl rfl dX11_init_68 zw1281 ?_
  refine rx_by (e_ldR _ _) (s_aload_n hZ.1 dX11_init_71 rfl ?_)
  refine s_sipush dX11_init_72 (by decide +kernel) ?_
  refine rx_by2 (l_newa _ _ _) (s_newa (tt := 0) (ty := .int) rfl rfl rfl rfl rfl (by decide) zw527 dX11_init_75 ?_)
  refine zp11_10 hZ.1 rfl rfl dX11_init_77 zw1282 ?_
  refine rx_by (e_ldR _ _) (s_aload_n hZ.1 dX11_init_80 rfl ?_)
  refine s_bipush dX11_init_81 (by decide +kernel) ?_
  refine rx_by2 (l_newa _ _ _) (s_newa (tt := 0) (ty := .int) rfl rfl rfl rfl rfl (by decide) zw527 dX11_init_83 ?_)
  refine zp11_11 hZ.1 rfl rfl dX11_init_85 zw1286 ?_
  refine rx_by (e_ldR _ _) (s_aload_n hZ.1 dX11_init_88 rfl ?_)
  refine s_bipush dX11_init_89 (by decide +kernel) ?_
  refine rx_by2 (l_newa _ _ _) (s_newa (tt := 0) (ty := .int) rfl rfl rfl rfl rfl (by decide) zw527 dX11_init_91 ?_)
  refine zp11_12 hZ.1 rfl rfl dX11_init_93 zw1287 ?_
  refine rx_by (e_ldR _ _) (s_aload_n hZ.1 dX11_init_96 rfl ?_)
  refine s_bipush dX11_init_97 (by decide +kernel) ?_
  exact (kX11_init_99 hZ)
noncomputable def bX11_init_0 : rx_K := q_ld q_isR 0 (q_obj (q_ld q_isR 0 (o_const 512 (p_newa 4 3 (p_putf q_isR 11 1 (q_ld q_isR 0 (o_const 512 (p_newa 0 0 (p_putf q_isR 11 3 (q_ld q_isR 0 (o_const 512 (p_newa 0 0 (p_putf q_isR 11 4 (q_ld q_isR 0 (o_const 2048 (p_newa 0 0 (p_putf q_isR 11 5 (q_ld q_isR 0 (o_const 2560 (p_newa 0 0 (p_putf q_isR 11 6 (q_ld q_isR 0 (o_const 512 (bX11_init_50))))))))))))))))))))))))
set_option maxRecDepth 20000 in
theorem kX11_init_0 (hZ : zO b e D A X) : rx_OK (zV b e D A X) mX11_init 3 0 bX11_init_0 := by
  unfold bX11_init_0
  refine rx_by (e_ldR _ _) (s_aload_n hZ.1 dX11_init_0 rfl ?_)
  refine rx_by (e_obj _) (s_obj hZ.1 (by decide) zw748 zw440 zw441 dX11_init_1 ?_)
  refine rx_by (e_ldR _ _) (s_aload_n hZ.1 dX11_init_4 rfl ?_)
  refine s_bipush dX11_init_5 (by decide +kernel) ?_
  refine rx_by2 (l_newa _ _ _) (s_anewa (tt := 4) rfl zw749 (zo_W4 hZ) dX11_init_7 ?_)
  refine zp11_1 hZ.1 rfl rfl dX11_init_10 zw1252 ?_
  refine rx_by (e_ldR _ _) (s_aload_n hZ.1 dX11_init_13 rfl ?_)
  refine s_bipush dX11_init_14 (by decide +kernel) ?_
  refine rx_by2 (l_newa _ _ _) (s_newa (tt := 0) (ty := .int) rfl rfl rfl rfl rfl (by decide) zw527 dX11_init_16 ?_)
  refine zp11_3 hZ.1 rfl rfl dX11_init_18 zw1262 ?_
  refine rx_by (e_ldR _ _) (s_aload_n hZ.1 dX11_init_21 rfl ?_)
  refine s_bipush dX11_init_22 (by decide +kernel) ?_
  refine rx_by2 (l_newa _ _ _) (s_newa (tt := 0) (ty := .int) rfl rfl rfl rfl rfl (by decide) zw527 dX11_init_24 ?_)
  refine zp11_4 hZ.1 rfl rfl dX11_init_26 zw1267 ?_
  refine rx_by (e_ldR _ _) (s_aload_n hZ.1 dX11_init_29 rfl ?_)
  refine s_sipush dX11_init_30 (by decide +kernel) ?_
  refine rx_by2 (l_newa _ _ _) (s_newa (tt := 0) (ty := .int) rfl rfl rfl rfl rfl (by decide) zw527 dX11_init_33 ?_)
  refine zp11_5 hZ.1 rfl rfl dX11_init_35 zw1272 ?_
  refine rx_by (e_ldR _ _) (s_aload_n hZ.1 dX11_init_38 rfl ?_)
  refine s_sipush dX11_init_39 (by decide +kernel) ?_
  refine rx_by2 (l_newa _ _ _) (s_newa (tt := 0) (ty := .int) rfl rfl rfl rfl rfl (by decide) zw527 dX11_init_42 ?_)
  refine zp11_6 hZ.1 rfl rfl dX11_init_44 zw1275 ?_
  refine rx_by (e_ldR _ _) (s_aload_n hZ.1 dX11_init_47 rfl ?_)
  refine s_bipush dX11_init_48 (by decide +kernel) ?_
  exact (kX11_init_50 hZ)
noncomputable def fX11_init : List Nat → rx_H → Option (Nat × rx_H) := rx_ent 4 bX11_init_0
theorem met_X11_init (hZ : zO b e D A X) : rx_Met (zV b e D A X) 3 yX11_init mX11_init fX11_init := rx_entry hZ.1 (kX11_init_0 hZ) (by decide +kernel) rfl (fun _ => rfl)
theorem zy_X11_init : rx_Y (zV b e D A X) yX11_init mX11_init 0 := ⟨zw747, zw423, by decide, by decide +kernel, by decide +kernel, by decide +kernel⟩
abbrev mX5_init : rx_M := (RX5, cX5_init, 2, none, true)
noncomputable def bX5_init_95 : rx_K := p_newa 5 3 (p_putf q_isR 5 19 (o_ret0))
set_option maxRecDepth 20000 in
theorem kX5_init_95 (hZ : zO b e D A X) : rx_OK (zV b e D A X) mX5_init 1 95 bX5_init_95 := by
  unfold bX5_init_95
  refine rx_by2 (l_newa _ _ _) (s_anewa (tt := 5) rfl zw1349 (zo_W5 hZ) dX5_init_95 ?_)
  refine zp5_19 hZ.1 rfl rfl dX5_init_98 zw1381 ?_
  exact s_vret rfl dX5_init_101
noncomputable def bX5_init_48 : rx_K := p_newa 0 0 (p_putf q_isR 5 8 (q_ld q_isR 0 (o_const 528 (p_newa 0 0 (p_putf q_isR 5 9 (q_ld q_isR 0 (o_const 528 (p_newa 0 0 (p_putf q_isR 5 10 (q_ld q_isR 0 (o_const 1040 (p_newa 0 0 (p_putf q_isR 5 15 (q_ld q_isR 0 (o_const 520 (p_newa 0 0 (p_putf q_isR 5 17 (q_ld q_isR 0 (q_ld q_isI 1 (p_newa 0 0 (p_putf q_isR 5 18 (q_ld q_isR 0 (q_ld q_isI 1 (bX5_init_95))))))))))))))))))))))))
set_option maxRecDepth 20000 in
theorem kX5_init_48 (hZ : zO b e D A X) : rx_OK (zV b e D A X) mX5_init 1 48 bX5_init_48 := by
  unfold bX5_init_48
  refine rx_by2 (l_newa _ _ _) (s_newa (tt := 0) (ty := .int) rfl rfl rfl rfl rfl (by decide) zw527 dX5_init_48 ?_)
  refine zp5_8 hZ.1 rfl rfl dX5_init_50 zw1363 ?_
  refine rx_by (e_ldR _ _) (s_aload_n hZ.1 dX5_init_53 rfl ?_)
  refine s_bipush dX5_init_54 (by decide +kernel) ?_
  refine rx_by2 (l_newa _ _ _) (s_newa (tt := 0) (ty := .int) rfl rfl rfl rfl rfl (by decide) zw527 dX5_init_56 ?_)
  refine zp5_9 hZ.1 rfl rfl dX5_init_58 zw1364 ?_
  refine rx_by (e_ldR _ _) (s_aload_n hZ.1 dX5_init_61 rfl ?_)
  refine s_bipush dX5_init_62 (by decide +kernel) ?_
  refine rx_by2 (l_newa _ _ _) (s_newa (tt := 0) (ty := .int) rfl rfl rfl rfl rfl (by decide) zw527 dX5_init_64 ?_)
  refine zp5_10 hZ.1 rfl rfl dX5_init_66 zw1365 ?_
  refine rx_by (e_ldR _ _) (s_aload_n hZ.1 dX5_init_69 rfl ?_)
  refine s_sipush dX5_init_70 (by decide +kernel) ?_
  refine rx_by2 (l_newa _ _ _) (s_newa (tt := 0) (ty := .int) rfl rfl rfl rfl rfl (by decide) zw527 dX5_init_73 ?_)
  refine zp5_15 hZ.1 rfl rfl dX5_init_75 zw1375 ?_
  refine rx_by (e_ldR _ _) (s_aload_n hZ.1 dX5_init_78 rfl ?_)
  refine s_bipush dX5_init_79 (by decide +kernel) ?_
  refine rx_by2 (l_newa _ _ _) (s_newa (tt := 0) (ty := .int) rfl rfl rfl rfl rfl (by decide) zw527 dX5_init_81 ?_)
  refine zp5_17 hZ.1 rfl rfl dX5_init_83 zw1379 ?_
  refine rx_by (e_ldR _ _) (s_aload_n hZ.1 dX5_init_86 rfl ?_)
  refine rx_by (e_ldI _ _) (s_iload_n hZ.1 dX5_init_87 rfl ?_)
  refine rx_by2 (l_newa _ _ _) (s_newa (tt := 0) (ty := .int) rfl rfl rfl rfl rfl (by decide) zw527 dX5_init_88 ?_)
  refine zp5_18 hZ.1 rfl rfl dX5_init_90 zw1380 ?_
  refine rx_by (e_ldR _ _) (s_aload_n hZ.1 dX5_init_93 rfl ?_)
  refine rx_by (e_ldI _ _) (s_iload_n hZ.1 dX5_init_94 rfl ?_)
  exact (kX5_init_95 hZ)
noncomputable def bX5_init_0 : rx_K := q_ld q_isR 0 (q_obj (q_ld q_isR 0 (o_const 512 (p_newa 0 0 (p_putf q_isR 5 1 (q_ld q_isR 0 (o_const 512 (p_newa 0 0 (p_putf q_isR 5 2 (q_ld q_isR 0 (o_const 2560 (p_newa 0 0 (p_putf q_isR 5 3 (q_ld q_isR 0 (o_const 512 (p_newa 0 0 (p_putf q_isR 5 5 (q_ld q_isR 0 (o_const 528 (p_newa 0 0 (p_putf q_isR 5 7 (q_ld q_isR 0 (o_const 528 (bX5_init_48))))))))))))))))))))))))
set_option maxRecDepth 20000 in
theorem kX5_init_0 (hZ : zO b e D A X) : rx_OK (zV b e D A X) mX5_init 1 0 bX5_init_0 := by
  unfold bX5_init_0
  refine rx_by (e_ldR _ _) (s_aload_n hZ.1 dX5_init_0 rfl ?_)
  refine rx_by (e_obj _) (s_obj hZ.1 (by decide) zw1348 zw440 zw441 dX5_init_1 ?_)
  refine rx_by (e_ldR _ _) (s_aload_n hZ.1 dX5_init_4 rfl ?_)
  refine s_bipush dX5_init_5 (by decide +kernel) ?_
  refine rx_by2 (l_newa _ _ _) (s_newa (tt := 0) (ty := .int) rfl rfl rfl rfl rfl (by decide) zw527 dX5_init_7 ?_)
  refine zp5_1 hZ.1 rfl rfl dX5_init_9 zw1351 ?_
  refine rx_by (e_ldR _ _) (s_aload_n hZ.1 dX5_init_12 rfl ?_)
  refine s_bipush dX5_init_13 (by decide +kernel) ?_
  refine rx_by2 (l_newa _ _ _) (s_newa (tt := 0) (ty := .int) rfl rfl rfl rfl rfl (by decide) zw527 dX5_init_15 ?_)
  refine zp5_2 hZ.1 rfl rfl dX5_init_17 zw1354 ?_
  refine rx_by (e_ldR _ _) (s_aload_n hZ.1 dX5_init_20 rfl ?_)
  refine s_sipush dX5_init_21 (by decide +kernel) ?_
  refine rx_by2 (l_newa _ _ _) (s_newa (tt := 0) (ty := .int) rfl rfl rfl rfl rfl (by decide) zw527 dX5_init_24 ?_)
  refine zp5_3 hZ.1 rfl rfl dX5_init_26 zw1355 ?_
  refine rx_by (e_ldR _ _) (s_aload_n hZ.1 dX5_init_29 rfl ?_)
  refine s_bipush dX5_init_30 (by decide +kernel) ?_
  refine rx_by2 (l_newa _ _ _) (s_newa (tt := 0) (ty := .int) rfl rfl rfl rfl rfl (by decide) zw527 dX5_init_32 ?_)
  refine zp5_5 hZ.1 rfl rfl dX5_init_34 zw1359 ?_
  refine rx_by (e_ldR _ _) (s_aload_n hZ.1 dX5_init_37 rfl ?_)
  refine s_bipush dX5_init_38 (by decide +kernel) ?_
  refine rx_by2 (l_newa _ _ _) (s_newa (tt := 0) (ty := .int) rfl rfl rfl rfl rfl (by decide) zw527 dX5_init_40 ?_)
  refine zp5_7 hZ.1 rfl rfl dX5_init_42 zw1362 ?_
  refine rx_by (e_ldR _ _) (s_aload_n hZ.1 dX5_init_45 rfl ?_)
  refine s_bipush dX5_init_46 (by decide +kernel) ?_
  exact (kX5_init_48 hZ)
noncomputable def fX5_init : List Nat → rx_H → Option (Nat × rx_H) := rx_ent 2 bX5_init_0
theorem met_X5_init (hZ : zO b e D A X) : rx_Met (zV b e D A X) 1 yX5_init mX5_init fX5_init := rx_entry hZ.1 (kX5_init_0 hZ) (by decide +kernel) rfl (fun _ => rfl)
theorem zy_X5_init : rx_Y (zV b e D A X) yX5_init mX5_init 1 := ⟨zw1347, zw428, by decide, by decide +kernel, by decide +kernel, by decide +kernel⟩
abbrev mX2_init : rx_M := (RX2, cX2_init, 1, none, true)
noncomputable def bX2_init_0 : rx_K := q_ld q_isR 0 (q_obj (q_ld q_isR 0 (o_const 64000 (p_newa 0 0 (p_putf q_isR 2 3 (q_ld q_isR 0 (o_const 5600 (p_newa 0 0 (p_putf q_isR 2 8 (q_ld q_isR 0 (o_const 5600 (p_newa 0 0 (p_putf q_isR 2 9 (o_ret0))))))))))))))
set_option maxRecDepth 20000 in
theorem kX2_init_0 (hZ : zO b e D A X) : rx_OK (zV b e D A X) mX2_init 1 0 bX2_init_0 := by
  unfold bX2_init_0
  refine rx_by (e_ldR _ _) (s_aload_n hZ.1 dX2_init_0 rfl ?_)
  refine rx_by (e_obj _) (s_obj hZ.1 (by decide) zw1428 zw440 zw441 dX2_init_1 ?_)
  refine rx_by (e_ldR _ _) (s_aload_n hZ.1 dX2_init_4 rfl ?_)
  refine s_sipush dX2_init_5 (by decide +kernel) ?_
  refine rx_by2 (l_newa _ _ _) (s_newa (tt := 0) (ty := .int) rfl rfl rfl rfl rfl (by decide) zw527 dX2_init_8 ?_)
  refine zp2_3 hZ.1 rfl rfl dX2_init_10 zw1432 ?_
  refine rx_by (e_ldR _ _) (s_aload_n hZ.1 dX2_init_13 rfl ?_)
  refine s_sipush dX2_init_14 (by decide +kernel) ?_
  refine rx_by2 (l_newa _ _ _) (s_newa (tt := 0) (ty := .int) rfl rfl rfl rfl rfl (by decide) zw527 dX2_init_17 ?_)
  refine zp2_8 hZ.1 rfl rfl dX2_init_19 zw1440 ?_
  refine rx_by (e_ldR _ _) (s_aload_n hZ.1 dX2_init_22 rfl ?_)
  refine s_sipush dX2_init_23 (by decide +kernel) ?_
  refine rx_by2 (l_newa _ _ _) (s_newa (tt := 0) (ty := .int) rfl rfl rfl rfl rfl (by decide) zw527 dX2_init_26 ?_)
  refine zp2_9 hZ.1 rfl rfl dX2_init_28 zw1441 ?_
  exact s_vret rfl dX2_init_31
noncomputable def fX2_init : List Nat → rx_H → Option (Nat × rx_H) := rx_ent 1 bX2_init_0
theorem met_X2_init (hZ : zO b e D A X) : rx_Met (zV b e D A X) 1 yX2_init mX2_init fX2_init := rx_entry hZ.1 (kX2_init_0 hZ) (by decide +kernel) rfl (fun _ => rfl)
theorem zy_X2_init : rx_Y (zV b e D A X) yX2_init mX2_init 0 := ⟨zw1427, zw429, by decide, by decide +kernel, by decide +kernel, by decide +kernel⟩
abbrev mX6_init : rx_M := (RX6, cX6_init, 1, none, true)
noncomputable def bX6_init_54 : rx_K := p_putf q_isR 6 8 (q_ld q_isR 0 (o_const 1616 (p_newa 0 0 (p_putf q_isR 6 9 (q_ld q_isR 0 (o_const 16000 (p_newa 0 0 (p_putf q_isR 6 11 (q_ld q_isR 0 (o_const 10240 (p_newa 0 0 (p_putf q_isR 6 13 (q_ld q_isR 0 (o_const 800 (p_newa 0 0 (p_putf q_isR 6 15 (o_ret0)))))))))))))))))
set_option maxRecDepth 20000 in
theorem kX6_init_54 (hZ : zO b e D A X) : rx_OK (zV b e D A X) mX6_init 2 54 bX6_init_54 := by
  unfold bX6_init_54
  refine zp6_8 hZ.1 rfl rfl dX6_init_54 zw1483 ?_
  refine rx_by (e_ldR _ _) (s_aload_n hZ.1 dX6_init_57 rfl ?_)
  refine s_sipush dX6_init_58 (by decide +kernel) ?_
  refine rx_by2 (l_newa _ _ _) (s_newa (tt := 0) (ty := .int) rfl rfl rfl rfl rfl (by decide) zw527 dX6_init_61 ?_)
  refine zp6_9 hZ.1 rfl rfl dX6_init_63 zw1485 ?_
  refine rx_by (e_ldR _ _) (s_aload_n hZ.1 dX6_init_66 rfl ?_)
  refine s_sipush dX6_init_67 (by decide +kernel) ?_
  refine rx_by2 (l_newa _ _ _) (s_newa (tt := 0) (ty := .int) rfl rfl rfl rfl rfl (by decide) zw527 dX6_init_70 ?_)
  refine zp6_11 hZ.1 rfl rfl dX6_init_72 zw1489 ?_
  refine rx_by (e_ldR _ _) (s_aload_n hZ.1 dX6_init_75 rfl ?_)
  refine s_sipush dX6_init_76 (by decide +kernel) ?_
  refine rx_by2 (l_newa _ _ _) (s_newa (tt := 0) (ty := .int) rfl rfl rfl rfl rfl (by decide) zw527 dX6_init_79 ?_)
  refine zp6_13 hZ.1 rfl rfl dX6_init_81 zw1493 ?_
  refine rx_by (e_ldR _ _) (s_aload_n hZ.1 dX6_init_84 rfl ?_)
  refine s_bipush dX6_init_85 (by decide +kernel) ?_
  refine rx_by2 (l_newa _ _ _) (s_newa (tt := 0) (ty := .int) rfl rfl rfl rfl rfl (by decide) zw527 dX6_init_87 ?_)
  refine zp6_15 hZ.1 rfl rfl dX6_init_89 zw1496 ?_
  exact s_vret rfl dX6_init_92
noncomputable def bX6_init_0 : rx_K := q_ld q_isR 0 (q_obj (q_ld q_isR 0 (p_new 5 20 zfs5 (q_dup (o_const 39520 (o_callI 1 fX5_init (p_putf q_isR 6 1 (q_ld q_isR 0 (o_const 192000 (p_newa 0 0 (p_putf q_isR 6 2 (q_ld q_isR 0 (o_const 200 (o_const 56 (o_mna 8 0 0 (p_putf q_isR 6 4 (q_ld q_isR 0 (o_const 9216 (p_newa 0 0 (p_putf q_isR 6 6 (q_ld q_isR 0 (o_const 1616 (p_newa 0 0 (bX6_init_54))))))))))))))))))))))))
set_option maxRecDepth 20000 in
theorem kX6_init_0 (hZ : zO b e D A X) : rx_OK (zV b e D A X) mX6_init 2 0 bX6_init_0 := by
  unfold bX6_init_0
  refine rx_by (e_ldR _ _) (s_aload_n hZ.1 dX6_init_0 rfl ?_)
  refine rx_by (e_obj _) (s_obj hZ.1 (by decide) zw1468 zw440 zw441 dX6_init_1 ?_)
  refine rx_by (e_ldR _ _) (s_aload_n hZ.1 dX6_init_4 rfl ?_)
  refine rx_by2 (l_new _ _ _ _) (s_new zcl5 zfk5 dX6_init_5 zw1469 zw1344 zw428 ?_)
  refine rx_by (e_dup _) (s_dup hZ.1 dX6_init_8 ?_)
  refine s_sipush dX6_init_9 (by decide +kernel) ?_
  refine s_callI hZ.1 (met_X5_init hZ) (by decide) zy_X5_init rfl rfl zw1346 (Or.inl zw1470) dX6_init_12 ?_
  refine zp6_1 hZ.1 rfl rfl dX6_init_15 zw1474 ?_
  refine rx_by (e_ldR _ _) (s_aload_n hZ.1 dX6_init_18 rfl ?_)
  refine s_sipush dX6_init_19 (by decide +kernel) ?_
  refine rx_by2 (l_newa _ _ _) (s_newa (tt := 0) (ty := .int) rfl rfl rfl rfl rfl (by decide) zw527 dX6_init_22 ?_)
  refine zp6_2 hZ.1 rfl rfl dX6_init_24 zw1476 ?_
  refine rx_by (e_ldR _ _) (s_aload_n hZ.1 dX6_init_27 rfl ?_)
  refine s_bipush dX6_init_28 (by decide +kernel) ?_
  refine s_bipush dX6_init_30 (by decide +kernel) ?_
  refine s_mna (to := 8) (ti := 0) rfl rfl rfl (by decide +kernel) rfl rfl (by decide) (by decide +kernel) (by decide +kernel) (zo_A hZ) zw1471 zw527 dX6_init_32 ?_
  refine zp6_4 hZ.1 rfl rfl dX6_init_36 zw1478 ?_
  refine rx_by (e_ldR _ _) (s_aload_n hZ.1 dX6_init_39 rfl ?_)
  refine s_sipush dX6_init_40 (by decide +kernel) ?_
  refine rx_by2 (l_newa _ _ _) (s_newa (tt := 0) (ty := .int) rfl rfl rfl rfl rfl (by decide) zw527 dX6_init_43 ?_)
  refine zp6_6 hZ.1 rfl rfl dX6_init_45 zw1481 ?_
  refine rx_by (e_ldR _ _) (s_aload_n hZ.1 dX6_init_48 rfl ?_)
  refine s_sipush dX6_init_49 (by decide +kernel) ?_
  refine rx_by2 (l_newa _ _ _) (s_newa (tt := 0) (ty := .int) rfl rfl rfl rfl rfl (by decide) zw527 dX6_init_52 ?_)
  exact (kX6_init_54 hZ)
noncomputable def fX6_init : List Nat → rx_H → Option (Nat × rx_H) := rx_ent 1 bX6_init_0
theorem met_X6_init (hZ : zO b e D A X) : rx_Met (zV b e D A X) 2 yX6_init mX6_init fX6_init := rx_entry hZ.1 (kX6_init_0 hZ) (by decide +kernel) rfl (fun _ => rfl)
theorem zy_X6_init : rx_Y (zV b e D A X) yX6_init mX6_init 0 := ⟨zw1467, zw430, by decide, by decide +kernel, by decide +kernel, by decide +kernel⟩
abbrev mX11_clear : rx_M := (RX11, cX11_clear, 1, none, false)
noncomputable def bX11_clear_0 : rx_K := q_ld q_isR 0 (o_const 16 (p_putf q_isI 11 2 (q_ld q_isR 0 (q_getf 11 1 (o_const 0 (q_ld q_isR 0 (q_getf 11 0 (q_getf 1 2 (o_const 0 (q_ald 4 (p_aast 4 10 (q_ld q_isR 0 (q_getf 11 1 (o_const 8 (q_ld q_isR 0 (q_getf 11 0 (q_getf 1 2 (o_const 8 (q_ald 4 (p_aast 4 10 (o_ret0)))))))))))))))))))))
set_option maxRecDepth 20000 in
theorem kX11_clear_0 (hZ : zO b e D A X) : rx_OK (zV b e D A X) mX11_clear 0 0 bX11_clear_0 := by
  unfold bX11_clear_0
  refine rx_by (e_ldR _ _) (s_aload_n hZ.1 dX11_clear_0 rfl ?_)
  refine s_iconst dX11_clear_1 (by decide +kernel) ?_
  refine zp11_2 hZ.1 dX11_clear_2 zw1260 ?_
  refine rx_by (e_ldR _ _) (s_aload_n hZ.1 dX11_clear_5 rfl ?_)
  refine zg11_1 dX11_clear_6 zw1252 ?_
  refine s_iconst dX11_clear_9 (by decide +kernel) ?_
  refine rx_by (e_ldR _ _) (s_aload_n hZ.1 dX11_clear_10 rfl ?_)
  refine zg11_0 dX11_clear_11 zw1250 ?_
  refine zg1_2 dX11_clear_14 zw1116 ?_
  refine s_iconst dX11_clear_17 (by decide +kernel) ?_
  refine rx_by (e_ald _ _) (s_aald (tt := 4) rfl rfl dX11_clear_18 ?_)
  refine rx_by2 (l_aast _ _ _) (s_aast (tt := 4) rfl zaa10 dX11_clear_19 ?_)
  refine rx_by (e_ldR _ _) (s_aload_n hZ.1 dX11_clear_20 rfl ?_)
  refine zg11_1 dX11_clear_21 zw1252 ?_
  refine s_iconst dX11_clear_24 (by decide +kernel) ?_
  refine rx_by (e_ldR _ _) (s_aload_n hZ.1 dX11_clear_25 rfl ?_)
  refine zg11_0 dX11_clear_26 zw1250 ?_
  refine zg1_2 dX11_clear_29 zw1116 ?_
  refine s_iconst dX11_clear_32 (by decide +kernel) ?_
  refine rx_by (e_ald _ _) (s_aald (tt := 4) rfl rfl dX11_clear_33 ?_)
  refine rx_by2 (l_aast _ _ _) (s_aast (tt := 4) rfl zaa10 dX11_clear_34 ?_)
  exact s_vret rfl dX11_clear_35
noncomputable def fX11_clear : List Nat → rx_H → Option (Nat × rx_H) := rx_ent 1 bX11_clear_0
theorem met_X11_clear (hZ : zO b e D A X) : rx_Met (zV b e D A X) 0 yX11_clear mX11_clear fX11_clear := rx_entry hZ.1 (kX11_clear_0 hZ) (by decide +kernel) rfl (fun h => by cases h)
theorem zy_X11_clear : rx_Y (zV b e D A X) yX11_clear mX11_clear 0 := ⟨zw1556, zw423, by decide, by decide +kernel, by decide +kernel, by decide +kernel⟩
abbrev mX12_allBuilt : rx_M := (RX12, cX12_allBuilt, 3, (some .int), false)
noncomputable def bX12_allBuilt_24 (j : Nat → rx_K) : rx_K := q_ld q_isI 1 (o_ret1 rx_isI)
set_option maxRecDepth 20000 in
theorem kX12_allBuilt_24 (hZ : zO b e D A X) (j : Nat → rx_K) (hj : ∀ k pc, [4][k]? = some pc → rx_OK (zV b e D A X) mX12_allBuilt 0 pc (j k)) : rx_OK (zV b e D A X) mX12_allBuilt 0 24 (bX12_allBuilt_24 j) := by
  unfold bX12_allBuilt_24
  refine rx_by (e_ldI _ _) (s_iload_n hZ.1 dX12_allBuilt_24 rfl ?_)
  exact s_iret hZ.1 rfl dX12_allBuilt_25
noncomputable def bX12_allBuilt_9 (j : Nat → rx_K) : rx_K := q_ld q_isI 1 (q_ld q_isR 0 (q_getf 12 5 (q_ld q_isI 2 (q_ald 0 (q_bi q_Fadd (q_st q_isI 1 (q_inc 2 8 ((j 0)))))))))
set_option maxRecDepth 20000 in
theorem kX12_allBuilt_9 (hZ : zO b e D A X) (j : Nat → rx_K) (hj : ∀ k pc, [4][k]? = some pc → rx_OK (zV b e D A X) mX12_allBuilt 0 pc (j k)) : rx_OK (zV b e D A X) mX12_allBuilt 0 9 (bX12_allBuilt_9 j) := by
  unfold bX12_allBuilt_9
  refine rx_by (e_ldI _ _) (s_iload_n hZ.1 dX12_allBuilt_9 rfl ?_)
  refine rx_by (e_ldR _ _) (s_aload_n hZ.1 dX12_allBuilt_10 rfl ?_)
  refine zg12_5 dX12_allBuilt_11 zw1608 ?_
  refine rx_by (e_ldI _ _) (s_iload_n hZ.1 dX12_allBuilt_14 rfl ?_)
  refine rx_by (e_ald _ _) (s_iald (tt := 0) rfl dX12_allBuilt_15 ?_)
  refine rx_by (e_add _) (s_iadd dX12_allBuilt_16 ?_)
  refine rx_by (e_stI _ _) (s_istore_n hZ.1 dX12_allBuilt_17 rfl (Nat.le_of_ble_eq_true rfl) ?_)
  refine rx_by (e_inc (by decide +kernel) _) (s_iinc hZ.1 dX12_allBuilt_18 (Nat.le_of_ble_eq_true rfl) ?_)
  exact s_goto dX12_allBuilt_21 (by decide) (hj 0 4 rfl)
noncomputable def bX12_allBuilt_4 (j : Nat → rx_K) : rx_K := q_ld q_isI 2 (o_const 40 (q_lt2 (bX12_allBuilt_9 j) (bX12_allBuilt_24 j)))
set_option maxRecDepth 20000 in
theorem kX12_allBuilt_4 (hZ : zO b e D A X) (j : Nat → rx_K) (hj : ∀ k pc, [4][k]? = some pc → rx_OK (zV b e D A X) mX12_allBuilt 0 pc (j k)) : rx_OK (zV b e D A X) mX12_allBuilt 0 4 (bX12_allBuilt_4 j) := by
  unfold bX12_allBuilt_4
  refine rx_by (e_ldI _ _) (s_iload_n hZ.1 dX12_allBuilt_4 rfl ?_)
  refine s_iconst dX12_allBuilt_5 (by decide +kernel) ?_
  exact rx_by (e_lt2 _ _) (s_icmp_ge dX12_allBuilt_6 (by decide) (kX12_allBuilt_24 hZ j hj) (kX12_allBuilt_9 hZ j hj))
noncomputable def bX12_allBuilt_0 (j : Nat → rx_K) : rx_K := o_const 0 (q_st q_isI 1 (o_const 0 (q_st q_isI 2 ((bX12_allBuilt_4 j)))))
set_option maxRecDepth 20000 in
theorem kX12_allBuilt_0 (hZ : zO b e D A X) (j : Nat → rx_K) (hj : ∀ k pc, [4][k]? = some pc → rx_OK (zV b e D A X) mX12_allBuilt 0 pc (j k)) : rx_OK (zV b e D A X) mX12_allBuilt 0 0 (bX12_allBuilt_0 j) := by
  unfold bX12_allBuilt_0
  refine s_iconst dX12_allBuilt_0 (by decide +kernel) ?_
  refine rx_by (e_stI _ _) (s_istore_n hZ.1 dX12_allBuilt_1 rfl (Nat.le_of_ble_eq_true rfl) ?_)
  refine s_iconst dX12_allBuilt_2 (by decide +kernel) ?_
  refine rx_by (e_stI _ _) (s_istore_n hZ.1 dX12_allBuilt_3 rfl (Nat.le_of_ble_eq_true rfl) ?_)
  exact (kX12_allBuilt_4 hZ j hj)
noncomputable def hX12_allBuilt (j : Nat → rx_K) : List rx_K := [bX12_allBuilt_4 j]
theorem lX12_allBuilt (hZ : zO b e D A X) : ∀ n k pc, [4][k]? = some pc → rx_OK (zV b e D A X) mX12_allBuilt 0 pc (rx_J hX12_allBuilt n k) := rx_loop fun j hj k pc h => by
  match k, h with
  | 0, h =>
    have e9 := Option.some.inj (show some 4 = some pc from h)
    subst e9
    exact kX12_allBuilt_4 hZ j hj
  | _ + 1, h => exact absurd h (by simp)
noncomputable def fX12_allBuilt : List Nat → rx_H → Option (Nat × rx_H) := rx_ent 3 (bX12_allBuilt_0 (rx_J hX12_allBuilt 1000000))
theorem met_X12_allBuilt (hZ : zO b e D A X) : rx_Met (zV b e D A X) 0 yX12_allBuilt mX12_allBuilt fX12_allBuilt := rx_entry hZ.1 (kX12_allBuilt_0 hZ _ (lX12_allBuilt hZ 1000000)) (by decide +kernel) rfl (fun h => by cases h)
theorem zy_X12_allBuilt : rx_Y (zV b e D A X) yX12_allBuilt mX12_allBuilt 0 := ⟨zw1564, zw413, by decide, by decide +kernel, by decide +kernel, by decide +kernel⟩
abbrev mX12_buildOf : rx_M := (RX12, cX12_buildOf, 5, (some (.object "LinkHouse$Build")), false)
noncomputable def bX12_buildOf_56 : rx_K := o_const 3 (o_ret1 rx_isR)
set_option maxRecDepth 20000 in
theorem kX12_buildOf_56 (hZ : zO b e D A X) : rx_OK (zV b e D A X) mX12_buildOf 1 56 bX12_buildOf_56 := by
  unfold bX12_buildOf_56
  refine s_null dX12_buildOf_56 ?_
  exact s_aret hZ.1 rfl (Or.inl ⟨_, rfl⟩) dX12_buildOf_57
noncomputable def bX12_buildOf_0 : rx_K := q_ld q_isR 0 (o_callV 0 12 fX12_allBuilt (q_st q_isI 3 (o_const 0 (q_st q_isI 4 (q_ld q_isI 4 (q_ld q_isI 3 (q_lt2 o_none bX12_buildOf_56)))))))
set_option maxRecDepth 20000 in
theorem kX12_buildOf_0 (hZ : zO b e D A X) : rx_OK (zV b e D A X) mX12_buildOf 1 0 bX12_buildOf_0 := by
  unfold bX12_buildOf_0
  refine rx_by (e_ldR _ _) (s_aload_n hZ.1 dX12_buildOf_0 rfl ?_)
  refine s_callV hZ.1 (met_X12_allBuilt hZ) (by decide) zy_X12_allBuilt zcl12 zw1563 zw2 (Or.inl zw1561) dX12_buildOf_1 ?_
  refine rx_by (e_stI _ _) (s_istore_n hZ.1 dX12_buildOf_4 rfl (Nat.le_of_ble_eq_true rfl) ?_)
  refine s_iconst dX12_buildOf_5 (by decide +kernel) ?_
  refine rx_by (e_stI _ _) (s_istore hZ.1 dX12_buildOf_6 (Nat.le_of_ble_eq_true rfl) ?_)
  refine rx_by (e_ldI _ _) (s_iload hZ.1 dX12_buildOf_8 ?_)
  refine rx_by (e_ldI _ _) (s_iload_n hZ.1 dX12_buildOf_10 rfl ?_)
  exact rx_by (e_lt2 _ _) (s_icmp_ge dX12_buildOf_11 (by decide) (kX12_buildOf_56 hZ) (s_none (pc := 14)))
noncomputable def fX12_buildOf : List Nat → rx_H → Option (Nat × rx_H) := rx_ent 5 bX12_buildOf_0
theorem met_X12_buildOf (hZ : zO b e D A X) : rx_Met (zV b e D A X) 1 yX12_buildOf mX12_buildOf fX12_buildOf := rx_entry hZ.1 (kX12_buildOf_0 hZ) (by decide +kernel) rfl (fun h => by cases h)
theorem zy_X12_buildOf : rx_Y (zV b e D A X) yX12_buildOf mX12_buildOf 2 := ⟨zw1560, zw413, by decide, by decide +kernel, by decide +kernel, by decide +kernel⟩
abbrev mX11_enter : rx_M := (RX11, cX11_enter, 5, none, false)
noncomputable def bX11_enter_115 : rx_K := o_ret0
set_option maxRecDepth 20000 in
theorem kX11_enter_115 (hZ : zO b e D A X) : rx_OK (zV b e D A X) mX11_enter 0 115 bX11_enter_115 := by
  unfold bX11_enter_115
  exact s_vret rfl dX11_enter_115
noncomputable def bX11_enter_6 : rx_K := q_ld q_isI 2 (q_ld q_isR 1 (q_getf 1 3 (q_lt2 o_none bX11_enter_115)))
set_option maxRecDepth 20000 in
theorem kX11_enter_6 (hZ : zO b e D A X) : rx_OK (zV b e D A X) mX11_enter 0 6 bX11_enter_6 := by
  unfold bX11_enter_6
  refine rx_by (e_ldI _ _) (s_iload_n hZ.1 dX11_enter_6 rfl ?_)
  refine rx_by (e_ldR _ _) (s_aload_n hZ.1 dX11_enter_7 rfl ?_)
  refine zg1_3 dX11_enter_8 zw1125 ?_
  exact rx_by (e_lt2 _ _) (s_icmp_ge dX11_enter_11 (by decide) (kX11_enter_115 hZ) (s_none (pc := 14)))
noncomputable def bX11_enter_0 : rx_K := o_const 0 (q_st q_isI 2 (q_ld q_isR 1 (o_nul bX11_enter_115 bX11_enter_6)))
set_option maxRecDepth 20000 in
theorem kX11_enter_0 (hZ : zO b e D A X) : rx_OK (zV b e D A X) mX11_enter 0 0 bX11_enter_0 := by
  unfold bX11_enter_0
  refine s_iconst dX11_enter_0 (by decide +kernel) ?_
  refine rx_by (e_stI _ _) (s_istore_n hZ.1 dX11_enter_1 rfl (Nat.le_of_ble_eq_true rfl) ?_)
  refine rx_by (e_ldR _ _) (s_aload_n hZ.1 dX11_enter_2 rfl ?_)
  exact s_ifnull dX11_enter_3 (by decide) (kX11_enter_115 hZ) (kX11_enter_6 hZ)
noncomputable def fX11_enter : List Nat → rx_H → Option (Nat × rx_H) := rx_ent 5 bX11_enter_0
theorem met_X11_enter (hZ : zO b e D A X) : rx_Met (zV b e D A X) 0 yX11_enter mX11_enter fX11_enter := rx_entry hZ.1 (kX11_enter_0 hZ) (by decide +kernel) rfl (fun h => by cases h)
theorem zy_X11_enter : rx_Y (zV b e D A X) yX11_enter mX11_enter 1 := ⟨zw1568, zw423, by decide, by decide +kernel, by decide +kernel, by decide +kernel⟩
end ZM1

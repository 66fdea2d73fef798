section ZQ2
variable {b : Nat} {e : Nat → Value} {D : va_G} {A : Nat → ClassId} {X : State → Prop}
noncomputable def bX5_clear_117 (j : Nat → rx_K) : rx_K := o_ret0
set_option maxRecDepth 20000 in
theorem kX5_clear_117 (hZ : zO b e D A X) (j : Nat → rx_K) (hj : ∀ k pc, [41][k]? = some pc → rx_OK (zV b e D A X) mX5_clear 1 pc (j k)) : rx_OK (zV b e D A X) mX5_clear 1 117 (bX5_clear_117 j) := by
  unfold bX5_clear_117
  exact s_vret rfl dX5_clear_117
noncomputable def bX5_clear_88 (j : Nat → rx_K) : rx_K := o_const 0 (q_st q_isI 3 (q_ld q_isI 3 (q_ld q_isI 2 (q_lt2 o_none (bX5_clear_117 j)))))
set_option maxRecDepth 20000 in
theorem kX5_clear_88 (hZ : zO b e D A X) (j : Nat → rx_K) (hj : ∀ k pc, [41][k]? = some pc → rx_OK (zV b e D A X) mX5_clear 1 pc (j k)) : rx_OK (zV b e D A X) mX5_clear 1 88 (bX5_clear_88 j) := by
  unfold bX5_clear_88
  refine s_iconst dX5_clear_88 (by decide +kernel) ?_
  refine rx_by (e_stI _ _) (s_istore_n hZ.1 dX5_clear_89 rfl (Nat.le_of_ble_eq_true rfl) ?_)
  refine rx_by (e_ldI _ _) (s_iload_n hZ.1 dX5_clear_90 rfl ?_)
  refine rx_by (e_ldI _ _) (s_iload_n hZ.1 dX5_clear_91 rfl ?_)
  exact rx_by (e_lt2 _ _) (s_icmp_ge dX5_clear_92 (by decide) (kX5_clear_117 hZ j hj) (s_none (pc := 95)))
noncomputable def bX5_clear_60 (j : Nat → rx_K) : rx_K := q_ld q_isR 0 (q_getf 5 17 (q_ld q_isI 3 (q_ld q_isI 2 (p_ast 0 (fun v => v) q_isI (q_ld q_isI 2 (q_ld q_isR 0 (q_getf 5 0 (q_getf 11 1 (q_ld q_isI 3 (q_ald 4 (q_getf 10 17 (q_bi q_Fadd (q_st q_isI 2 (q_inc 3 8 ((j 0))))))))))))))))
set_option maxRecDepth 20000 in
theorem kX5_clear_60 (hZ : zO b e D A X) (j : Nat → rx_K) (hj : ∀ k pc, [41][k]? = some pc → rx_OK (zV b e D A X) mX5_clear 1 pc (j k)) : rx_OK (zV b e D A X) mX5_clear 1 60 (bX5_clear_60 j) := by
  unfold bX5_clear_60
  refine rx_by (e_ldR _ _) (s_aload_n hZ.1 dX5_clear_60 rfl ?_)
  refine zg5_17 dX5_clear_61 zw1379 ?_
  refine rx_by (e_ldI _ _) (s_iload_n hZ.1 dX5_clear_64 rfl ?_)
  refine rx_by (e_ldI _ _) (s_iload_n hZ.1 dX5_clear_65 rfl ?_)
  refine rx_by2 (l_astI _ _ _) (s_iast hZ.1 (tt := 0) rfl dX5_clear_66 ?_)
  refine rx_by (e_ldI _ _) (s_iload_n hZ.1 dX5_clear_67 rfl ?_)
  refine rx_by (e_ldR _ _) (s_aload_n hZ.1 dX5_clear_68 rfl ?_)
  refine zg5_0 dX5_clear_69 zw1350 ?_
  refine zg11_1 dX5_clear_72 zw1253 ?_
  refine rx_by (e_ldI _ _) (s_iload_n hZ.1 dX5_clear_75 rfl ?_)
  refine rx_by (e_ald _ _) (s_aald (tt := 4) rfl rfl dX5_clear_76 ?_)
  refine zg10_17 dX5_clear_77 zw879 ?_
  refine rx_by (e_add _) (s_iadd dX5_clear_80 ?_)
  refine rx_by (e_stI _ _) (s_istore_n hZ.1 dX5_clear_81 rfl (Nat.le_of_ble_eq_true rfl) ?_)
  refine rx_by (e_inc (by decide +kernel) _) (s_iinc hZ.1 dX5_clear_82 (Nat.le_of_ble_eq_true rfl) ?_)
  exact s_goto dX5_clear_85 (by decide) (hj 0 41 rfl)
noncomputable def bX5_clear_52 (j : Nat → rx_K) : rx_K := q_ld q_isR 0 (q_getf 5 18 (o_alen 0 (q_gt1 (bX5_clear_60 j) (bX5_clear_88 j))))
set_option maxRecDepth 20000 in
theorem kX5_clear_52 (hZ : zO b e D A X) (j : Nat → rx_K) (hj : ∀ k pc, [41][k]? = some pc → rx_OK (zV b e D A X) mX5_clear 1 pc (j k)) : rx_OK (zV b e D A X) mX5_clear 1 52 (bX5_clear_52 j) := by
  unfold bX5_clear_52
  refine rx_by (e_ldR _ _) (s_aload_n hZ.1 dX5_clear_52 rfl ?_)
  refine zg5_18 dX5_clear_53 zw1380 ?_
  refine s_alen (tt := 0) rfl dX5_clear_56 ?_
  exact rx_by (e_gt1 _ _) (s_if_le dX5_clear_57 (by decide) (kX5_clear_88 hZ j hj) (kX5_clear_60 hZ j hj))
noncomputable def bX5_clear_41 (j : Nat → rx_K) : rx_K := q_ld q_isI 3 (q_ld q_isR 0 (q_getf 5 0 (q_getf 11 2 (q_lt2 (bX5_clear_52 j) (bX5_clear_88 j)))))
set_option maxRecDepth 20000 in
theorem kX5_clear_41 (hZ : zO b e D A X) (j : Nat → rx_K) (hj : ∀ k pc, [41][k]? = some pc → rx_OK (zV b e D A X) mX5_clear 1 pc (j k)) : rx_OK (zV b e D A X) mX5_clear 1 41 (bX5_clear_41 j) := by
  unfold bX5_clear_41
  refine rx_by (e_ldI _ _) (s_iload_n hZ.1 dX5_clear_41 rfl ?_)
  refine rx_by (e_ldR _ _) (s_aload_n hZ.1 dX5_clear_42 rfl ?_)
  refine zg5_0 dX5_clear_43 zw1350 ?_
  refine zg11_2 dX5_clear_46 zw1259 ?_
  exact rx_by (e_lt2 _ _) (s_icmp_ge dX5_clear_49 (by decide) (kX5_clear_88 hZ j hj) (kX5_clear_52 hZ j hj))
noncomputable def bX5_clear_38 (j : Nat → rx_K) : rx_K := q_st q_isI 2 (o_const 0 (q_st q_isI 3 ((bX5_clear_41 j))))
set_option maxRecDepth 20000 in
theorem kX5_clear_38 (hZ : zO b e D A X) (j : Nat → rx_K) (hj : ∀ k pc, [41][k]? = some pc → rx_OK (zV b e D A X) mX5_clear 1 pc (j k)) : rx_OK (zV b e D A X) mX5_clear 1 38 (bX5_clear_38 j) := by
  unfold bX5_clear_38
  refine rx_by (e_stI _ _) (s_istore_n hZ.1 dX5_clear_38 rfl (Nat.le_of_ble_eq_true rfl) ?_)
  refine s_iconst dX5_clear_39 (by decide +kernel) ?_
  refine rx_by (e_stI _ _) (s_istore_n hZ.1 dX5_clear_40 rfl (Nat.le_of_ble_eq_true rfl) ?_)
  exact (kX5_clear_41 hZ j hj)
noncomputable def bX5_clear_0 (j : Nat → rx_K) : rx_K := q_ld q_isR 0 (q_ld q_isR 1 (p_putf q_isR 5 0 (q_ld q_isR 0 (q_getf 5 1 (o_const 0 (o_callS 2 fJ7_fill_53178 (q_ld q_isR 0 (q_getf 5 1 (o_const 0 (o_const 32 (p_ast 0 (fun v => v) q_isI (q_ld q_isR 0 (q_getf 5 1 (o_const 8 (o_const 32 (p_ast 0 (fun v => v) q_isI (q_ld q_isR 0 (o_const 0 (p_putf q_isI 5 4 (q_ld q_isR 0 (o_const 0 (p_putf q_isI 5 6 (o_const 0 ((bX5_clear_38 j)))))))))))))))))))))))))
set_option maxRecDepth 20000 in
theorem kX5_clear_0 (hZ : zO b e D A X) (j : Nat → rx_K) (hj : ∀ k pc, [41][k]? = some pc → rx_OK (zV b e D A X) mX5_clear 1 pc (j k)) : rx_OK (zV b e D A X) mX5_clear 1 0 (bX5_clear_0 j) := by
  unfold bX5_clear_0
  refine rx_by (e_ldR _ _) (s_aload_n hZ.1 dX5_clear_0 rfl ?_)
  refine rx_by (e_ldR _ _) (s_aload_n hZ.1 dX5_clear_1 rfl ?_)
  refine zp5_0 hZ.1 dX5_clear_2 zw1350 ?_
  refine rx_by (e_ldR _ _) (s_aload_n hZ.1 dX5_clear_5 rfl ?_)
  refine zg5_1 dX5_clear_6 zw1351 ?_
  refine s_iconst dX5_clear_9 (by decide +kernel) ?_
  refine s_callS hZ.1 (met_J7_fill_53178 hZ) (by decide) zy_J7_fill_53178 zw1223 (Or.inl zw1601) dX5_clear_10 ?_
  refine rx_by (e_ldR _ _) (s_aload_n hZ.1 dX5_clear_13 rfl ?_)
  refine zg5_1 dX5_clear_14 zw1351 ?_
  refine s_iconst dX5_clear_17 (by decide +kernel) ?_
  refine s_iconst dX5_clear_18 (by decide +kernel) ?_
  refine rx_by2 (l_astI _ _ _) (s_iast hZ.1 (tt := 0) rfl dX5_clear_19 ?_)
  refine rx_by (e_ldR _ _) (s_aload_n hZ.1 dX5_clear_20 rfl ?_)
  refine zg5_1 dX5_clear_21 zw1351 ?_
  refine s_iconst dX5_clear_24 (by decide +kernel) ?_
  refine s_iconst dX5_clear_25 (by decide +kernel) ?_
  refine rx_by2 (l_astI _ _ _) (s_iast hZ.1 (tt := 0) rfl dX5_clear_26 ?_)
  refine rx_by (e_ldR _ _) (s_aload_n hZ.1 dX5_clear_27 rfl ?_)
  refine s_iconst dX5_clear_28 (by decide +kernel) ?_
  refine zp5_4 hZ.1 dX5_clear_29 zw1357 ?_
  refine rx_by (e_ldR _ _) (s_aload_n hZ.1 dX5_clear_32 rfl ?_)
  refine s_iconst dX5_clear_33 (by decide +kernel) ?_
  refine zp5_6 hZ.1 dX5_clear_34 zw1360 ?_
  refine s_iconst dX5_clear_37 (by decide +kernel) ?_
  exact (kX5_clear_38 hZ j hj)
noncomputable def hX5_clear (j : Nat → rx_K) : List rx_K := [bX5_clear_41 j]
theorem lX5_clear (hZ : zO b e D A X) : ∀ n k pc, [41][k]? = some pc → rx_OK (zV b e D A X) mX5_clear 1 pc (rx_J hX5_clear n k) := rx_loop fun j hj k pc h => by
  match k, h with
  | 0, h =>
    have e9 := Option.some.inj (show some 41 = some pc from h)
    subst e9
    exact kX5_clear_41 hZ j hj
  | _ + 1, h => exact absurd h (by simp)
noncomputable def fX5_clear : List Nat → rx_H → Option (Nat × rx_H) := rx_ent 4 (bX5_clear_0 (rx_J hX5_clear 1000000))
theorem met_X5_clear (hZ : zO b e D A X) : rx_Met (zV b e D A X) 1 yX5_clear mX5_clear fX5_clear := rx_entry hZ.1 (kX5_clear_0 hZ _ (lX5_clear hZ 1000000)) (by decide +kernel) rfl (fun h => by cases h)
theorem zy_X5_clear : rx_Y (zV b e D A X) yX5_clear mX5_clear 1 := ⟨zw1600, zw428, by decide, by decide +kernel, by decide +kernel, by decide +kernel⟩
noncomputable def bX6_clear_0 : rx_K := q_ld q_isR 0 (q_ld q_isR 1 (p_putf q_isR 6 0 (q_ld q_isR 0 (q_getf 6 1 (q_ld q_isR 1 (o_callV 1 5 fX5_clear (q_ld q_isR 0 (o_const 0 (p_putf q_isI 6 10 (q_ld q_isR 0 (o_const 0 (p_putf q_isI 6 12 (q_ld q_isR 0 (q_getf 6 13 (o_const 0 (o_callS 2 fJ7_fill_53178 (o_ret0)))))))))))))))))
set_option maxRecDepth 20000 in
theorem kX6_clear_0 (hZ : zO b e D A X) : rx_OK (zV b e D A X) mX6_clear 2 0 bX6_clear_0 := by
  unfold bX6_clear_0
  refine rx_by (e_ldR _ _) (s_aload_n hZ.1 dX6_clear_0 rfl ?_)
  refine rx_by (e_ldR _ _) (s_aload_n hZ.1 dX6_clear_1 rfl ?_)
  refine zp6_0 hZ.1 dX6_clear_2 zw1473 ?_
  refine rx_by (e_ldR _ _) (s_aload_n hZ.1 dX6_clear_5 rfl ?_)
  refine zg6_1 dX6_clear_6 zw1474 ?_
  refine rx_by (e_ldR _ _) (s_aload_n hZ.1 dX6_clear_9 rfl ?_)
  refine s_callV hZ.1 (met_X5_clear hZ) (by decide) zy_X5_clear zcl5 zw1598 zw1599 (Or.inl zw1597) dX6_clear_10 ?_
  refine rx_by (e_ldR _ _) (s_aload_n hZ.1 dX6_clear_13 rfl ?_)
  refine s_iconst dX6_clear_14 (by decide +kernel) ?_
  refine zp6_10 hZ.1 dX6_clear_15 zw1487 ?_
  refine rx_by (e_ldR _ _) (s_aload_n hZ.1 dX6_clear_18 rfl ?_)
  refine s_iconst dX6_clear_19 (by decide +kernel) ?_
  refine zp6_12 hZ.1 dX6_clear_20 zw1491 ?_
  refine rx_by (e_ldR _ _) (s_aload_n hZ.1 dX6_clear_23 rfl ?_)
  refine zg6_13 dX6_clear_24 zw1493 ?_
  refine s_iconst dX6_clear_27 (by decide +kernel) ?_
  refine s_callS hZ.1 (met_J7_fill_53178 hZ) (by decide) zy_J7_fill_53178 zw1223 (Or.inl zw1602) dX6_clear_28 ?_
  exact s_vret rfl dX6_clear_31
noncomputable def fX6_clear : List Nat → rx_H → Option (Nat × rx_H) := rx_ent 2 bX6_clear_0
theorem met_X6_clear (hZ : zO b e D A X) : rx_Met (zV b e D A X) 2 yX6_clear mX6_clear fX6_clear := rx_entry hZ.1 (kX6_clear_0 hZ) (by decide +kernel) rfl (fun h => by cases h)
theorem zy_X6_clear : rx_Y (zV b e D A X) yX6_clear mX6_clear 1 := ⟨zw1596, zw430, by decide, by decide +kernel, by decide +kernel, by decide +kernel⟩
noncomputable def bX12_init_226 (j : Nat → rx_K) : rx_K := q_ld q_isR 0 (q_getf 12 6 (o_const 34359738352 (o_callS 2 fJ7_fill_53178 (q_ld q_isR 0 (q_ld q_isR 0 (q_getf 12 13 (q_ld q_isR 0 (q_getf 12 6 (o_callV 2 12 fX12_gather (q_ld q_isR 0 (q_getf 12 20 (q_ld q_isR 0 (q_getf 12 13 (o_callV 1 6 fX6_clear (o_ret0)))))))))))))))
set_option maxRecDepth 20000 in
theorem kX12_init_226 (hZ : zO b e D A X) (j : Nat → rx_K) (hj : ∀ k pc, [181][k]? = some pc → rx_OK (zV b e D A X) mX12_init 5 pc (j k)) : rx_OK (zV b e D A X) mX12_init 5 226 (bX12_init_226 j) := by
  unfold bX12_init_226
  refine rx_by (e_ldR _ _) (s_aload_n hZ.1 dX12_init_226 rfl ?_)
  refine zg12_6 dX12_init_227 zw1609 ?_
  refine s_bipush dX12_init_230 (by decide +kernel) ?_
  refine s_callS hZ.1 (met_J7_fill_53178 hZ) (by decide) zy_J7_fill_53178 zw1223 (Or.inl zw1548) dX12_init_232 ?_
  refine rx_by (e_ldR _ _) (s_aload_n hZ.1 dX12_init_235 rfl ?_)
  refine rx_by (e_ldR _ _) (s_aload_n hZ.1 dX12_init_236 rfl ?_)
  refine zg12_13 dX12_init_237 zw1616 ?_
  refine rx_by (e_ldR _ _) (s_aload_n hZ.1 dX12_init_240 rfl ?_)
  refine zg12_6 dX12_init_241 zw1609 ?_
  refine s_callV hZ.1 (met_X12_gather hZ) (by decide) zy_X12_gather zcl12 zw1551 zw0 (Or.inl zw1549) dX12_init_244 ?_
  refine rx_by (e_ldR _ _) (s_aload_n hZ.1 dX12_init_247 rfl ?_)
  refine zg12_20 dX12_init_248 zw1623 ?_
  refine rx_by (e_ldR _ _) (s_aload_n hZ.1 dX12_init_251 rfl ?_)
  refine zg12_13 dX12_init_252 zw1616 ?_
  refine s_callV hZ.1 (met_X6_clear hZ) (by decide) zy_X6_clear zcl6 zw1594 zw1595 (Or.inl zw1593) dX12_init_255 ?_
  exact s_vret rfl dX12_init_258
noncomputable def bX12_init_190 (j : Nat → rx_K) : rx_K := q_ld q_isR 0 (q_getf 12 4 (q_ld q_isI 1 (p_new 1 18 zfs1 (q_dup (o_const 96 (o_const 3264 (o_const 32000 (o_const 5600 (o_const 7904 (o_const 38528 (o_callI 6 fX1_init (p_aast 6 1 (q_inc 1 8 ((j 0)))))))))))))))
set_option maxRecDepth 20000 in
theorem kX12_init_190 (hZ : zO b e D A X) (j : Nat → rx_K) (hj : ∀ k pc, [181][k]? = some pc → rx_OK (zV b e D A X) mX12_init 5 pc (j k)) : rx_OK (zV b e D A X) mX12_init 5 190 (bX12_init_190 j) := by
  unfold bX12_init_190
  refine rx_by (e_ldR _ _) (s_aload_n hZ.1 dX12_init_190 rfl ?_)
  refine zg12_4 dX12_init_191 zw1607 ?_
  refine rx_by (e_ldI _ _) (s_iload_n hZ.1 dX12_init_194 rfl ?_)
  refine rx_by2 (l_new _ _ _ _) (s_new zcl1 zfk1 dX12_init_195 zw442 zw753 zw424 ?_)
  refine rx_by (e_dup _) (s_dup hZ.1 dX12_init_198 ?_)
  refine s_bipush dX12_init_199 (by decide +kernel) ?_
  refine s_sipush dX12_init_201 (by decide +kernel) ?_
  refine s_sipush dX12_init_204 (by decide +kernel) ?_
  refine s_sipush dX12_init_207 (by decide +kernel) ?_
  refine s_sipush dX12_init_210 (by decide +kernel) ?_
  refine s_sipush dX12_init_213 (by decide +kernel) ?_
  refine s_callI hZ.1 (met_X1_init hZ) (by decide) zy_X1_init rfl rfl zw755 (Or.inl zw1547) dX12_init_216 ?_
  refine rx_by2 (l_aast _ _ _) (s_aast (tt := 6) rfl zaa1 dX12_init_219 ?_)
  refine rx_by (e_inc (by decide +kernel) _) (s_iinc hZ.1 dX12_init_220 (Nat.le_of_ble_eq_true rfl) ?_)
  exact s_goto dX12_init_223 (by decide) (hj 0 181 rfl)
noncomputable def bX12_init_181 (j : Nat → rx_K) : rx_K := q_ld q_isI 1 (q_ld q_isR 0 (q_getf 12 4 (o_alen 6 (q_lt2 (bX12_init_190 j) (bX12_init_226 j)))))
set_option maxRecDepth 20000 in
theorem kX12_init_181 (hZ : zO b e D A X) (j : Nat → rx_K) (hj : ∀ k pc, [181][k]? = some pc → rx_OK (zV b e D A X) mX12_init 5 pc (j k)) : rx_OK (zV b e D A X) mX12_init 5 181 (bX12_init_181 j) := by
  unfold bX12_init_181
  refine rx_by (e_ldI _ _) (s_iload_n hZ.1 dX12_init_181 rfl ?_)
  refine rx_by (e_ldR _ _) (s_aload_n hZ.1 dX12_init_182 rfl ?_)
  refine zg12_4 dX12_init_183 zw1607 ?_
  refine s_alen (tt := 6) rfl dX12_init_186 ?_
  exact rx_by (e_lt2 _ _) (s_icmp_ge dX12_init_187 (by decide) (kX12_init_226 hZ j hj) (kX12_init_190 hZ j hj))
noncomputable def bX12_init_149 (j : Nat → rx_K) : rx_K := o_const 118560 (p_newa 0 0 (p_putf q_isR 12 17 (q_ld q_isR 0 (p_new 2 10 zfs2 (q_dup (o_callI 0 fX2_init (p_putf q_isR 12 19 (q_ld q_isR 0 (p_new 6 20 zfs6 (q_dup (o_callI 0 fX6_init (p_putf q_isR 12 20 (o_const 0 (q_st q_isI 1 ((bX12_init_181 j))))))))))))))))
set_option maxRecDepth 20000 in
theorem kX12_init_149 (hZ : zO b e D A X) (j : Nat → rx_K) (hj : ∀ k pc, [181][k]? = some pc → rx_OK (zV b e D A X) mX12_init 5 pc (j k)) : rx_OK (zV b e D A X) mX12_init 5 149 (bX12_init_149 j) := by
  unfold bX12_init_149
  refine s_sipush dX12_init_149 (by decide +kernel) ?_
  refine rx_by2 (l_newa _ _ _) (s_newa (tt := 0) (ty := .int) rfl rfl rfl rfl rfl (by decide) zw527 dX12_init_152 ?_)
  refine zp12_17 hZ.1 rfl rfl dX12_init_154 zw1620 ?_
  refine rx_by (e_ldR _ _) (s_aload_n hZ.1 dX12_init_157 rfl ?_)
  refine rx_by2 (l_new _ _ _ _) (s_new zcl2 zfk2 dX12_init_158 zw1423 zw1424 zw429 ?_)
  refine rx_by (e_dup _) (s_dup hZ.1 dX12_init_161 ?_)
  refine s_callI hZ.1 (met_X2_init hZ) (by decide) zy_X2_init rfl rfl zw1426 (Or.inr ⟨_, zo_N1425 hZ⟩) dX12_init_162 ?_
  refine zp12_19 hZ.1 rfl rfl dX12_init_165 zw1622 ?_
  refine rx_by (e_ldR _ _) (s_aload_n hZ.1 dX12_init_168 rfl ?_)
  refine rx_by2 (l_new _ _ _ _) (s_new zcl6 zfk6 dX12_init_169 zw1463 zw1464 zw430 ?_)
  refine rx_by (e_dup _) (s_dup hZ.1 dX12_init_172 ?_)
  refine s_callI hZ.1 (met_X6_init hZ) (by decide) zy_X6_init rfl rfl zw1466 (Or.inr ⟨_, zo_N1465 hZ⟩) dX12_init_173 ?_
  refine zp12_20 hZ.1 rfl rfl dX12_init_176 zw1623 ?_
  refine s_iconst dX12_init_179 (by decide +kernel) ?_
  refine rx_by (e_stI _ _) (s_istore_n hZ.1 dX12_init_180 rfl (Nat.le_of_ble_eq_true rfl) ?_)
  exact (kX12_init_181 hZ j hj)
noncomputable def bX12_init_99 (j : Nat → rx_K) : rx_K := p_putf q_isI 12 12 (q_ld q_isR 0 (p_new 11 20 zfs11 (q_dup (o_callI 0 fX11_init (p_putf q_isR 12 13 (q_ld q_isR 0 (p_new 11 20 zfs11 (q_dup (o_callI 0 fX11_init (p_putf q_isR 12 14 (q_ld q_isR 0 (p_new 5 20 zfs5 (q_dup (o_const 0 (o_callI 1 fX5_init (p_putf q_isR 12 15 (q_ld q_isR 0 (p_new 5 20 zfs5 (q_dup (o_const 0 (o_callI 1 fX5_init (p_putf q_isR 12 16 (q_ld q_isR 0 ((bX12_init_149 j)))))))))))))))))))))))))
set_option maxRecDepth 20000 in
theorem kX12_init_99 (hZ : zO b e D A X) (j : Nat → rx_K) (hj : ∀ k pc, [181][k]? = some pc → rx_OK (zV b e D A X) mX12_init 5 pc (j k)) : rx_OK (zV b e D A X) mX12_init 5 99 (bX12_init_99 j) := by
  unfold bX12_init_99
  refine zp12_12 hZ.1 dX12_init_99 zw1615 ?_
  refine rx_by (e_ldR _ _) (s_aload_n hZ.1 dX12_init_102 rfl ?_)
  refine rx_by2 (l_new _ _ _ _) (s_new zcl11 zfk11 dX12_init_103 zw743 zw744 zw423 ?_)
  refine rx_by (e_dup _) (s_dup hZ.1 dX12_init_106 ?_)
  refine s_callI hZ.1 (met_X11_init hZ) (by decide) zy_X11_init rfl rfl zw746 (Or.inl zw745) dX12_init_107 ?_
  refine zp12_13 hZ.1 rfl rfl dX12_init_110 zw1616 ?_
  refine rx_by (e_ldR _ _) (s_aload_n hZ.1 dX12_init_113 rfl ?_)
  refine rx_by2 (l_new _ _ _ _) (s_new zcl11 zfk11 dX12_init_114 zw743 zw744 zw423 ?_)
  refine rx_by (e_dup _) (s_dup hZ.1 dX12_init_117 ?_)
  refine s_callI hZ.1 (met_X11_init hZ) (by decide) zy_X11_init rfl rfl zw746 (Or.inl zw745) dX12_init_118 ?_
  refine zp12_14 hZ.1 rfl rfl dX12_init_121 zw1617 ?_
  refine rx_by (e_ldR _ _) (s_aload_n hZ.1 dX12_init_124 rfl ?_)
  refine rx_by2 (l_new _ _ _ _) (s_new zcl5 zfk5 dX12_init_125 zw1343 zw1344 zw428 ?_)
  refine rx_by (e_dup _) (s_dup hZ.1 dX12_init_128 ?_)
  refine s_iconst dX12_init_129 (by decide +kernel) ?_
  refine s_callI hZ.1 (met_X5_init hZ) (by decide) zy_X5_init rfl rfl zw1346 (Or.inl zw1345) dX12_init_130 ?_
  refine zp12_15 hZ.1 rfl rfl dX12_init_133 zw1618 ?_
  refine rx_by (e_ldR _ _) (s_aload_n hZ.1 dX12_init_136 rfl ?_)
  refine rx_by2 (l_new _ _ _ _) (s_new zcl5 zfk5 dX12_init_137 zw1343 zw1344 zw428 ?_)
  refine rx_by (e_dup _) (s_dup hZ.1 dX12_init_140 ?_)
  refine s_iconst dX12_init_141 (by decide +kernel) ?_
  refine s_callI hZ.1 (met_X5_init hZ) (by decide) zy_X5_init rfl rfl zw1346 (Or.inl zw1345) dX12_init_142 ?_
  refine zp12_16 hZ.1 rfl rfl dX12_init_145 zw1619 ?_
  refine rx_by (e_ldR _ _) (s_aload_n hZ.1 dX12_init_148 rfl ?_)
  exact (kX12_init_149 hZ j hj)
noncomputable def bX12_init_47 (j : Nat → rx_K) : rx_K := p_newa 0 0 (p_putf q_isR 12 7 (q_ld q_isR 0 (p_new 9 15 zfs9 (q_dup (o_callI 0 fX9_init (p_putf q_isR 12 8 (q_ld q_isR 0 (p_new 4 4 zfs4 (q_dup (o_callI 0 fX4_init (p_putf q_isR 12 9 (q_ld q_isR 0 (p_new 0 17 zfs0 (q_dup (o_callI 0 fX0_init (p_putf q_isR 12 10 (q_ld q_isR 0 (p_new 3 7 zfs3 (q_dup (o_callI 0 fX3_init (p_putf q_isR 12 11 (q_ld q_isR 0 (o_const 34359738352 ((bX12_init_99 j)))))))))))))))))))))))))
set_option maxRecDepth 20000 in
theorem kX12_init_47 (hZ : zO b e D A X) (j : Nat → rx_K) (hj : ∀ k pc, [181][k]? = some pc → rx_OK (zV b e D A X) mX12_init 5 pc (j k)) : rx_OK (zV b e D A X) mX12_init 5 47 (bX12_init_47 j) := by
  unfold bX12_init_47
  refine rx_by2 (l_newa _ _ _) (s_newa (tt := 0) (ty := .int) rfl rfl rfl rfl rfl (by decide) zw527 dX12_init_47 ?_)
  refine zp12_7 hZ.1 rfl rfl dX12_init_49 zw1610 ?_
  refine rx_by (e_ldR _ _) (s_aload_n hZ.1 dX12_init_52 rfl ?_)
  refine rx_by2 (l_new _ _ _ _) (s_new zcl9 zfk9 dX12_init_53 zw444 zw445 zw414 ?_)
  refine rx_by (e_dup _) (s_dup hZ.1 dX12_init_56 ?_)
  refine s_callI hZ.1 (met_X9_init hZ) (by decide) zy_X9_init rfl rfl zw447 (Or.inl zw446) dX12_init_57 ?_
  refine zp12_8 hZ.1 rfl rfl dX12_init_60 zw1611 ?_
  refine rx_by (e_ldR _ _) (s_aload_n hZ.1 dX12_init_63 rfl ?_)
  refine rx_by2 (l_new _ _ _ _) (s_new zcl4 zfk4 dX12_init_64 zw632 zw633 zw420 ?_)
  refine rx_by (e_dup _) (s_dup hZ.1 dX12_init_67 ?_)
  refine s_callI hZ.1 (met_X4_init hZ) (by decide) zy_X4_init rfl rfl zw635 (Or.inr ⟨_, zo_N634 hZ⟩) dX12_init_68 ?_
  refine zp12_9 hZ.1 rfl rfl dX12_init_71 zw1612 ?_
  refine rx_by (e_ldR _ _) (s_aload_n hZ.1 dX12_init_74 rfl ?_)
  refine rx_by2 (l_new _ _ _ _) (s_new zcl0 zfk0 dX12_init_75 zw653 zw654 zw421 ?_)
  refine rx_by (e_dup _) (s_dup hZ.1 dX12_init_78 ?_)
  refine s_callI hZ.1 (met_X0_init hZ) (by decide) zy_X0_init rfl rfl zw656 (Or.inr ⟨_, zo_N655 hZ⟩) dX12_init_79 ?_
  refine zp12_10 hZ.1 rfl rfl dX12_init_82 zw1613 ?_
  refine rx_by (e_ldR _ _) (s_aload_n hZ.1 dX12_init_85 rfl ?_)
  refine rx_by2 (l_new _ _ _ _) (s_new zcl3 zfk3 dX12_init_86 zw715 zw716 zw422 ?_)
  refine rx_by (e_dup _) (s_dup hZ.1 dX12_init_89 ?_)
  refine s_callI hZ.1 (met_X3_init hZ) (by decide) zy_X3_init rfl rfl zw718 (Or.inr ⟨_, zo_N717 hZ⟩) dX12_init_90 ?_
  refine zp12_11 hZ.1 rfl rfl dX12_init_93 zw1614 ?_
  refine rx_by (e_ldR _ _) (s_aload_n hZ.1 dX12_init_96 rfl ?_)
  refine s_bipush dX12_init_97 (by decide +kernel) ?_
  exact (kX12_init_99 hZ j hj)
noncomputable def bX12_init_0 (j : Nat → rx_K) : rx_K := q_ld q_isR 0 (q_obj (q_ld q_isR 0 (o_const 32000 (p_newa 2 0 (p_putf q_isR 12 0 (q_ld q_isR 0 (o_const 4800 (p_newa 2 0 (p_putf q_isR 12 2 (q_ld q_isR 0 (o_const 136 (p_newa 6 3 (p_putf q_isR 12 4 (q_ld q_isR 0 (o_const 40 (p_newa 0 0 (p_putf q_isR 12 5 (q_ld q_isR 0 (o_const 40 (p_newa 0 0 (p_putf q_isR 12 6 (q_ld q_isR 0 (o_const 40 ((bX12_init_47 j)))))))))))))))))))))))))
set_option maxRecDepth 20000 in
theorem kX12_init_0 (hZ : zO b e D A X) (j : Nat → rx_K) (hj : ∀ k pc, [181][k]? = some pc → rx_OK (zV b e D A X) mX12_init 5 pc (j k)) : rx_OK (zV b e D A X) mX12_init 5 0 (bX12_init_0 j) := by
  unfold bX12_init_0
  refine rx_by (e_ldR _ _) (s_aload_n hZ.1 dX12_init_0 rfl ?_)
  refine rx_by (e_obj _) (s_obj hZ.1 (by decide) zw439 zw440 zw441 dX12_init_1 ?_)
  refine rx_by (e_ldR _ _) (s_aload_n hZ.1 dX12_init_4 rfl ?_)
  refine s_sipush dX12_init_5 (by decide +kernel) ?_
  refine rx_by2 (l_newa _ _ _) (s_newa (tt := 2) (ty := .byte) rfl rfl rfl rfl rfl (by decide) zw526 dX12_init_8 ?_)
  refine zp12_0 hZ.1 rfl rfl dX12_init_10 zw1603 ?_
  refine rx_by (e_ldR _ _) (s_aload_n hZ.1 dX12_init_13 rfl ?_)
  refine s_sipush dX12_init_14 (by decide +kernel) ?_
  refine rx_by2 (l_newa _ _ _) (s_newa (tt := 2) (ty := .byte) rfl rfl rfl rfl rfl (by decide) zw526 dX12_init_17 ?_)
  refine zp12_2 hZ.1 rfl rfl dX12_init_19 zw1605 ?_
  refine rx_by (e_ldR _ _) (s_aload_n hZ.1 dX12_init_22 rfl ?_)
  refine s_bipush dX12_init_23 (by decide +kernel) ?_
  refine rx_by2 (l_newa _ _ _) (s_anewa (tt := 6) rfl zw442 (zo_W6 hZ) dX12_init_25 ?_)
  refine zp12_4 hZ.1 rfl rfl dX12_init_28 zw1607 ?_
  refine rx_by (e_ldR _ _) (s_aload_n hZ.1 dX12_init_31 rfl ?_)
  refine s_iconst dX12_init_32 (by decide +kernel) ?_
  refine rx_by2 (l_newa _ _ _) (s_newa (tt := 0) (ty := .int) rfl rfl rfl rfl rfl (by decide) zw527 dX12_init_33 ?_)
  refine zp12_5 hZ.1 rfl rfl dX12_init_35 zw1608 ?_
  refine rx_by (e_ldR _ _) (s_aload_n hZ.1 dX12_init_38 rfl ?_)
  refine s_iconst dX12_init_39 (by decide +kernel) ?_
  refine rx_by2 (l_newa _ _ _) (s_newa (tt := 0) (ty := .int) rfl rfl rfl rfl rfl (by decide) zw527 dX12_init_40 ?_)
  refine zp12_6 hZ.1 rfl rfl dX12_init_42 zw1609 ?_
  refine rx_by (e_ldR _ _) (s_aload_n hZ.1 dX12_init_45 rfl ?_)
  refine s_iconst dX12_init_46 (by decide +kernel) ?_
  exact (kX12_init_47 hZ j hj)
noncomputable def hX12_init (j : Nat → rx_K) : List rx_K := [bX12_init_181 j]
theorem lX12_init (hZ : zO b e D A X) : ∀ n k pc, [181][k]? = some pc → rx_OK (zV b e D A X) mX12_init 5 pc (rx_J hX12_init n k) := rx_loop fun j hj k pc h => by
  match k, h with
  | 0, h =>
    have e9 := Option.some.inj (show some 181 = some pc from h)
    subst e9
    exact kX12_init_181 hZ j hj
  | _ + 1, h => exact absurd h (by simp)
noncomputable def fX12_init : List Nat → rx_H → Option (Nat × rx_H) := rx_ent 2 (bX12_init_0 (rx_J hX12_init 1000000))
theorem met_X12_init (hZ : zO b e D A X) : rx_Met (zV b e D A X) 5 yX12_init mX12_init fX12_init := rx_entry hZ.1 (kX12_init_0 hZ _ (lX12_init hZ 1000000)) (by decide +kernel) rfl (fun _ => rfl)
theorem zy_X12_init : rx_Y (zV b e D A X) yX12_init mX12_init 0 := ⟨zw438, zw413, by decide, by decide +kernel, by decide +kernel, by decide +kernel⟩
noncomputable def bX13_sym_66 : rx_K := o_ret1 rx_isI
set_option maxRecDepth 20000 in
theorem kX13_sym_66 (hZ : zO b e D A X) : rx_OK (zV b e D A X) mX13_sym 0 66 bX13_sym_66 := by
  unfold bX13_sym_66
  exact s_iret hZ.1 rfl dX13_sym_66
noncomputable def bX13_sym_12 : rx_K := q_ld q_isI 0 (o_const 776 (q_bi q_Fsub (o_const 8 (q_bi q_Fadd (bX13_sym_66)))))
set_option maxRecDepth 20000 in
theorem kX13_sym_12 (hZ : zO b e D A X) : rx_OK (zV b e D A X) mX13_sym 0 12 bX13_sym_12 := by
  unfold bX13_sym_12
  refine rx_by (e_ldI _ _) (s_iload_n hZ.1 dX13_sym_12 rfl ?_)
  refine s_bipush dX13_sym_13 (by decide +kernel) ?_
  refine rx_by (e_sub _) (s_isub dX13_sym_15 ?_)
  refine s_iconst dX13_sym_16 (by decide +kernel) ?_
  refine rx_by (e_add _) (s_iadd dX13_sym_17 ?_)
  exact s_goto dX13_sym_18 (by decide) (kX13_sym_66 hZ)
noncomputable def bX13_sym_6 : rx_K := q_ld q_isI 0 (o_const 976 (q_gt2 o_none bX13_sym_12))
set_option maxRecDepth 20000 in
theorem kX13_sym_6 (hZ : zO b e D A X) : rx_OK (zV b e D A X) mX13_sym 0 6 bX13_sym_6 := by
  unfold bX13_sym_6
  refine rx_by (e_ldI _ _) (s_iload_n hZ.1 dX13_sym_6 rfl ?_)
  refine s_bipush dX13_sym_7 (by decide +kernel) ?_
  exact rx_by (e_gt2 _ _) (s_icmp_gt dX13_sym_9 (by decide) (s_none (pc := 21)) (kX13_sym_12 hZ))
noncomputable def bX13_sym_0 : rx_K := q_ld q_isI 0 (o_const 776 (q_lt2 o_none bX13_sym_6))
set_option maxRecDepth 20000 in
theorem kX13_sym_0 (hZ : zO b e D A X) : rx_OK (zV b e D A X) mX13_sym 0 0 bX13_sym_0 := by
  unfold bX13_sym_0
  refine rx_by (e_ldI _ _) (s_iload_n hZ.1 dX13_sym_0 rfl ?_)
  refine s_bipush dX13_sym_1 (by decide +kernel) ?_
  exact rx_by (e_lt2 _ _) (s_icmp_lt dX13_sym_3 (by decide) (s_none (pc := 21)) (kX13_sym_6 hZ))
noncomputable def fX13_sym : List Nat → rx_H → Option (Nat × rx_H) := rx_ent 1 bX13_sym_0
theorem met_X13_sym (hZ : zO b e D A X) : rx_Met (zV b e D A X) 0 yX13_sym mX13_sym fX13_sym := rx_entry hZ.1 (kX13_sym_0 hZ) (by decide +kernel) rfl (fun h => by cases h)
theorem zy_X13_sym : rx_Y (zV b e D A X) yX13_sym mX13_sym 1 := ⟨zw2958, zw431, by decide, by decide +kernel, by decide +kernel, by decide +kernel⟩
noncomputable def bX13_wordTable_71 (j : Nat → rx_K) : rx_K := o_ret0
set_option maxRecDepth 20000 in
theorem kX13_wordTable_71 (hZ : zO b e D A X) (j : Nat → rx_K) (hj : ∀ k pc, [4][k]? = some pc → rx_OK (zV b e D A X) mX13_wordTable 4 pc (j k)) : rx_OK (zV b e D A X) mX13_wordTable 4 71 (bX13_wordTable_71 j) := by
  unfold bX13_wordTable_71
  exact s_vret rfl dX13_wordTable_71
noncomputable def bX13_wordTable_65 (j : Nat → rx_K) : rx_K := q_inc 3 8 ((j 0))
set_option maxRecDepth 20000 in
theorem kX13_wordTable_65 (hZ : zO b e D A X) (j : Nat → rx_K) (hj : ∀ k pc, [4][k]? = some pc → rx_OK (zV b e D A X) mX13_wordTable 4 pc (j k)) : rx_OK (zV b e D A X) mX13_wordTable 4 65 (bX13_wordTable_65 j) := by
  unfold bX13_wordTable_65
  refine rx_by (e_inc (by decide +kernel) _) (s_iinc hZ.1 dX13_wordTable_65 (Nat.le_of_ble_eq_true rfl) ?_)
  exact s_goto dX13_wordTable_68 (by decide) (hj 0 4 rfl)
noncomputable def bX13_wordTable_49 (j : Nat → rx_K) : rx_K := q_ld q_isL 1 (o_const 48 (o_bs (fun x y => x <<< (y.toInt64 &&& 63)) (o_const 516 (q_ld q_isI 3 (o_callX 1 64 fJ0_charAt_5068e (o_callS 1 fX13_sym (o_il (fun x => x.toInt64) (o_bl (fun x y => x ||| y) (o_stL 1 ((bX13_wordTable_65 j)))))))))))
set_option maxRecDepth 20000 in
theorem kX13_wordTable_49 (hZ : zO b e D A X) (j : Nat → rx_K) (hj : ∀ k pc, [4][k]? = some pc → rx_OK (zV b e D A X) mX13_wordTable 4 pc (j k)) : rx_OK (zV b e D A X) mX13_wordTable 4 49 (bX13_wordTable_49 j) := by
  unfold bX13_wordTable_49
  refine rx_by (e_ld _ _ _) (s_lload_n hZ.1 dX13_wordTable_49 rfl ?_)
  refine s_bipush dX13_wordTable_50 (by decide +kernel) ?_
  refine s_lshl dX13_wordTable_52 ?_
  refine s_ldcS (k := 64) (zo_R64 hZ) dX13_wordTable_53 ?_
  refine rx_by (e_ldI _ _) (s_iload_n hZ.1 dX13_wordTable_55 rfl ?_)
  refine s_callX hZ.1 (met_J0_charAt_5068e hZ) (by decide) zy_J0_charAt_5068e (zo_O64 hZ) zw541 zw542 zw2993 dX13_wordTable_56 ?_
  refine s_callS hZ.1 (met_X13_sym hZ) (by decide) zy_X13_sym zw2957 (Or.inl zw2956) dX13_wordTable_59 ?_
  refine s_i2l dX13_wordTable_62 ?_
  refine s_lor dX13_wordTable_63 ?_
  refine s_lstore_n hZ.1 dX13_wordTable_64 rfl (Nat.le_of_ble_eq_true rfl) ?_
  exact (kX13_wordTable_65 hZ j hj)
noncomputable def bX13_wordTable_24 (j : Nat → rx_K) : rx_K := q_ld q_isR 0 (q_getf 13 17 (q_ld q_isR 0 (q_getf 13 18 (q_ld q_isL 1 (p_ast 1 (fun v => v) q_isL (q_ld q_isR 0 (q_dup (q_getf 13 18 (o_const 8 (q_bi q_Fadd (p_putf q_isI 13 18 (o_const 1 (o_stL 1 ((bX13_wordTable_65 j)))))))))))))))
set_option maxRecDepth 20000 in
theorem kX13_wordTable_24 (hZ : zO b e D A X) (j : Nat → rx_K) (hj : ∀ k pc, [4][k]? = some pc → rx_OK (zV b e D A X) mX13_wordTable 4 pc (j k)) : rx_OK (zV b e D A X) mX13_wordTable 4 24 (bX13_wordTable_24 j) := by
  unfold bX13_wordTable_24
  refine rx_by (e_ldR _ _) (s_aload_n hZ.1 dX13_wordTable_24 rfl ?_)
  refine zg13_17 dX13_wordTable_25 zw4138 ?_
  refine rx_by (e_ldR _ _) (s_aload_n hZ.1 dX13_wordTable_28 rfl ?_)
  refine zg13_18 dX13_wordTable_29 zw4139 ?_
  refine rx_by (e_ld _ _ _) (s_lload_n hZ.1 dX13_wordTable_32 rfl ?_)
  refine rx_by2 (l_ast _ _ _ _) (s_last (tt := 1) rfl dX13_wordTable_33 ?_)
  refine rx_by (e_ldR _ _) (s_aload_n hZ.1 dX13_wordTable_34 rfl ?_)
  refine rx_by (e_dup _) (s_dup hZ.1 dX13_wordTable_35 ?_)
  refine zg13_18 dX13_wordTable_36 zw4139 ?_
  refine s_iconst dX13_wordTable_39 (by decide +kernel) ?_
  refine rx_by (e_add _) (s_iadd dX13_wordTable_40 ?_)
  refine zp13_18 hZ.1 dX13_wordTable_41 zw4139 ?_
  refine s_lconst dX13_wordTable_44 (by decide +kernel) ?_
  refine s_lstore_n hZ.1 dX13_wordTable_45 rfl (Nat.le_of_ble_eq_true rfl) ?_
  exact s_goto dX13_wordTable_46 (by decide) (kX13_wordTable_65 hZ j hj)
noncomputable def bX13_wordTable_13 (j : Nat → rx_K) : rx_K := o_const 516 (q_ld q_isI 3 (o_callX 1 64 fJ0_charAt_5068e (o_const 256 (q_eq2 (bX13_wordTable_24 j) (bX13_wordTable_49 j)))))
set_option maxRecDepth 20000 in
theorem kX13_wordTable_13 (hZ : zO b e D A X) (j : Nat → rx_K) (hj : ∀ k pc, [4][k]? = some pc → rx_OK (zV b e D A X) mX13_wordTable 4 pc (j k)) : rx_OK (zV b e D A X) mX13_wordTable 4 13 (bX13_wordTable_13 j) := by
  unfold bX13_wordTable_13
  refine s_ldcS (k := 64) (zo_R64 hZ) dX13_wordTable_13 ?_
  refine rx_by (e_ldI _ _) (s_iload_n hZ.1 dX13_wordTable_15 rfl ?_)
  refine s_callX hZ.1 (met_J0_charAt_5068e hZ) (by decide) zy_J0_charAt_5068e (zo_O64 hZ) zw541 zw542 zw2993 dX13_wordTable_16 ?_
  refine s_bipush dX13_wordTable_19 (by decide +kernel) ?_
  exact rx_by (e_eq2 _ _) (s_icmp_ne dX13_wordTable_21 (by decide) (kX13_wordTable_49 hZ j hj) (kX13_wordTable_24 hZ j hj))
noncomputable def bX13_wordTable_4 (j : Nat → rx_K) : rx_K := q_ld q_isI 3 (o_const 516 (o_callX 0 64 fJ0_length_8abf5 (q_lt2 (bX13_wordTable_13 j) (bX13_wordTable_71 j))))
set_option maxRecDepth 20000 in
theorem kX13_wordTable_4 (hZ : zO b e D A X) (j : Nat → rx_K) (hj : ∀ k pc, [4][k]? = some pc → rx_OK (zV b e D A X) mX13_wordTable 4 pc (j k)) : rx_OK (zV b e D A X) mX13_wordTable 4 4 (bX13_wordTable_4 j) := by
  unfold bX13_wordTable_4
  refine rx_by (e_ldI _ _) (s_iload_n hZ.1 dX13_wordTable_4 rfl ?_)
  refine s_ldcS (k := 64) (zo_R64 hZ) dX13_wordTable_5 ?_
  refine s_callX hZ.1 (met_J0_length_8abf5 hZ) (by decide) zy_J0_length_8abf5 (zo_O64 hZ) zw531 zw532 zw2992 dX13_wordTable_7 ?_
  exact rx_by (e_lt2 _ _) (s_icmp_ge dX13_wordTable_10 (by decide) (kX13_wordTable_71 hZ j hj) (kX13_wordTable_13 hZ j hj))
noncomputable def bX13_wordTable_0 (j : Nat → rx_K) : rx_K := o_const 1 (o_stL 1 (o_const 8 (q_st q_isI 3 ((bX13_wordTable_4 j)))))
set_option maxRecDepth 20000 in
theorem kX13_wordTable_0 (hZ : zO b e D A X) (j : Nat → rx_K) (hj : ∀ k pc, [4][k]? = some pc → rx_OK (zV b e D A X) mX13_wordTable 4 pc (j k)) : rx_OK (zV b e D A X) mX13_wordTable 4 0 (bX13_wordTable_0 j) := by
  unfold bX13_wordTable_0
  refine s_lconst dX13_wordTable_0 (by decide +kernel) ?_
  refine s_lstore_n hZ.1 dX13_wordTable_1 rfl (Nat.le_of_ble_eq_true rfl) ?_
  refine s_iconst dX13_wordTable_2 (by decide +kernel) ?_
  refine rx_by (e_stI _ _) (s_istore_n hZ.1 dX13_wordTable_3 rfl (Nat.le_of_ble_eq_true rfl) ?_)
  exact (kX13_wordTable_4 hZ j hj)
noncomputable def hX13_wordTable (j : Nat → rx_K) : List rx_K := [bX13_wordTable_4 j]
theorem lX13_wordTable (hZ : zO b e D A X) : ∀ n k pc, [4][k]? = some pc → rx_OK (zV b e D A X) mX13_wordTable 4 pc (rx_J hX13_wordTable n k) := rx_loop fun j hj k pc h => by
  match k, h with
  | 0, h =>
    have e9 := Option.some.inj (show some 4 = some pc from h)
    subst e9
    exact kX13_wordTable_4 hZ j hj
  | _ + 1, h => exact absurd h (by simp)
noncomputable def fX13_wordTable : List Nat → rx_H → Option (Nat × rx_H) := rx_ent 4 (bX13_wordTable_0 (rx_J hX13_wordTable 1000000))
theorem met_X13_wordTable (hZ : zO b e D A X) : rx_Met (zV b e D A X) 4 yX13_wordTable mX13_wordTable fX13_wordTable := rx_entry hZ.1 (kX13_wordTable_0 hZ _ (lX13_wordTable hZ 1000000)) (by decide +kernel) rfl (fun h => by cases h)
theorem zy_X13_wordTable : rx_Y (zV b e D A X) yX13_wordTable mX13_wordTable 0 := ⟨zw4114, zw431, by decide, by decide +kernel, by decide +kernel, by decide +kernel⟩
noncomputable def bX13_newMember_104 : rx_K := q_ld q_isI 1 (o_const 1 (p_ast 1 (fun v => v) q_isL (q_ld q_isR 0 (q_getf 13 67 (q_ld q_isI 1 (o_const 34359738352 (p_ast 0 (fun v => v) q_isI (q_ld q_isR 0 (q_getf 13 68 (q_ld q_isI 1 (o_const 0 (p_ast 0 (fun v => v) q_isI (o_ret0)))))))))))))
set_option maxRecDepth 20000 in
theorem kX13_newMember_104 (hZ : zO b e D A X) : rx_OK (zV b e D A X) mX13_newMember 0 104 bX13_newMember_104 := by
  unfold bX13_newMember_104
  refine rx_by (e_ldI _ _) (s_iload_n hZ.1 dX13_newMember_104 rfl ?_)
  refine s_lconst dX13_newMember_105 (by decide +kernel) ?_
  refine rx_by2 (l_ast _ _ _ _) (s_last (tt := 1) rfl dX13_newMember_106 ?_)
  refine rx_by (e_ldR _ _) (s_aload_n hZ.1 dX13_newMember_107 rfl ?_)
  refine zg13_67 dX13_newMember_108 zw4188 ?_
  refine rx_by (e_ldI _ _) (s_iload_n hZ.1 dX13_newMember_111 rfl ?_)
  refine s_bipush dX13_newMember_112 (by decide +kernel) ?_
  refine rx_by2 (l_astI _ _ _) (s_iast hZ.1 (tt := 0) rfl dX13_newMember_114 ?_)
  refine rx_by (e_ldR _ _) (s_aload_n hZ.1 dX13_newMember_115 rfl ?_)
  refine zg13_68 dX13_newMember_116 zw4189 ?_
  refine rx_by (e_ldI _ _) (s_iload_n hZ.1 dX13_newMember_119 rfl ?_)
  refine s_iconst dX13_newMember_120 (by decide +kernel) ?_
  refine rx_by2 (l_astI _ _ _) (s_iast hZ.1 (tt := 0) rfl dX13_newMember_121 ?_)
  exact s_vret rfl dX13_newMember_122
noncomputable def bX13_newMember_69 : rx_K := o_const 34359738352 (p_ast 0 (fun v => v) q_isI (q_ld q_isR 0 (q_getf 13 62 (q_ld q_isI 1 (o_const 0 (p_ast 0 (fun v => v) q_isI (q_ld q_isR 0 (q_getf 13 63 (q_ld q_isI 1 (o_const 0 (p_ast 0 (fun v => v) q_isI (q_ld q_isR 0 (q_getf 13 64 (q_ld q_isI 1 (o_const 0 (p_ast 3 (fun v => v) rx_isZ (q_ld q_isR 0 (q_getf 13 65 (q_ld q_isI 1 (o_const 0 (p_ast 0 (fun v => v) q_isI (q_ld q_isR 0 (q_getf 13 66 (bX13_newMember_104))))))))))))))))))))))))
set_option maxRecDepth 20000 in
theorem kX13_newMember_69 (hZ : zO b e D A X) : rx_OK (zV b e D A X) mX13_newMember 0 69 bX13_newMember_69 := by
  unfold bX13_newMember_69
  refine s_bipush dX13_newMember_69 (by decide +kernel) ?_
  refine rx_by2 (l_astI _ _ _) (s_iast hZ.1 (tt := 0) rfl dX13_newMember_71 ?_)
  refine rx_by (e_ldR _ _) (s_aload_n hZ.1 dX13_newMember_72 rfl ?_)
  refine zg13_62 dX13_newMember_73 zw4183 ?_
  refine rx_by (e_ldI _ _) (s_iload_n hZ.1 dX13_newMember_76 rfl ?_)
  refine s_iconst dX13_newMember_77 (by decide +kernel) ?_
  refine rx_by2 (l_astI _ _ _) (s_iast hZ.1 (tt := 0) rfl dX13_newMember_78 ?_)
  refine rx_by (e_ldR _ _) (s_aload_n hZ.1 dX13_newMember_79 rfl ?_)
  refine zg13_63 dX13_newMember_80 zw4184 ?_
  refine rx_by (e_ldI _ _) (s_iload_n hZ.1 dX13_newMember_83 rfl ?_)
  refine s_iconst dX13_newMember_84 (by decide +kernel) ?_
  refine rx_by2 (l_astI _ _ _) (s_iast hZ.1 (tt := 0) rfl dX13_newMember_85 ?_)
  refine rx_by (e_ldR _ _) (s_aload_n hZ.1 dX13_newMember_86 rfl ?_)
  refine zg13_64 dX13_newMember_87 zw4185 ?_
  refine rx_by (e_ldI _ _) (s_iload_n hZ.1 dX13_newMember_90 rfl ?_)
  refine s_iconst dX13_newMember_91 (by decide +kernel) ?_
  refine rx_by2 (l_ast _ _ _ _) (s_zast (tt := 3) rfl dX13_newMember_92 ?_)
  refine rx_by (e_ldR _ _) (s_aload_n hZ.1 dX13_newMember_93 rfl ?_)
  refine zg13_65 dX13_newMember_94 zw4186 ?_
  refine rx_by (e_ldI _ _) (s_iload_n hZ.1 dX13_newMember_97 rfl ?_)
  refine s_iconst dX13_newMember_98 (by decide +kernel) ?_
  refine rx_by2 (l_astI _ _ _) (s_iast hZ.1 (tt := 0) rfl dX13_newMember_99 ?_)
  refine rx_by (e_ldR _ _) (s_aload_n hZ.1 dX13_newMember_100 rfl ?_)
  refine zg13_66 dX13_newMember_101 zw4187 ?_
  exact (kX13_newMember_104 hZ)
noncomputable def bX13_newMember_34 : rx_K := p_ast 3 (fun v => v) rx_isZ (q_ld q_isR 0 (q_getf 13 51 (q_ld q_isI 1 (o_const 1 (p_ast 1 (fun v => v) q_isL (q_ld q_isR 0 (q_getf 13 53 (q_ld q_isI 1 (o_const 9 (p_ast 1 (fun v => v) q_isL (q_ld q_isR 0 (q_getf 13 55 (q_ld q_isI 1 (o_const 0 (p_ast 0 (fun v => v) q_isI (q_ld q_isR 0 (q_getf 13 60 (q_ld q_isI 1 (o_const 34359738352 (p_ast 0 (fun v => v) q_isI (q_ld q_isR 0 (q_getf 13 61 (q_ld q_isI 1 (bX13_newMember_69))))))))))))))))))))))))
set_option maxRecDepth 20000 in
theorem kX13_newMember_34 (hZ : zO b e D A X) : rx_OK (zV b e D A X) mX13_newMember 0 34 bX13_newMember_34 := by
  unfold bX13_newMember_34
  refine rx_by2 (l_ast _ _ _ _) (s_zast (tt := 3) rfl dX13_newMember_34 ?_)
  refine rx_by (e_ldR _ _) (s_aload_n hZ.1 dX13_newMember_35 rfl ?_)
  refine zg13_51 dX13_newMember_36 zw4172 ?_
  refine rx_by (e_ldI _ _) (s_iload_n hZ.1 dX13_newMember_39 rfl ?_)
  refine s_lconst dX13_newMember_40 (by decide +kernel) ?_
  refine rx_by2 (l_ast _ _ _ _) (s_last (tt := 1) rfl dX13_newMember_41 ?_)
  refine rx_by (e_ldR _ _) (s_aload_n hZ.1 dX13_newMember_42 rfl ?_)
  refine zg13_53 dX13_newMember_43 zw4174 ?_
  refine rx_by (e_ldI _ _) (s_iload_n hZ.1 dX13_newMember_46 rfl ?_)
  refine s_lconst dX13_newMember_47 (by decide +kernel) ?_
  refine rx_by2 (l_ast _ _ _ _) (s_last (tt := 1) rfl dX13_newMember_48 ?_)
  refine rx_by (e_ldR _ _) (s_aload_n hZ.1 dX13_newMember_49 rfl ?_)
  refine zg13_55 dX13_newMember_50 zw4176 ?_
  refine rx_by (e_ldI _ _) (s_iload_n hZ.1 dX13_newMember_53 rfl ?_)
  refine s_iconst dX13_newMember_54 (by decide +kernel) ?_
  refine rx_by2 (l_astI _ _ _) (s_iast hZ.1 (tt := 0) rfl dX13_newMember_55 ?_)
  refine rx_by (e_ldR _ _) (s_aload_n hZ.1 dX13_newMember_56 rfl ?_)
  refine zg13_60 dX13_newMember_57 zw4181 ?_
  refine rx_by (e_ldI _ _) (s_iload_n hZ.1 dX13_newMember_60 rfl ?_)
  refine s_bipush dX13_newMember_61 (by decide +kernel) ?_
  refine rx_by2 (l_astI _ _ _) (s_iast hZ.1 (tt := 0) rfl dX13_newMember_63 ?_)
  refine rx_by (e_ldR _ _) (s_aload_n hZ.1 dX13_newMember_64 rfl ?_)
  refine zg13_61 dX13_newMember_65 zw4182 ?_
  refine rx_by (e_ldI _ _) (s_iload_n hZ.1 dX13_newMember_68 rfl ?_)
  exact (kX13_newMember_69 hZ)
noncomputable def bX13_newMember_0 : rx_K := q_ld q_isR 0 (q_getf 13 45 (q_ld q_isI 1 (o_const 0 (p_ast 3 (fun v => v) rx_isZ (q_ld q_isR 0 (q_getf 13 46 (q_ld q_isI 1 (o_const 0 (p_ast 3 (fun v => v) rx_isZ (q_ld q_isR 0 (q_getf 13 48 (q_ld q_isI 1 (o_const 0 (p_ast 3 (fun v => v) rx_isZ (q_ld q_isR 0 (q_getf 13 49 (q_ld q_isI 1 (o_const 0 (p_ast 3 (fun v => v) rx_isZ (q_ld q_isR 0 (q_getf 13 50 (q_ld q_isI 1 (o_const 0 (bX13_newMember_34))))))))))))))))))))))))
set_option maxRecDepth 20000 in
theorem kX13_newMember_0 (hZ : zO b e D A X) : rx_OK (zV b e D A X) mX13_newMember 0 0 bX13_newMember_0 := by
  unfold bX13_newMember_0
  refine rx_by (e_ldR _ _) (s_aload_n hZ.1 dX13_newMember_0 rfl ?_)
  refine zg13_45 dX13_newMember_1 zw4166 ?_
  refine rx_by (e_ldI _ _) (s_iload_n hZ.1 dX13_newMember_4 rfl ?_)
  refine s_iconst dX13_newMember_5 (by decide +kernel) ?_
  refine rx_by2 (l_ast _ _ _ _) (s_zast (tt := 3) rfl dX13_newMember_6 ?_)
  refine rx_by (e_ldR _ _) (s_aload_n hZ.1 dX13_newMember_7 rfl ?_)
  refine zg13_46 dX13_newMember_8 zw4167 ?_
  refine rx_by (e_ldI _ _) (s_iload_n hZ.1 dX13_newMember_11 rfl ?_)
  refine s_iconst dX13_newMember_12 (by decide +kernel) ?_
  refine rx_by2 (l_ast _ _ _ _) (s_zast (tt := 3) rfl dX13_newMember_13 ?_)
  refine rx_by (e_ldR _ _) (s_aload_n hZ.1 dX13_newMember_14 rfl ?_)
  refine zg13_48 dX13_newMember_15 zw4169 ?_
  refine rx_by (e_ldI _ _) (s_iload_n hZ.1 dX13_newMember_18 rfl ?_)
  refine s_iconst dX13_newMember_19 (by decide +kernel) ?_
  refine rx_by2 (l_ast _ _ _ _) (s_zast (tt := 3) rfl dX13_newMember_20 ?_)
  refine rx_by (e_ldR _ _) (s_aload_n hZ.1 dX13_newMember_21 rfl ?_)
  refine zg13_49 dX13_newMember_22 zw4170 ?_
  refine rx_by (e_ldI _ _) (s_iload_n hZ.1 dX13_newMember_25 rfl ?_)
  refine s_iconst dX13_newMember_26 (by decide +kernel) ?_
  refine rx_by2 (l_ast _ _ _ _) (s_zast (tt := 3) rfl dX13_newMember_27 ?_)
  refine rx_by (e_ldR _ _) (s_aload_n hZ.1 dX13_newMember_28 rfl ?_)
  refine zg13_50 dX13_newMember_29 zw4171 ?_
  refine rx_by (e_ldI _ _) (s_iload_n hZ.1 dX13_newMember_32 rfl ?_)
  refine s_iconst dX13_newMember_33 (by decide +kernel) ?_
  exact (kX13_newMember_34 hZ)
noncomputable def fX13_newMember : List Nat → rx_H → Option (Nat × rx_H) := rx_ent 2 bX13_newMember_0
theorem met_X13_newMember (hZ : zO b e D A X) : rx_Met (zV b e D A X) 0 yX13_newMember mX13_newMember fX13_newMember := rx_entry hZ.1 (kX13_newMember_0 hZ) (by decide +kernel) rfl (fun h => by cases h)
theorem zy_X13_newMember : rx_Y (zV b e D A X) yX13_newMember mX13_newMember 1 := ⟨zw3057, zw431, by decide, by decide +kernel, by decide +kernel, by decide +kernel⟩
noncomputable def bX13_nameOf_33 (j : Nat → rx_K) : rx_K := q_ld q_isL 1 (o_ret1 rx_isL)
set_option maxRecDepth 20000 in
theorem kX13_nameOf_33 (hZ : zO b e D A X) (j : Nat → rx_K) (hj : ∀ k pc, [4][k]? = some pc → rx_OK (zV b e D A X) mX13_nameOf 4 pc (j k)) : rx_OK (zV b e D A X) mX13_nameOf 4 33 (bX13_nameOf_33 j) := by
  unfold bX13_nameOf_33
  refine rx_by (e_ld _ _ _) (s_lload_n hZ.1 dX13_nameOf_33 rfl ?_)
  exact s_lret rfl dX13_nameOf_34
noncomputable def bX13_nameOf_12 (j : Nat → rx_K) : rx_K := q_ld q_isL 1 (o_const 48 (o_bs (fun x y => x <<< (y.toInt64 &&& 63)) (q_ld q_isR 0 (q_ld q_isI 3 (o_callX 1 122 fJ0_charAt_5068e (o_callS 1 fX13_sym (o_il (fun x => x.toInt64) (o_bl (fun x y => x ||| y) (o_stL 1 (q_inc 3 8 ((j 0))))))))))))
set_option maxRecDepth 20000 in
theorem kX13_nameOf_12 (hZ : zO b e D A X) (j : Nat → rx_K) (hj : ∀ k pc, [4][k]? = some pc → rx_OK (zV b e D A X) mX13_nameOf 4 pc (j k)) : rx_OK (zV b e D A X) mX13_nameOf 4 12 (bX13_nameOf_12 j) := by
  unfold bX13_nameOf_12
  refine rx_by (e_ld _ _ _) (s_lload_n hZ.1 dX13_nameOf_12 rfl ?_)
  refine s_bipush dX13_nameOf_13 (by decide +kernel) ?_
  refine s_lshl dX13_nameOf_15 ?_
  refine rx_by (e_ldR _ _) (s_aload_n hZ.1 dX13_nameOf_16 rfl ?_)
  refine rx_by (e_ldI _ _) (s_iload_n hZ.1 dX13_nameOf_17 rfl ?_)
  refine s_callX hZ.1 (met_J0_charAt_5068e hZ) (by decide) zy_J0_charAt_5068e (zo_O122 hZ) zw541 zw542 zw2993 dX13_nameOf_18 ?_
  refine s_callS hZ.1 (met_X13_sym hZ) (by decide) zy_X13_sym zw2957 (Or.inl zw2956) dX13_nameOf_21 ?_
  refine s_i2l dX13_nameOf_24 ?_
  refine s_lor dX13_nameOf_25 ?_
  refine s_lstore_n hZ.1 dX13_nameOf_26 rfl (Nat.le_of_ble_eq_true rfl) ?_
  refine rx_by (e_inc (by decide +kernel) _) (s_iinc hZ.1 dX13_nameOf_27 (Nat.le_of_ble_eq_true rfl) ?_)
  exact s_goto dX13_nameOf_30 (by decide) (hj 0 4 rfl)
noncomputable def bX13_nameOf_4 (j : Nat → rx_K) : rx_K := q_ld q_isI 3 (q_ld q_isR 0 (o_callX 0 122 fJ0_length_8abf5 (q_lt2 (bX13_nameOf_12 j) (bX13_nameOf_33 j))))
set_option maxRecDepth 20000 in
theorem kX13_nameOf_4 (hZ : zO b e D A X) (j : Nat → rx_K) (hj : ∀ k pc, [4][k]? = some pc → rx_OK (zV b e D A X) mX13_nameOf 4 pc (j k)) : rx_OK (zV b e D A X) mX13_nameOf 4 4 (bX13_nameOf_4 j) := by
  unfold bX13_nameOf_4
  refine rx_by (e_ldI _ _) (s_iload_n hZ.1 dX13_nameOf_4 rfl ?_)
  refine rx_by (e_ldR _ _) (s_aload_n hZ.1 dX13_nameOf_5 rfl ?_)
  refine s_callX hZ.1 (met_J0_length_8abf5 hZ) (by decide) zy_J0_length_8abf5 (zo_O122 hZ) zw531 zw532 zw2992 dX13_nameOf_6 ?_
  exact rx_by (e_lt2 _ _) (s_icmp_ge dX13_nameOf_9 (by decide) (kX13_nameOf_33 hZ j hj) (kX13_nameOf_12 hZ j hj))
noncomputable def bX13_nameOf_0 (j : Nat → rx_K) : rx_K := o_const 1 (o_stL 1 (o_const 0 (q_st q_isI 3 ((bX13_nameOf_4 j)))))
set_option maxRecDepth 20000 in
theorem kX13_nameOf_0 (hZ : zO b e D A X) (j : Nat → rx_K) (hj : ∀ k pc, [4][k]? = some pc → rx_OK (zV b e D A X) mX13_nameOf 4 pc (j k)) : rx_OK (zV b e D A X) mX13_nameOf 4 0 (bX13_nameOf_0 j) := by
  unfold bX13_nameOf_0
  refine s_lconst dX13_nameOf_0 (by decide +kernel) ?_
  refine s_lstore_n hZ.1 dX13_nameOf_1 rfl (Nat.le_of_ble_eq_true rfl) ?_
  refine s_iconst dX13_nameOf_2 (by decide +kernel) ?_
  refine rx_by (e_stI _ _) (s_istore_n hZ.1 dX13_nameOf_3 rfl (Nat.le_of_ble_eq_true rfl) ?_)
  exact (kX13_nameOf_4 hZ j hj)
noncomputable def hX13_nameOf (j : Nat → rx_K) : List rx_K := [bX13_nameOf_4 j]
theorem lX13_nameOf (hZ : zO b e D A X) : ∀ n k pc, [4][k]? = some pc → rx_OK (zV b e D A X) mX13_nameOf 4 pc (rx_J hX13_nameOf n k) := rx_loop fun j hj k pc h => by
  match k, h with
  | 0, h =>
    have e9 := Option.some.inj (show some 4 = some pc from h)
    subst e9
    exact kX13_nameOf_4 hZ j hj
  | _ + 1, h => exact absurd h (by simp)
noncomputable def fX13_nameOf : List Nat → rx_H → Option (Nat × rx_H) := rx_ent 4 (bX13_nameOf_0 (rx_J hX13_nameOf 1000000))
theorem met_X13_nameOf (hZ : zO b e D A X) : rx_Met (zV b e D A X) 4 yX13_nameOf mX13_nameOf fX13_nameOf := rx_entry hZ.1 (kX13_nameOf_0 hZ _ (lX13_nameOf hZ 1000000)) (by decide +kernel) rfl (fun h => by cases h)
theorem zy_X13_nameOf : rx_Y (zV b e D A X) yX13_nameOf mX13_nameOf 1 := ⟨zw2991, zw431, by decide, by decide +kernel, by decide +kernel, by decide +kernel⟩
noncomputable def bX13_given_165 (j : Nat → rx_K) : rx_K := q_ld q_isR 0 (o_const 58744 (o_callV 1 13 fX13_newMember (q_ld q_isR 0 (q_getf 13 42 (o_const 58744 (o_const 8 (p_ast 0 (fun v => v) q_isI (o_ret0))))))))
set_option maxRecDepth 20000 in
theorem kX13_given_165 (hZ : zO b e D A X) (j : Nat → rx_K) (hj : ∀ k pc, [10][k]? = some pc → rx_OK (zV b e D A X) mX13_given 5 pc (j k)) : rx_OK (zV b e D A X) mX13_given 5 165 (bX13_given_165 j) := by
  unfold bX13_given_165
  refine rx_by (e_ldR _ _) (s_aload_n hZ.1 dX13_given_165 rfl ?_)
  refine s_sipush dX13_given_166 (by decide +kernel) ?_
  refine s_callV hZ.1 (met_X13_newMember hZ) (by decide) zy_X13_newMember zcl13 zw3056 zw199 (Or.inl zw3054) dX13_given_169 ?_
  refine rx_by (e_ldR _ _) (s_aload_n hZ.1 dX13_given_172 rfl ?_)
  refine zg13_42 dX13_given_173 zw4163 ?_
  refine s_sipush dX13_given_176 (by decide +kernel) ?_
  refine s_iconst dX13_given_179 (by decide +kernel) ?_
  refine rx_by2 (l_astI _ _ _) (s_iast hZ.1 (tt := 0) rfl dX13_given_180 ?_)
  exact s_vret rfl dX13_given_181
noncomputable def bX13_given_153 (j : Nat → rx_K) : rx_K := q_ld q_isI 2 (o_dup2 (q_ald 0 (o_const 8 (q_bi q_Fadd (p_ast 0 (fun v => v) q_isI (q_inc 1 8 ((j 0))))))))
set_option maxRecDepth 20000 in
theorem kX13_given_153 (hZ : zO b e D A X) (j : Nat → rx_K) (hj : ∀ k pc, [10][k]? = some pc → rx_OK (zV b e D A X) mX13_given 5 pc (j k)) : rx_OK (zV b e D A X) mX13_given 5 153 (bX13_given_153 j) := by
  unfold bX13_given_153
  refine rx_by (e_ldI _ _) (s_iload_n hZ.1 dX13_given_153 rfl ?_)
  refine s_dup2 hZ.1 dX13_given_154 ?_
  refine rx_by (e_ald _ _) (s_iald (tt := 0) rfl dX13_given_155 ?_)
  refine s_iconst dX13_given_156 (by decide +kernel) ?_
  refine rx_by (e_add _) (s_iadd dX13_given_157 ?_)
  refine rx_by2 (l_astI _ _ _) (s_iast hZ.1 (tt := 0) rfl dX13_given_158 ?_)
  refine rx_by (e_inc (by decide +kernel) _) (s_iinc hZ.1 dX13_given_159 (Nat.le_of_ble_eq_true rfl) ?_)
  exact s_goto dX13_given_162 (by decide) (hj 0 10 rfl)
noncomputable def bX13_given_118 (j : Nat → rx_K) : rx_K := q_ld q_isI 2 (o_const 272 (q_bi q_Fmul (q_ld q_isR 0 (q_getf 13 41 (q_ld q_isI 2 (q_ald 0 (q_bi q_Fadd (q_st q_isI 3 (q_ld q_isR 0 (q_ld q_isI 3 (o_callV 1 13 fX13_newMember (q_ld q_isR 0 (q_getf 13 42 (q_ld q_isI 3 (o_const 16 (p_ast 0 (fun v => v) q_isI (q_ld q_isR 0 (q_getf 13 44 (q_ld q_isI 3 (o_const 24 (p_ast 0 (fun v => v) q_isI (q_ld q_isR 0 (q_getf 13 41 ((bX13_given_153 j)))))))))))))))))))))))))
set_option maxRecDepth 20000 in
theorem kX13_given_118 (hZ : zO b e D A X) (j : Nat → rx_K) (hj : ∀ k pc, [10][k]? = some pc → rx_OK (zV b e D A X) mX13_given 5 pc (j k)) : rx_OK (zV b e D A X) mX13_given 5 118 (bX13_given_118 j) := by
  unfold bX13_given_118
  refine rx_by (e_ldI _ _) (s_iload_n hZ.1 dX13_given_118 rfl ?_)
  refine s_bipush dX13_given_119 (by decide +kernel) ?_
  refine rx_by (e_mul _) (s_imul dX13_given_121 ?_)
  refine rx_by (e_ldR _ _) (s_aload_n hZ.1 dX13_given_122 rfl ?_)
  refine zg13_41 dX13_given_123 zw4162 ?_
  refine rx_by (e_ldI _ _) (s_iload_n hZ.1 dX13_given_126 rfl ?_)
  refine rx_by (e_ald _ _) (s_iald (tt := 0) rfl dX13_given_127 ?_)
  refine rx_by (e_add _) (s_iadd dX13_given_128 ?_)
  refine rx_by (e_stI _ _) (s_istore_n hZ.1 dX13_given_129 rfl (Nat.le_of_ble_eq_true rfl) ?_)
  refine rx_by (e_ldR _ _) (s_aload_n hZ.1 dX13_given_130 rfl ?_)
  refine rx_by (e_ldI _ _) (s_iload_n hZ.1 dX13_given_131 rfl ?_)
  refine s_callV hZ.1 (met_X13_newMember hZ) (by decide) zy_X13_newMember zcl13 zw3056 zw199 (Or.inl zw3054) dX13_given_132 ?_
  refine rx_by (e_ldR _ _) (s_aload_n hZ.1 dX13_given_135 rfl ?_)
  refine zg13_42 dX13_given_136 zw4163 ?_
  refine rx_by (e_ldI _ _) (s_iload_n hZ.1 dX13_given_139 rfl ?_)
  refine s_iconst dX13_given_140 (by decide +kernel) ?_
  refine rx_by2 (l_astI _ _ _) (s_iast hZ.1 (tt := 0) rfl dX13_given_141 ?_)
  refine rx_by (e_ldR _ _) (s_aload_n hZ.1 dX13_given_142 rfl ?_)
  refine zg13_44 dX13_given_143 zw4165 ?_
  refine rx_by (e_ldI _ _) (s_iload_n hZ.1 dX13_given_146 rfl ?_)
  refine s_iconst dX13_given_147 (by decide +kernel) ?_
  refine rx_by2 (l_astI _ _ _) (s_iast hZ.1 (tt := 0) rfl dX13_given_148 ?_)
  refine rx_by (e_ldR _ _) (s_aload_n hZ.1 dX13_given_149 rfl ?_)
  refine zg13_41 dX13_given_150 zw4162 ?_
  exact (kX13_given_153 hZ j hj)
noncomputable def bX13_given_103 (j : Nat → rx_K) : rx_K := q_getf 13 53 (q_ld q_isI 3 (o_const 17 (p_ast 1 (fun v => v) q_isL (q_ld q_isR 0 (q_getf 13 41 (q_ld q_isI 2 (o_const 8 (p_ast 0 (fun v => v) q_isI ((bX13_given_118 j))))))))))
set_option maxRecDepth 20000 in
theorem kX13_given_103 (hZ : zO b e D A X) (j : Nat → rx_K) (hj : ∀ k pc, [10][k]? = some pc → rx_OK (zV b e D A X) mX13_given 5 pc (j k)) : rx_OK (zV b e D A X) mX13_given 5 103 (bX13_given_103 j) := by
  unfold bX13_given_103
  refine zg13_53 dX13_given_103 zw4174 ?_
  refine rx_by (e_ldI _ _) (s_iload_n hZ.1 dX13_given_106 rfl ?_)
  refine s_ldc2 dX13_given_107 zw3066 (by decide +kernel) ?_
  refine rx_by2 (l_ast _ _ _ _) (s_last (tt := 1) rfl dX13_given_110 ?_)
  refine rx_by (e_ldR _ _) (s_aload_n hZ.1 dX13_given_111 rfl ?_)
  refine zg13_41 dX13_given_112 zw4162 ?_
  refine rx_by (e_ldI _ _) (s_iload_n hZ.1 dX13_given_115 rfl ?_)
  refine s_iconst dX13_given_116 (by decide +kernel) ?_
  refine rx_by2 (l_astI _ _ _) (s_iast hZ.1 (tt := 0) rfl dX13_given_117 ?_)
  exact (kX13_given_118 hZ j hj)
noncomputable def bX13_given_66 (j : Nat → rx_K) : rx_K := q_ld q_isI 2 (o_const 272 (q_bi q_Fmul (q_st q_isI 3 (q_ld q_isR 0 (q_ld q_isI 3 (o_callV 1 13 fX13_newMember (q_ld q_isR 0 (q_getf 13 42 (q_ld q_isI 3 (o_const 0 (p_ast 0 (fun v => v) q_isI (q_ld q_isR 0 (q_getf 13 44 (q_ld q_isI 3 (o_const 24 (p_ast 0 (fun v => v) q_isI (q_ld q_isR 0 (q_getf 13 51 (q_ld q_isI 3 (o_const 980 (o_callS 1 fX13_nameOf (p_ast 1 (fun v => v) q_isL (q_ld q_isR 0 ((bX13_given_103 j)))))))))))))))))))))))))
set_option maxRecDepth 20000 in
theorem kX13_given_66 (hZ : zO b e D A X) (j : Nat → rx_K) (hj : ∀ k pc, [10][k]? = some pc → rx_OK (zV b e D A X) mX13_given 5 pc (j k)) : rx_OK (zV b e D A X) mX13_given 5 66 (bX13_given_66 j) := by
  unfold bX13_given_66
  refine rx_by (e_ldI _ _) (s_iload_n hZ.1 dX13_given_66 rfl ?_)
  refine s_bipush dX13_given_67 (by decide +kernel) ?_
  refine rx_by (e_mul _) (s_imul dX13_given_69 ?_)
  refine rx_by (e_stI _ _) (s_istore_n hZ.1 dX13_given_70 rfl (Nat.le_of_ble_eq_true rfl) ?_)
  refine rx_by (e_ldR _ _) (s_aload_n hZ.1 dX13_given_71 rfl ?_)
  refine rx_by (e_ldI _ _) (s_iload_n hZ.1 dX13_given_72 rfl ?_)
  refine s_callV hZ.1 (met_X13_newMember hZ) (by decide) zy_X13_newMember zcl13 zw3056 zw199 (Or.inl zw3054) dX13_given_73 ?_
  refine rx_by (e_ldR _ _) (s_aload_n hZ.1 dX13_given_76 rfl ?_)
  refine zg13_42 dX13_given_77 zw4163 ?_
  refine rx_by (e_ldI _ _) (s_iload_n hZ.1 dX13_given_80 rfl ?_)
  refine s_iconst dX13_given_81 (by decide +kernel) ?_
  refine rx_by2 (l_astI _ _ _) (s_iast hZ.1 (tt := 0) rfl dX13_given_82 ?_)
  refine rx_by (e_ldR _ _) (s_aload_n hZ.1 dX13_given_83 rfl ?_)
  refine zg13_44 dX13_given_84 zw4165 ?_
  refine rx_by (e_ldI _ _) (s_iload_n hZ.1 dX13_given_87 rfl ?_)
  refine s_iconst dX13_given_88 (by decide +kernel) ?_
  refine rx_by2 (l_astI _ _ _) (s_iast hZ.1 (tt := 0) rfl dX13_given_89 ?_)
  refine rx_by (e_ldR _ _) (s_aload_n hZ.1 dX13_given_90 rfl ?_)
  refine zg13_51 dX13_given_91 zw4172 ?_
  refine rx_by (e_ldI _ _) (s_iload_n hZ.1 dX13_given_94 rfl ?_)
  refine s_ldcwS (k := 122) (zo_R122 hZ) dX13_given_95 ?_
  refine s_callS hZ.1 (met_X13_nameOf hZ) (by decide) zy_X13_nameOf zw2990 (Or.inl zw2989) dX13_given_98 ?_
  refine rx_by2 (l_ast _ _ _ _) (s_last (tt := 1) rfl dX13_given_101 ?_)
  refine rx_by (e_ldR _ _) (s_aload_n hZ.1 dX13_given_102 rfl ?_)
  exact (kX13_given_103 hZ j hj)
noncomputable def bX13_given_39 (j : Nat → rx_K) : rx_K := p_ast 1 (fun v => v) q_isL (q_ld q_isR 0 (q_getf 13 26 (q_ld q_isI 2 (o_const 8 (p_ast 3 (fun v => v) rx_isZ (q_ld q_isR 0 (q_getf 13 27 (q_ld q_isI 2 (o_const 0 (p_ast 0 (fun v => v) q_isI (q_ld q_isR 0 (q_getf 13 41 (q_ld q_isI 2 (o_const 0 (p_ast 0 (fun v => v) q_isI (q_ld q_isI 1 (o_const 8 (q_eq2 (bX13_given_66 j) (bX13_given_118 j)))))))))))))))))))
set_option maxRecDepth 20000 in
theorem kX13_given_39 (hZ : zO b e D A X) (j : Nat → rx_K) (hj : ∀ k pc, [10][k]? = some pc → rx_OK (zV b e D A X) mX13_given 5 pc (j k)) : rx_OK (zV b e D A X) mX13_given 5 39 (bX13_given_39 j) := by
  unfold bX13_given_39
  refine rx_by2 (l_ast _ _ _ _) (s_last (tt := 1) rfl dX13_given_39 ?_)
  refine rx_by (e_ldR _ _) (s_aload_n hZ.1 dX13_given_40 rfl ?_)
  refine zg13_26 dX13_given_41 zw4147 ?_
  refine rx_by (e_ldI _ _) (s_iload_n hZ.1 dX13_given_44 rfl ?_)
  refine s_iconst dX13_given_45 (by decide +kernel) ?_
  refine rx_by2 (l_ast _ _ _ _) (s_zast (tt := 3) rfl dX13_given_46 ?_)
  refine rx_by (e_ldR _ _) (s_aload_n hZ.1 dX13_given_47 rfl ?_)
  refine zg13_27 dX13_given_48 zw4148 ?_
  refine rx_by (e_ldI _ _) (s_iload_n hZ.1 dX13_given_51 rfl ?_)
  refine s_iconst dX13_given_52 (by decide +kernel) ?_
  refine rx_by2 (l_astI _ _ _) (s_iast hZ.1 (tt := 0) rfl dX13_given_53 ?_)
  refine rx_by (e_ldR _ _) (s_aload_n hZ.1 dX13_given_54 rfl ?_)
  refine zg13_41 dX13_given_55 zw4162 ?_
  refine rx_by (e_ldI _ _) (s_iload_n hZ.1 dX13_given_58 rfl ?_)
  refine s_iconst dX13_given_59 (by decide +kernel) ?_
  refine rx_by2 (l_astI _ _ _) (s_iast hZ.1 (tt := 0) rfl dX13_given_60 ?_)
  refine rx_by (e_ldI _ _) (s_iload_n hZ.1 dX13_given_61 rfl ?_)
  refine s_iconst dX13_given_62 (by decide +kernel) ?_
  exact rx_by (e_eq2 _ _) (s_icmp_ne dX13_given_63 (by decide) (kX13_given_118 hZ j hj) (kX13_given_66 hZ j hj))
noncomputable def bX13_given_36 (j : Nat → rx_K) : rx_K := o_const 18446744073765230689 ((bX13_given_39 j))
set_option maxRecDepth 20000 in
theorem kX13_given_36 (hZ : zO b e D A X) (j : Nat → rx_K) (hj : ∀ k pc, [10][k]? = some pc → rx_OK (zV b e D A X) mX13_given 5 pc (j k)) : rx_OK (zV b e D A X) mX13_given 5 36 (bX13_given_36 j) := by
  unfold bX13_given_36
  refine s_ldc2 dX13_given_36 zw3189 (by decide +kernel) ?_
  exact (kX13_given_39 hZ j hj)
noncomputable def bX13_given_30 (j : Nat → rx_K) : rx_K := o_const 18446744073764969673 ((bX13_given_39 j))
set_option maxRecDepth 20000 in
theorem kX13_given_30 (hZ : zO b e D A X) (j : Nat → rx_K) (hj : ∀ k pc, [10][k]? = some pc → rx_OK (zV b e D A X) mX13_given 5 pc (j k)) : rx_OK (zV b e D A X) mX13_given 5 30 (bX13_given_30 j) := by
  unfold bX13_given_30
  refine s_ldc2 dX13_given_30 zw3188 (by decide +kernel) ?_
  exact s_goto dX13_given_33 (by decide) (kX13_given_39 hZ j hj)
noncomputable def bX13_given_15 (j : Nat → rx_K) : rx_K := o_const 1632 (q_ld q_isI 1 (q_bi q_Fadd (q_st q_isI 2 (q_ld q_isR 0 (q_getf 13 24 (q_ld q_isI 2 (q_ld q_isI 1 (q_eq1 (bX13_given_30 j) (bX13_given_36 j)))))))))
set_option maxRecDepth 20000 in
theorem kX13_given_15 (hZ : zO b e D A X) (j : Nat → rx_K) (hj : ∀ k pc, [10][k]? = some pc → rx_OK (zV b e D A X) mX13_given 5 pc (j k)) : rx_OK (zV b e D A X) mX13_given 5 15 (bX13_given_15 j) := by
  unfold bX13_given_15
  refine s_sipush dX13_given_15 (by decide +kernel) ?_
  refine rx_by (e_ldI _ _) (s_iload_n hZ.1 dX13_given_18 rfl ?_)
  refine rx_by (e_add _) (s_iadd dX13_given_19 ?_)
  refine rx_by (e_stI _ _) (s_istore_n hZ.1 dX13_given_20 rfl (Nat.le_of_ble_eq_true rfl) ?_)
  refine rx_by (e_ldR _ _) (s_aload_n hZ.1 dX13_given_21 rfl ?_)
  refine zg13_24 dX13_given_22 zw4145 ?_
  refine rx_by (e_ldI _ _) (s_iload_n hZ.1 dX13_given_25 rfl ?_)
  refine rx_by (e_ldI _ _) (s_iload_n hZ.1 dX13_given_26 rfl ?_)
  exact rx_by (e_eq1 _ _) (s_if_ne dX13_given_27 (by decide) (kX13_given_36 hZ j hj) (kX13_given_30 hZ j hj))
noncomputable def bX13_given_10 (j : Nat → rx_K) : rx_K := q_ld q_isI 1 (o_const 16 (q_lt2 (bX13_given_15 j) (bX13_given_165 j)))
set_option maxRecDepth 20000 in
theorem kX13_given_10 (hZ : zO b e D A X) (j : Nat → rx_K) (hj : ∀ k pc, [10][k]? = some pc → rx_OK (zV b e D A X) mX13_given 5 pc (j k)) : rx_OK (zV b e D A X) mX13_given 5 10 (bX13_given_10 j) := by
  unfold bX13_given_10
  refine rx_by (e_ldI _ _) (s_iload_n hZ.1 dX13_given_10 rfl ?_)
  refine s_iconst dX13_given_11 (by decide +kernel) ?_
  exact rx_by (e_lt2 _ _) (s_icmp_ge dX13_given_12 (by decide) (kX13_given_165 hZ j hj) (kX13_given_15 hZ j hj))
noncomputable def bX13_given_0 (j : Nat → rx_K) : rx_K := q_ld q_isR 0 (q_getf 13 23 (o_const 136 (o_const 16 (p_ast 0 (fun v => v) q_isI (o_const 0 (q_st q_isI 1 ((bX13_given_10 j))))))))
set_option maxRecDepth 20000 in
theorem kX13_given_0 (hZ : zO b e D A X) (j : Nat → rx_K) (hj : ∀ k pc, [10][k]? = some pc → rx_OK (zV b e D A X) mX13_given 5 pc (j k)) : rx_OK (zV b e D A X) mX13_given 5 0 (bX13_given_0 j) := by
  unfold bX13_given_0
  refine rx_by (e_ldR _ _) (s_aload_n hZ.1 dX13_given_0 rfl ?_)
  refine zg13_23 dX13_given_1 zw4144 ?_
  refine s_bipush dX13_given_4 (by decide +kernel) ?_
  refine s_iconst dX13_given_6 (by decide +kernel) ?_
  refine rx_by2 (l_astI _ _ _) (s_iast hZ.1 (tt := 0) rfl dX13_given_7 ?_)
  refine s_iconst dX13_given_8 (by decide +kernel) ?_
  refine rx_by (e_stI _ _) (s_istore_n hZ.1 dX13_given_9 rfl (Nat.le_of_ble_eq_true rfl) ?_)
  exact (kX13_given_10 hZ j hj)
noncomputable def hX13_given (j : Nat → rx_K) : List rx_K := [bX13_given_10 j]
theorem lX13_given (hZ : zO b e D A X) : ∀ n k pc, [10][k]? = some pc → rx_OK (zV b e D A X) mX13_given 5 pc (rx_J hX13_given n k) := rx_loop fun j hj k pc h => by
  match k, h with
  | 0, h =>
    have e9 := Option.some.inj (show some 10 = some pc from h)
    subst e9
    exact kX13_given_10 hZ j hj
  | _ + 1, h => exact absurd h (by simp)
noncomputable def fX13_given : List Nat → rx_H → Option (Nat × rx_H) := rx_ent 4 (bX13_given_0 (rx_J hX13_given 1000000))
theorem met_X13_given (hZ : zO b e D A X) : rx_Met (zV b e D A X) 5 yX13_given mX13_given fX13_given := rx_entry hZ.1 (kX13_given_0 hZ _ (lX13_given hZ 1000000)) (by decide +kernel) rfl (fun h => by cases h)
theorem zy_X13_given : rx_Y (zV b e D A X) yX13_given mX13_given 0 := ⟨zw4119, zw431, by decide, by decide +kernel, by decide +kernel, by decide +kernel⟩
noncomputable def bX13_intoWorld_0 : rx_K := q_ld q_isR 0 (q_getf 13 130 (q_ld q_isR 0 (q_getf 13 129 (q_ld q_isI 1 (p_ast 0 (fun v => v) q_isI (q_ld q_isR 0 (q_getf 13 131 (q_ld q_isI 1 (q_ld q_isR 0 (q_getf 13 129 (p_ast 0 (fun v => v) q_isI (q_ld q_isR 0 (q_dup (q_getf 13 129 (o_const 8 (q_bi q_Fadd (p_putf q_isI 13 129 (o_ret0))))))))))))))))))
set_option maxRecDepth 20000 in
theorem kX13_intoWorld_0 (hZ : zO b e D A X) : rx_OK (zV b e D A X) mX13_intoWorld 0 0 bX13_intoWorld_0 := by
  unfold bX13_intoWorld_0
  refine rx_by (e_ldR _ _) (s_aload_n hZ.1 dX13_intoWorld_0 rfl ?_)
  refine zg13_130 dX13_intoWorld_1 zw4250 ?_
  refine rx_by (e_ldR _ _) (s_aload_n hZ.1 dX13_intoWorld_4 rfl ?_)
  refine zg13_129 dX13_intoWorld_5 zw4249 ?_
  refine rx_by (e_ldI _ _) (s_iload_n hZ.1 dX13_intoWorld_8 rfl ?_)
  refine rx_by2 (l_astI _ _ _) (s_iast hZ.1 (tt := 0) rfl dX13_intoWorld_9 ?_)
  refine rx_by (e_ldR _ _) (s_aload_n hZ.1 dX13_intoWorld_10 rfl ?_)
  refine zg13_131 dX13_intoWorld_11 zw4251 ?_
  refine rx_by (e_ldI _ _) (s_iload_n hZ.1 dX13_intoWorld_14 rfl ?_)
  refine rx_by (e_ldR _ _) (s_aload_n hZ.1 dX13_intoWorld_15 rfl ?_)
  refine zg13_129 dX13_intoWorld_16 zw4249 ?_
  refine rx_by2 (l_astI _ _ _) (s_iast hZ.1 (tt := 0) rfl dX13_intoWorld_19 ?_)
  refine rx_by (e_ldR _ _) (s_aload_n hZ.1 dX13_intoWorld_20 rfl ?_)
  refine rx_by (e_dup _) (s_dup hZ.1 dX13_intoWorld_21 ?_)
  refine zg13_129 dX13_intoWorld_22 zw4249 ?_
  refine s_iconst dX13_intoWorld_25 (by decide +kernel) ?_
  refine rx_by (e_add _) (s_iadd dX13_intoWorld_26 ?_)
  refine zp13_129 hZ.1 dX13_intoWorld_27 zw4249 ?_
  exact s_vret rfl dX13_intoWorld_30
noncomputable def fX13_intoWorld : List Nat → rx_H → Option (Nat × rx_H) := rx_ent 2 bX13_intoWorld_0
theorem met_X13_intoWorld (hZ : zO b e D A X) : rx_Met (zV b e D A X) 0 yX13_intoWorld mX13_intoWorld fX13_intoWorld := rx_entry hZ.1 (kX13_intoWorld_0 hZ) (by decide +kernel) rfl (fun h => by cases h)
theorem zy_X13_intoWorld : rx_Y (zV b e D A X) yX13_intoWorld mX13_intoWorld 1 := ⟨zw3610, zw431, by decide, by decide +kernel, by decide +kernel, by decide +kernel⟩
noncomputable def bX13_numberWorld_120 (j : Nat → rx_K) : rx_K := o_ret0
set_option maxRecDepth 20000 in
theorem kX13_numberWorld_120 (hZ : zO b e D A X) (j : Nat → rx_K) (hj : ∀ k pc, [2, 44][k]? = some pc → rx_OK (zV b e D A X) mX13_numberWorld 1 pc (j k)) : rx_OK (zV b e D A X) mX13_numberWorld 1 120 (bX13_numberWorld_120 j) := by
  unfold bX13_numberWorld_120
  exact s_vret rfl dX13_numberWorld_120
noncomputable def bX13_numberWorld_114 (j : Nat → rx_K) : rx_K := q_inc 1 8 ((j 1))
set_option maxRecDepth 20000 in
theorem kX13_numberWorld_114 (hZ : zO b e D A X) (j : Nat → rx_K) (hj : ∀ k pc, [2, 44][k]? = some pc → rx_OK (zV b e D A X) mX13_numberWorld 1 pc (j k)) : rx_OK (zV b e D A X) mX13_numberWorld 1 114 (bX13_numberWorld_114 j) := by
  unfold bX13_numberWorld_114
  refine rx_by (e_inc (by decide +kernel) _) (s_iinc hZ.1 dX13_numberWorld_114 (Nat.le_of_ble_eq_true rfl) ?_)
  exact s_goto dX13_numberWorld_117 (by decide) (hj 1 44 rfl)
noncomputable def bX13_numberWorld_49 (j : Nat → rx_K) : rx_K := o_const 0 (q_st q_isI 2 (q_ld q_isR 0 (q_getf 13 90 (q_ld q_isI 1 (q_ald 0 (o_const 34359738352 (q_eq2 (bX13_numberWorld_114 j) o_none)))))))
set_option maxRecDepth 20000 in
theorem kX13_numberWorld_49 (hZ : zO b e D A X) (j : Nat → rx_K) (hj : ∀ k pc, [2, 44][k]? = some pc → rx_OK (zV b e D A X) mX13_numberWorld 1 pc (j k)) : rx_OK (zV b e D A X) mX13_numberWorld 1 49 (bX13_numberWorld_49 j) := by
  unfold bX13_numberWorld_49
  refine s_iconst dX13_numberWorld_49 (by decide +kernel) ?_
  refine rx_by (e_stI _ _) (s_istore_n hZ.1 dX13_numberWorld_50 rfl (Nat.le_of_ble_eq_true rfl) ?_)
  refine rx_by (e_ldR _ _) (s_aload_n hZ.1 dX13_numberWorld_51 rfl ?_)
  refine zg13_90 dX13_numberWorld_52 zw4211 ?_
  refine rx_by (e_ldI _ _) (s_iload_n hZ.1 dX13_numberWorld_55 rfl ?_)
  refine rx_by (e_ald _ _) (s_iald (tt := 0) rfl dX13_numberWorld_56 ?_)
  refine s_bipush dX13_numberWorld_57 (by decide +kernel) ?_
  exact rx_by (e_eq2 _ _) (s_icmp_eq dX13_numberWorld_59 (by decide) (kX13_numberWorld_114 hZ j hj) (s_none (pc := 62)))
noncomputable def bX13_numberWorld_44 (j : Nat → rx_K) : rx_K := q_ld q_isI 1 (o_const 40 (q_lt2 (bX13_numberWorld_49 j) (bX13_numberWorld_120 j)))
set_option maxRecDepth 20000 in
theorem kX13_numberWorld_44 (hZ : zO b e D A X) (j : Nat → rx_K) (hj : ∀ k pc, [2, 44][k]? = some pc → rx_OK (zV b e D A X) mX13_numberWorld 1 pc (j k)) : rx_OK (zV b e D A X) mX13_numberWorld 1 44 (bX13_numberWorld_44 j) := by
  unfold bX13_numberWorld_44
  refine rx_by (e_ldI _ _) (s_iload_n hZ.1 dX13_numberWorld_44 rfl ?_)
  refine s_iconst dX13_numberWorld_45 (by decide +kernel) ?_
  exact rx_by (e_lt2 _ _) (s_icmp_ge dX13_numberWorld_46 (by decide) (kX13_numberWorld_120 hZ j hj) (kX13_numberWorld_49 hZ j hj))
noncomputable def bX13_numberWorld_23 (j : Nat → rx_K) : rx_K := q_ld q_isR 0 (o_const 0 (p_putf q_isI 13 129 (q_ld q_isR 0 (o_const 1632 (o_callV 1 13 fX13_intoWorld (q_ld q_isR 0 (o_const 1640 (o_callV 1 13 fX13_intoWorld (o_const 0 (q_st q_isI 1 ((bX13_numberWorld_44 j))))))))))))
set_option maxRecDepth 20000 in
theorem kX13_numberWorld_23 (hZ : zO b e D A X) (j : Nat → rx_K) (hj : ∀ k pc, [2, 44][k]? = some pc → rx_OK (zV b e D A X) mX13_numberWorld 1 pc (j k)) : rx_OK (zV b e D A X) mX13_numberWorld 1 23 (bX13_numberWorld_23 j) := by
  unfold bX13_numberWorld_23
  refine rx_by (e_ldR _ _) (s_aload_n hZ.1 dX13_numberWorld_23 rfl ?_)
  refine s_iconst dX13_numberWorld_24 (by decide +kernel) ?_
  refine zp13_129 hZ.1 dX13_numberWorld_25 zw4249 ?_
  refine rx_by (e_ldR _ _) (s_aload_n hZ.1 dX13_numberWorld_28 rfl ?_)
  refine s_sipush dX13_numberWorld_29 (by decide +kernel) ?_
  refine s_callV hZ.1 (met_X13_intoWorld hZ) (by decide) zy_X13_intoWorld zcl13 zw3609 zw321 (Or.inl zw3607) dX13_numberWorld_32 ?_
  refine rx_by (e_ldR _ _) (s_aload_n hZ.1 dX13_numberWorld_35 rfl ?_)
  refine s_sipush dX13_numberWorld_36 (by decide +kernel) ?_
  refine s_callV hZ.1 (met_X13_intoWorld hZ) (by decide) zy_X13_intoWorld zcl13 zw3609 zw321 (Or.inl zw3607) dX13_numberWorld_39 ?_
  refine s_iconst dX13_numberWorld_42 (by decide +kernel) ?_
  refine rx_by (e_stI _ _) (s_istore_n hZ.1 dX13_numberWorld_43 rfl (Nat.le_of_ble_eq_true rfl) ?_)
  exact (kX13_numberWorld_44 hZ j hj)
noncomputable def bX13_numberWorld_9 (j : Nat → rx_K) : rx_K := q_ld q_isR 0 (q_getf 13 131 (q_ld q_isI 1 (o_const 34359738352 (p_ast 0 (fun v => v) q_isI (q_inc 1 8 ((j 0)))))))
set_option maxRecDepth 20000 in
theorem kX13_numberWorld_9 (hZ : zO b e D A X) (j : Nat → rx_K) (hj : ∀ k pc, [2, 44][k]? = some pc → rx_OK (zV b e D A X) mX13_numberWorld 1 pc (j k)) : rx_OK (zV b e D A X) mX13_numberWorld 1 9 (bX13_numberWorld_9 j) := by
  unfold bX13_numberWorld_9
  refine rx_by (e_ldR _ _) (s_aload_n hZ.1 dX13_numberWorld_9 rfl ?_)
  refine zg13_131 dX13_numberWorld_10 zw4251 ?_
  refine rx_by (e_ldI _ _) (s_iload_n hZ.1 dX13_numberWorld_13 rfl ?_)
  refine s_bipush dX13_numberWorld_14 (by decide +kernel) ?_
  refine rx_by2 (l_astI _ _ _) (s_iast hZ.1 (tt := 0) rfl dX13_numberWorld_16 ?_)
  refine rx_by (e_inc (by decide +kernel) _) (s_iinc hZ.1 dX13_numberWorld_17 (Nat.le_of_ble_eq_true rfl) ?_)
  exact s_goto dX13_numberWorld_20 (by decide) (hj 0 2 rfl)
noncomputable def bX13_numberWorld_2 (j : Nat → rx_K) : rx_K := q_ld q_isI 1 (o_const 1728 (q_lt2 (bX13_numberWorld_9 j) (bX13_numberWorld_23 j)))
set_option maxRecDepth 20000 in
theorem kX13_numberWorld_2 (hZ : zO b e D A X) (j : Nat → rx_K) (hj : ∀ k pc, [2, 44][k]? = some pc → rx_OK (zV b e D A X) mX13_numberWorld 1 pc (j k)) : rx_OK (zV b e D A X) mX13_numberWorld 1 2 (bX13_numberWorld_2 j) := by
  unfold bX13_numberWorld_2
  refine rx_by (e_ldI _ _) (s_iload_n hZ.1 dX13_numberWorld_2 rfl ?_)
  refine s_sipush dX13_numberWorld_3 (by decide +kernel) ?_
  exact rx_by (e_lt2 _ _) (s_icmp_ge dX13_numberWorld_6 (by decide) (kX13_numberWorld_23 hZ j hj) (kX13_numberWorld_9 hZ j hj))
noncomputable def bX13_numberWorld_0 (j : Nat → rx_K) : rx_K := o_const 0 (q_st q_isI 1 ((bX13_numberWorld_2 j)))
set_option maxRecDepth 20000 in
theorem kX13_numberWorld_0 (hZ : zO b e D A X) (j : Nat → rx_K) (hj : ∀ k pc, [2, 44][k]? = some pc → rx_OK (zV b e D A X) mX13_numberWorld 1 pc (j k)) : rx_OK (zV b e D A X) mX13_numberWorld 1 0 (bX13_numberWorld_0 j) := by
  unfold bX13_numberWorld_0
  refine s_iconst dX13_numberWorld_0 (by decide +kernel) ?_
  refine rx_by (e_stI _ _) (s_istore_n hZ.1 dX13_numberWorld_1 rfl (Nat.le_of_ble_eq_true rfl) ?_)
  exact (kX13_numberWorld_2 hZ j hj)
noncomputable def hX13_numberWorld (j : Nat → rx_K) : List rx_K := [bX13_numberWorld_2 j, bX13_numberWorld_44 j]
theorem lX13_numberWorld (hZ : zO b e D A X) : ∀ n k pc, [2, 44][k]? = some pc → rx_OK (zV b e D A X) mX13_numberWorld 1 pc (rx_J hX13_numberWorld n k) := rx_loop fun j hj k pc h => by
  match k, h with
  | 0, h =>
    have e9 := Option.some.inj (show some 2 = some pc from h)
    subst e9
    exact kX13_numberWorld_2 hZ j hj
  | 1, h =>
    have e9 := Option.some.inj (show some 44 = some pc from h)
    subst e9
    exact kX13_numberWorld_44 hZ j hj
  | _ + 2, h => exact absurd h (by simp)
noncomputable def fX13_numberWorld : List Nat → rx_H → Option (Nat × rx_H) := rx_ent 4 (bX13_numberWorld_0 (rx_J hX13_numberWorld 1000000))
theorem met_X13_numberWorld (hZ : zO b e D A X) : rx_Met (zV b e D A X) 1 yX13_numberWorld mX13_numberWorld fX13_numberWorld := rx_entry hZ.1 (kX13_numberWorld_0 hZ _ (lX13_numberWorld hZ 1000000)) (by decide +kernel) rfl (fun h => by cases h)
theorem zy_X13_numberWorld : rx_Y (zV b e D A X) yX13_numberWorld mX13_numberWorld 0 := ⟨zw3606, zw431, by decide, by decide +kernel, by decide +kernel, by decide +kernel⟩
noncomputable def bX13_clearSet_41 (j : Nat → rx_K) : rx_K := o_ret0
set_option maxRecDepth 20000 in
theorem kX13_clearSet_41 (hZ : zO b e D A X) (j : Nat → rx_K) (hj : ∀ k pc, [2][k]? = some pc → rx_OK (zV b e D A X) mX13_clearSet 0 pc (j k)) : rx_OK (zV b e D A X) mX13_clearSet 0 41 (bX13_clearSet_41 j) := by
  unfold bX13_clearSet_41
  exact s_vret rfl dX13_clearSet_41
noncomputable def bX13_clearSet_25 (j : Nat → rx_K) : rx_K := p_ast 0 (fun v => v) q_isI (q_ld q_isR 0 (q_getf 13 133 (q_ld q_isI 1 (q_ld q_isI 2 (q_bi q_Fadd (o_const 0 (p_ast 0 (fun v => v) q_isI (q_inc 2 8 ((j 0))))))))))
set_option maxRecDepth 20000 in
theorem kX13_clearSet_25 (hZ : zO b e D A X) (j : Nat → rx_K) (hj : ∀ k pc, [2][k]? = some pc → rx_OK (zV b e D A X) mX13_clearSet 0 pc (j k)) : rx_OK (zV b e D A X) mX13_clearSet 0 25 (bX13_clearSet_25 j) := by
  unfold bX13_clearSet_25
  refine rx_by2 (l_astI _ _ _) (s_iast hZ.1 (tt := 0) rfl dX13_clearSet_25 ?_)
  refine rx_by (e_ldR _ _) (s_aload_n hZ.1 dX13_clearSet_26 rfl ?_)
  refine zg13_133 dX13_clearSet_27 zw4253 ?_
  refine rx_by (e_ldI _ _) (s_iload_n hZ.1 dX13_clearSet_30 rfl ?_)
  refine rx_by (e_ldI _ _) (s_iload_n hZ.1 dX13_clearSet_31 rfl ?_)
  refine rx_by (e_add _) (s_iadd dX13_clearSet_32 ?_)
  refine s_iconst dX13_clearSet_33 (by decide +kernel) ?_
  refine rx_by2 (l_astI _ _ _) (s_iast hZ.1 (tt := 0) rfl dX13_clearSet_34 ?_)
  refine rx_by (e_inc (by decide +kernel) _) (s_iinc hZ.1 dX13_clearSet_35 (Nat.le_of_ble_eq_true rfl) ?_)
  exact s_goto dX13_clearSet_38 (by decide) (hj 0 2 rfl)
noncomputable def bX13_clearSet_24 (j : Nat → rx_K) : rx_K := o_const 0 ((bX13_clearSet_25 j))
set_option maxRecDepth 20000 in
theorem kX13_clearSet_24 (hZ : zO b e D A X) (j : Nat → rx_K) (hj : ∀ k pc, [2][k]? = some pc → rx_OK (zV b e D A X) mX13_clearSet 0 pc (j k)) : rx_OK (zV b e D A X) mX13_clearSet 0 24 (bX13_clearSet_24 j) := by
  unfold bX13_clearSet_24
  refine s_iconst dX13_clearSet_24 (by decide +kernel) ?_
  exact (kX13_clearSet_25 hZ j hj)
noncomputable def bX13_clearSet_20 (j : Nat → rx_K) : rx_K := o_const 32 ((bX13_clearSet_25 j))
set_option maxRecDepth 20000 in
theorem kX13_clearSet_20 (hZ : zO b e D A X) (j : Nat → rx_K) (hj : ∀ k pc, [2][k]? = some pc → rx_OK (zV b e D A X) mX13_clearSet 0 pc (j k)) : rx_OK (zV b e D A X) mX13_clearSet 0 20 (bX13_clearSet_20 j) := by
  unfold bX13_clearSet_20
  refine s_iconst dX13_clearSet_20 (by decide +kernel) ?_
  exact s_goto dX13_clearSet_21 (by decide) (kX13_clearSet_25 hZ j hj)
noncomputable def bX13_clearSet_8 (j : Nat → rx_K) : rx_K := q_ld q_isR 0 (q_getf 13 132 (q_ld q_isI 1 (q_ld q_isI 2 (q_bi q_Fadd (q_ld q_isI 2 (o_const 16 (q_lt2 (bX13_clearSet_20 j) (bX13_clearSet_24 j))))))))
set_option maxRecDepth 20000 in
theorem kX13_clearSet_8 (hZ : zO b e D A X) (j : Nat → rx_K) (hj : ∀ k pc, [2][k]? = some pc → rx_OK (zV b e D A X) mX13_clearSet 0 pc (j k)) : rx_OK (zV b e D A X) mX13_clearSet 0 8 (bX13_clearSet_8 j) := by
  unfold bX13_clearSet_8
  refine rx_by (e_ldR _ _) (s_aload_n hZ.1 dX13_clearSet_8 rfl ?_)
  refine zg13_132 dX13_clearSet_9 zw4252 ?_
  refine rx_by (e_ldI _ _) (s_iload_n hZ.1 dX13_clearSet_12 rfl ?_)
  refine rx_by (e_ldI _ _) (s_iload_n hZ.1 dX13_clearSet_13 rfl ?_)
  refine rx_by (e_add _) (s_iadd dX13_clearSet_14 ?_)
  refine rx_by (e_ldI _ _) (s_iload_n hZ.1 dX13_clearSet_15 rfl ?_)
  refine s_iconst dX13_clearSet_16 (by decide +kernel) ?_
  exact rx_by (e_lt2 _ _) (s_icmp_ge dX13_clearSet_17 (by decide) (kX13_clearSet_24 hZ j hj) (kX13_clearSet_20 hZ j hj))
noncomputable def bX13_clearSet_2 (j : Nat → rx_K) : rx_K := q_ld q_isI 2 (o_const 512 (q_lt2 (bX13_clearSet_8 j) (bX13_clearSet_41 j)))
set_option maxRecDepth 20000 in
theorem kX13_clearSet_2 (hZ : zO b e D A X) (j : Nat → rx_K) (hj : ∀ k pc, [2][k]? = some pc → rx_OK (zV b e D A X) mX13_clearSet 0 pc (j k)) : rx_OK (zV b e D A X) mX13_clearSet 0 2 (bX13_clearSet_2 j) := by
  unfold bX13_clearSet_2
  refine rx_by (e_ldI _ _) (s_iload_n hZ.1 dX13_clearSet_2 rfl ?_)
  refine s_bipush dX13_clearSet_3 (by decide +kernel) ?_
  exact rx_by (e_lt2 _ _) (s_icmp_ge dX13_clearSet_5 (by decide) (kX13_clearSet_41 hZ j hj) (kX13_clearSet_8 hZ j hj))
noncomputable def bX13_clearSet_0 (j : Nat → rx_K) : rx_K := o_const 0 (q_st q_isI 2 ((bX13_clearSet_2 j)))
set_option maxRecDepth 20000 in
theorem kX13_clearSet_0 (hZ : zO b e D A X) (j : Nat → rx_K) (hj : ∀ k pc, [2][k]? = some pc → rx_OK (zV b e D A X) mX13_clearSet 0 pc (j k)) : rx_OK (zV b e D A X) mX13_clearSet 0 0 (bX13_clearSet_0 j) := by
  unfold bX13_clearSet_0
  refine s_iconst dX13_clearSet_0 (by decide +kernel) ?_
  refine rx_by (e_stI _ _) (s_istore_n hZ.1 dX13_clearSet_1 rfl (Nat.le_of_ble_eq_true rfl) ?_)
  exact (kX13_clearSet_2 hZ j hj)
noncomputable def hX13_clearSet (j : Nat → rx_K) : List rx_K := [bX13_clearSet_2 j]
theorem lX13_clearSet (hZ : zO b e D A X) : ∀ n k pc, [2][k]? = some pc → rx_OK (zV b e D A X) mX13_clearSet 0 pc (rx_J hX13_clearSet n k) := rx_loop fun j hj k pc h => by
  match k, h with
  | 0, h =>
    have e9 := Option.some.inj (show some 2 = some pc from h)
    subst e9
    exact kX13_clearSet_2 hZ j hj
  | _ + 1, h => exact absurd h (by simp)
noncomputable def fX13_clearSet : List Nat → rx_H → Option (Nat × rx_H) := rx_ent 3 (bX13_clearSet_0 (rx_J hX13_clearSet 1000000))
theorem met_X13_clearSet (hZ : zO b e D A X) : rx_Met (zV b e D A X) 0 yX13_clearSet mX13_clearSet fX13_clearSet := rx_entry hZ.1 (kX13_clearSet_0 hZ _ (lX13_clearSet hZ 1000000)) (by decide +kernel) rfl (fun h => by cases h)
theorem zy_X13_clearSet : rx_Y (zV b e D A X) yX13_clearSet mX13_clearSet 1 := ⟨zw3614, zw431, by decide, by decide +kernel, by decide +kernel, by decide +kernel⟩
noncomputable def bX13_settle_51 (j : Nat → rx_K) : rx_K := o_ret0
set_option maxRecDepth 20000 in
theorem kX13_settle_51 (hZ : zO b e D A X) (j : Nat → rx_K) (hj : ∀ k pc, [31][k]? = some pc → rx_OK (zV b e D A X) mX13_settle 2 pc (j k)) : rx_OK (zV b e D A X) mX13_settle 2 51 (bX13_settle_51 j) := by
  unfold bX13_settle_51
  exact s_vret rfl dX13_settle_51
noncomputable def bX13_settle_38 (j : Nat → rx_K) : rx_K := q_ld q_isR 0 (q_getf 13 148 (q_ld q_isI 1 (o_const 0 (p_ast 0 (fun v => v) q_isI (q_inc 1 8 ((j 0)))))))
set_option maxRecDepth 20000 in
theorem kX13_settle_38 (hZ : zO b e D A X) (j : Nat → rx_K) (hj : ∀ k pc, [31][k]? = some pc → rx_OK (zV b e D A X) mX13_settle 2 pc (j k)) : rx_OK (zV b e D A X) mX13_settle 2 38 (bX13_settle_38 j) := by
  unfold bX13_settle_38
  refine rx_by (e_ldR _ _) (s_aload_n hZ.1 dX13_settle_38 rfl ?_)
  refine zg13_148 dX13_settle_39 zw4268 ?_
  refine rx_by (e_ldI _ _) (s_iload_n hZ.1 dX13_settle_42 rfl ?_)
  refine s_iconst dX13_settle_43 (by decide +kernel) ?_
  refine rx_by2 (l_astI _ _ _) (s_iast hZ.1 (tt := 0) rfl dX13_settle_44 ?_)
  refine rx_by (e_inc (by decide +kernel) _) (s_iinc hZ.1 dX13_settle_45 (Nat.le_of_ble_eq_true rfl) ?_)
  exact s_goto dX13_settle_48 (by decide) (hj 0 31 rfl)
noncomputable def bX13_settle_31 (j : Nat → rx_K) : rx_K := q_ld q_isI 1 (o_const 58752 (q_lt2 (bX13_settle_38 j) (bX13_settle_51 j)))
set_option maxRecDepth 20000 in
theorem kX13_settle_31 (hZ : zO b e D A X) (j : Nat → rx_K) (hj : ∀ k pc, [31][k]? = some pc → rx_OK (zV b e D A X) mX13_settle 2 pc (j k)) : rx_OK (zV b e D A X) mX13_settle 2 31 (bX13_settle_31 j) := by
  unfold bX13_settle_31
  refine rx_by (e_ldI _ _) (s_iload_n hZ.1 dX13_settle_31 rfl ?_)
  refine s_sipush dX13_settle_32 (by decide +kernel) ?_
  exact rx_by (e_lt2 _ _) (s_icmp_ge dX13_settle_35 (by decide) (kX13_settle_51 hZ j hj) (kX13_settle_38 hZ j hj))
noncomputable def bX13_settle_0 (j : Nat → rx_K) : rx_K := q_ld q_isR 0 (o_callV 0 13 fX13_numberWorld (q_ld q_isR 0 (o_const 0 (p_putf q_isI 13 145 (q_ld q_isR 0 (o_const 0 (o_callV 1 13 fX13_clearSet (q_ld q_isR 0 (o_const 0 (p_putf q_isI 13 136 (q_ld q_isR 0 (o_const 0 (p_putf q_isI 13 151 (q_ld q_isR 0 (o_const 0 (p_putf q_isI 13 153 (o_const 0 (q_st q_isI 1 ((bX13_settle_31 j))))))))))))))))))))
set_option maxRecDepth 20000 in
theorem kX13_settle_0 (hZ : zO b e D A X) (j : Nat → rx_K) (hj : ∀ k pc, [31][k]? = some pc → rx_OK (zV b e D A X) mX13_settle 2 pc (j k)) : rx_OK (zV b e D A X) mX13_settle 2 0 (bX13_settle_0 j) := by
  unfold bX13_settle_0
  refine rx_by (e_ldR _ _) (s_aload_n hZ.1 dX13_settle_0 rfl ?_)
  refine s_callV hZ.1 (met_X13_numberWorld hZ) (by decide) zy_X13_numberWorld zcl13 zw3605 zw320 (Or.inl zw3603) dX13_settle_1 ?_
  refine rx_by (e_ldR _ _) (s_aload_n hZ.1 dX13_settle_4 rfl ?_)
  refine s_iconst dX13_settle_5 (by decide +kernel) ?_
  refine zp13_145 hZ.1 dX13_settle_6 zw4265 ?_
  refine rx_by (e_ldR _ _) (s_aload_n hZ.1 dX13_settle_9 rfl ?_)
  refine s_iconst dX13_settle_10 (by decide +kernel) ?_
  refine s_callV hZ.1 (met_X13_clearSet hZ) (by decide) zy_X13_clearSet zcl13 zw3613 zw322 (Or.inl zw3611) dX13_settle_11 ?_
  refine rx_by (e_ldR _ _) (s_aload_n hZ.1 dX13_settle_14 rfl ?_)
  refine s_iconst dX13_settle_15 (by decide +kernel) ?_
  refine zp13_136 hZ.1 dX13_settle_16 zw4256 ?_
  refine rx_by (e_ldR _ _) (s_aload_n hZ.1 dX13_settle_19 rfl ?_)
  refine s_iconst dX13_settle_20 (by decide +kernel) ?_
  refine zp13_151 hZ.1 dX13_settle_21 zw4271 ?_
  refine rx_by (e_ldR _ _) (s_aload_n hZ.1 dX13_settle_24 rfl ?_)
  refine s_iconst dX13_settle_25 (by decide +kernel) ?_
  refine zp13_153 hZ.1 dX13_settle_26 zw4273 ?_
  refine s_iconst dX13_settle_29 (by decide +kernel) ?_
  refine rx_by (e_stI _ _) (s_istore_n hZ.1 dX13_settle_30 rfl (Nat.le_of_ble_eq_true rfl) ?_)
  exact (kX13_settle_31 hZ j hj)
noncomputable def hX13_settle (j : Nat → rx_K) : List rx_K := [bX13_settle_31 j]
theorem lX13_settle (hZ : zO b e D A X) : ∀ n k pc, [31][k]? = some pc → rx_OK (zV b e D A X) mX13_settle 2 pc (rx_J hX13_settle n k) := rx_loop fun j hj k pc h => by
  match k, h with
  | 0, h =>
    have e9 := Option.some.inj (show some 31 = some pc from h)
    subst e9
    exact kX13_settle_31 hZ j hj
  | _ + 1, h => exact absurd h (by simp)
noncomputable def fX13_settle : List Nat → rx_H → Option (Nat × rx_H) := rx_ent 2 (bX13_settle_0 (rx_J hX13_settle 1000000))
theorem met_X13_settle (hZ : zO b e D A X) : rx_Met (zV b e D A X) 2 yX13_settle mX13_settle fX13_settle := rx_entry hZ.1 (kX13_settle_0 hZ _ (lX13_settle hZ 1000000)) (by decide +kernel) rfl (fun h => by cases h)
theorem zy_X13_settle : rx_Y (zV b e D A X) yX13_settle mX13_settle 0 := ⟨zw3602, zw431, by decide, by decide +kernel, by decide +kernel, by decide +kernel⟩
end ZQ2

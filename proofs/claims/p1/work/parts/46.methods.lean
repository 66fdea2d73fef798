section ZM6
variable {b : Nat} {e : Nat → Value} {D : va_G} {A : Nat → ClassId} {X : State → Prop}
abbrev mX12_fourBytes : rx_M := (RX12, cX12_fourBytes, 3, none, false)
noncomputable def bX12_fourBytes_46 (j : Nat → rx_K) : rx_K := o_ret0
set_option maxRecDepth 20000 in
theorem kX12_fourBytes_46 (hZ : zO b e D A X) (j : Nat → rx_K) (hj : ∀ k pc, [3][k]? = some pc → rx_OK (zV b e D A X) mX12_fourBytes 0 pc (j k)) : rx_OK (zV b e D A X) mX12_fourBytes 0 46 (bX12_fourBytes_46 j) := by
  unfold bX12_fourBytes_46
  exact s_vret rfl dX12_fourBytes_46
noncomputable def bX12_fourBytes_17 (j : Nat → rx_K) : rx_K := q_ld q_isR 0 (q_getf 12 0 (q_ld q_isR 0 (q_getf 12 1 (q_ld q_isI 1 (q_ld q_isI 2 (o_iushrX (o_i2bX (p_ast 2 rx_nb rx_isB (q_ld q_isR 0 (q_dup (q_getf 12 1 (o_const 8 (q_bi q_Fadd (p_putf q_isI 12 1 (q_inc 2 34359738304 ((j 0)))))))))))))))))
set_option maxRecDepth 20000 in
theorem kX12_fourBytes_17 (hZ : zO b e D A X) (j : Nat → rx_K) (hj : ∀ k pc, [3][k]? = some pc → rx_OK (zV b e D A X) mX12_fourBytes 0 pc (j k)) : rx_OK (zV b e D A X) mX12_fourBytes 0 17 (bX12_fourBytes_17 j) := by
  unfold bX12_fourBytes_17
  refine rx_by (e_ldR _ _) (s_aload_n hZ.1 dX12_fourBytes_17 rfl ?_)
  refine zg12_0 dX12_fourBytes_18 zw1603 ?_
  refine rx_by (e_ldR _ _) (s_aload_n hZ.1 dX12_fourBytes_21 rfl ?_)
  refine zg12_1 dX12_fourBytes_22 zw1604 ?_
  refine rx_by (e_ldI _ _) (s_iload_n hZ.1 dX12_fourBytes_25 rfl ?_)
  refine rx_by (e_ldI _ _) (s_iload_n hZ.1 dX12_fourBytes_26 rfl ?_)
  refine s_iushrX hZ.1 dX12_fourBytes_27 ?_
  refine s_i2bX dX12_fourBytes_28 ?_
  refine rx_by2 (l_ast _ _ _ _) (s_bast (tt := 2) rfl dX12_fourBytes_29 ?_)
  refine rx_by (e_ldR _ _) (s_aload_n hZ.1 dX12_fourBytes_30 rfl ?_)
  refine rx_by (e_dup _) (s_dup hZ.1 dX12_fourBytes_31 ?_)
  refine zg12_1 dX12_fourBytes_32 zw1604 ?_
  refine s_iconst dX12_fourBytes_35 (by decide +kernel) ?_
  refine rx_by (e_add _) (s_iadd dX12_fourBytes_36 ?_)
  refine zp12_1 hZ.1 dX12_fourBytes_37 zw1604 ?_
  refine rx_by (e_inc (by decide +kernel) _) (s_iinc hZ.1 dX12_fourBytes_40 (Nat.le_of_ble_eq_true rfl) ?_)
  exact s_goto dX12_fourBytes_43 (by decide) (hj 0 3 rfl)
noncomputable def bX12_fourBytes_7 (j : Nat → rx_K) : rx_K := q_ld q_isR 0 (q_getf 12 1 (o_const 32000 (q_lt2 (bX12_fourBytes_17 j) (bX12_fourBytes_46 j))))
set_option maxRecDepth 20000 in
theorem kX12_fourBytes_7 (hZ : zO b e D A X) (j : Nat → rx_K) (hj : ∀ k pc, [3][k]? = some pc → rx_OK (zV b e D A X) mX12_fourBytes 0 pc (j k)) : rx_OK (zV b e D A X) mX12_fourBytes 0 7 (bX12_fourBytes_7 j) := by
  unfold bX12_fourBytes_7
  refine rx_by (e_ldR _ _) (s_aload_n hZ.1 dX12_fourBytes_7 rfl ?_)
  refine zg12_1 dX12_fourBytes_8 zw1604 ?_
  refine s_sipush dX12_fourBytes_11 (by decide +kernel) ?_
  exact rx_by (e_lt2 _ _) (s_icmp_ge dX12_fourBytes_14 (by decide) (kX12_fourBytes_46 hZ j hj) (kX12_fourBytes_17 hZ j hj))
noncomputable def bX12_fourBytes_3 (j : Nat → rx_K) : rx_K := q_ld q_isI 2 (q_lt1 (bX12_fourBytes_46 j) (bX12_fourBytes_7 j))
set_option maxRecDepth 20000 in
theorem kX12_fourBytes_3 (hZ : zO b e D A X) (j : Nat → rx_K) (hj : ∀ k pc, [3][k]? = some pc → rx_OK (zV b e D A X) mX12_fourBytes 0 pc (j k)) : rx_OK (zV b e D A X) mX12_fourBytes 0 3 (bX12_fourBytes_3 j) := by
  unfold bX12_fourBytes_3
  refine rx_by (e_ldI _ _) (s_iload_n hZ.1 dX12_fourBytes_3 rfl ?_)
  exact rx_by (e_lt1 _ _) (s_if_lt dX12_fourBytes_4 (by decide) (kX12_fourBytes_46 hZ j hj) (kX12_fourBytes_7 hZ j hj))
noncomputable def bX12_fourBytes_0 (j : Nat → rx_K) : rx_K := o_const 192 (q_st q_isI 2 ((bX12_fourBytes_3 j)))
set_option maxRecDepth 20000 in
theorem kX12_fourBytes_0 (hZ : zO b e D A X) (j : Nat → rx_K) (hj : ∀ k pc, [3][k]? = some pc → rx_OK (zV b e D A X) mX12_fourBytes 0 pc (j k)) : rx_OK (zV b e D A X) mX12_fourBytes 0 0 (bX12_fourBytes_0 j) := by
  unfold bX12_fourBytes_0
  refine s_bipush dX12_fourBytes_0 (by decide +kernel) ?_
  refine rx_by (e_stI _ _) (s_istore_n hZ.1 dX12_fourBytes_2 rfl (Nat.le_of_ble_eq_true rfl) ?_)
  exact (kX12_fourBytes_3 hZ j hj)
noncomputable def hX12_fourBytes (j : Nat → rx_K) : List rx_K := [bX12_fourBytes_3 j]
theorem lX12_fourBytes (hZ : zO b e D A X) : ∀ n k pc, [3][k]? = some pc → rx_OK (zV b e D A X) mX12_fourBytes 0 pc (rx_J hX12_fourBytes n k) := rx_loop fun j hj k pc h => by
  match k, h with
  | 0, h =>
    have e9 := Option.some.inj (show some 3 = some pc from h)
    subst e9
    exact kX12_fourBytes_3 hZ j hj
  | _ + 1, h => exact absurd h (by simp)
noncomputable def fX12_fourBytes : List Nat → rx_H → Option (Nat × rx_H) := rx_ent 3 (bX12_fourBytes_0 (rx_J hX12_fourBytes 1000000))
theorem met_X12_fourBytes (hZ : zO b e D A X) : rx_Met (zV b e D A X) 0 yX12_fourBytes mX12_fourBytes fX12_fourBytes := rx_entry hZ.1 (kX12_fourBytes_0 hZ _ (lX12_fourBytes hZ 1000000)) (by decide +kernel) rfl (fun h => by cases h)
theorem zy_X12_fourBytes : rx_Y (zV b e D A X) yX12_fourBytes mX12_fourBytes 1 := ⟨zw1674, zw413, by decide, by decide +kernel, by decide +kernel, by decide +kernel⟩
abbrev mX12_feed : rx_M := (RX12, cX12_feed, 6, (some .int), false)
noncomputable def bX12_feed_16 : rx_K := q_ld q_isR 0 (q_ld q_isI 1 (o_callV 1 12 fX12_fourBytes (q_ld q_isR 0 (q_ld q_isI 2 (o_callV 1 12 fX12_fourBytes (q_ld q_isR 0 (q_ld q_isI 3 (o_callV 1 12 fX12_fourBytes (q_ld q_isR 0 (q_ld q_isI 4 (o_callV 1 12 fX12_fourBytes (q_ld q_isR 0 (q_ld q_isI 5 (o_callV 1 12 fX12_fourBytes (q_ld q_isR 0 (q_getf 12 1 (o_ret1 rx_isI)))))))))))))))))
set_option maxRecDepth 20000 in
theorem kX12_feed_16 (hZ : zO b e D A X) : rx_OK (zV b e D A X) mX12_feed 1 16 bX12_feed_16 := by
  unfold bX12_feed_16
  refine rx_by (e_ldR _ _) (s_aload_n hZ.1 dX12_feed_16 rfl ?_)
  refine rx_by (e_ldI _ _) (s_iload_n hZ.1 dX12_feed_17 rfl ?_)
  refine s_callV hZ.1 (met_X12_fourBytes hZ) (by decide) zy_X12_fourBytes zcl12 zw1673 zw5 (Or.inl zw1671) dX12_feed_18 ?_
  refine rx_by (e_ldR _ _) (s_aload_n hZ.1 dX12_feed_21 rfl ?_)
  refine rx_by (e_ldI _ _) (s_iload_n hZ.1 dX12_feed_22 rfl ?_)
  refine s_callV hZ.1 (met_X12_fourBytes hZ) (by decide) zy_X12_fourBytes zcl12 zw1673 zw5 (Or.inl zw1671) dX12_feed_23 ?_
  refine rx_by (e_ldR _ _) (s_aload_n hZ.1 dX12_feed_26 rfl ?_)
  refine rx_by (e_ldI _ _) (s_iload_n hZ.1 dX12_feed_27 rfl ?_)
  refine s_callV hZ.1 (met_X12_fourBytes hZ) (by decide) zy_X12_fourBytes zcl12 zw1673 zw5 (Or.inl zw1671) dX12_feed_28 ?_
  refine rx_by (e_ldR _ _) (s_aload_n hZ.1 dX12_feed_31 rfl ?_)
  refine rx_by (e_ldI _ _) (s_iload hZ.1 dX12_feed_32 ?_)
  refine s_callV hZ.1 (met_X12_fourBytes hZ) (by decide) zy_X12_fourBytes zcl12 zw1673 zw5 (Or.inl zw1671) dX12_feed_34 ?_
  refine rx_by (e_ldR _ _) (s_aload_n hZ.1 dX12_feed_37 rfl ?_)
  refine rx_by (e_ldI _ _) (s_iload hZ.1 dX12_feed_38 ?_)
  refine s_callV hZ.1 (met_X12_fourBytes hZ) (by decide) zy_X12_fourBytes zcl12 zw1673 zw5 (Or.inl zw1671) dX12_feed_40 ?_
  refine rx_by (e_ldR _ _) (s_aload_n hZ.1 dX12_feed_43 rfl ?_)
  refine zg12_1 dX12_feed_44 zw1604 ?_
  exact s_iret hZ.1 rfl dX12_feed_47
noncomputable def bX12_feed_0 : rx_K := q_ld q_isR 0 (q_getf 12 1 (o_const 160 (q_bi q_Fadd (o_const 32000 (q_gt2 o_none bX12_feed_16)))))
set_option maxRecDepth 20000 in
theorem kX12_feed_0 (hZ : zO b e D A X) : rx_OK (zV b e D A X) mX12_feed 1 0 bX12_feed_0 := by
  unfold bX12_feed_0
  refine rx_by (e_ldR _ _) (s_aload_n hZ.1 dX12_feed_0 rfl ?_)
  refine zg12_1 dX12_feed_1 zw1604 ?_
  refine s_bipush dX12_feed_4 (by decide +kernel) ?_
  refine rx_by (e_add _) (s_iadd dX12_feed_6 ?_)
  refine s_sipush dX12_feed_7 (by decide +kernel) ?_
  exact rx_by (e_gt2 _ _) (s_icmp_le dX12_feed_10 (by decide) (kX12_feed_16 hZ) (s_none (pc := 13)))
noncomputable def fX12_feed : List Nat → rx_H → Option (Nat × rx_H) := rx_ent 6 bX12_feed_0
theorem met_X12_feed (hZ : zO b e D A X) : rx_Met (zV b e D A X) 1 yX12_feed mX12_feed fX12_feed := rx_entry hZ.1 (kX12_feed_0 hZ) (by decide +kernel) rfl (fun h => by cases h)
theorem zy_X12_feed : rx_Y (zV b e D A X) yX12_feed mX12_feed 5 := ⟨zw1670, zw413, by decide, by decide +kernel, by decide +kernel, by decide +kernel⟩
abbrev mX13_four : rx_M := (RX13, cX13_four, 3, none, false)
noncomputable def bX13_four_39 (j : Nat → rx_K) : rx_K := o_ret0
set_option maxRecDepth 20000 in
theorem kX13_four_39 (hZ : zO b e D A X) (j : Nat → rx_K) (hj : ∀ k pc, [3][k]? = some pc → rx_OK (zV b e D A X) mX13_four 0 pc (j k)) : rx_OK (zV b e D A X) mX13_four 0 39 (bX13_four_39 j) := by
  unfold bX13_four_39
  exact s_vret rfl dX13_four_39
noncomputable def bX13_four_7 (j : Nat → rx_K) : rx_K := q_ld q_isR 0 (q_getf 13 0 (q_ld q_isR 0 (q_getf 13 1 (q_ld q_isI 1 (q_ld q_isI 2 (o_iushrX (o_const 2040 (o_iandX (p_ast 0 (fun v => v) q_isI (q_ld q_isR 0 (q_dup (q_getf 13 1 (o_const 8 (q_bi q_Fadd (p_putf q_isI 13 1 (q_inc 2 34359738304 ((j 0))))))))))))))))))
set_option maxRecDepth 20000 in
theorem kX13_four_7 (hZ : zO b e D A X) (j : Nat → rx_K) (hj : ∀ k pc, [3][k]? = some pc → rx_OK (zV b e D A X) mX13_four 0 pc (j k)) : rx_OK (zV b e D A X) mX13_four 0 7 (bX13_four_7 j) := by
  unfold bX13_four_7
  refine rx_by (e_ldR _ _) (s_aload_n hZ.1 dX13_four_7 rfl ?_)
  refine zg13_0 dX13_four_8 zw4121 ?_
  refine rx_by (e_ldR _ _) (s_aload_n hZ.1 dX13_four_11 rfl ?_)
  refine zg13_1 dX13_four_12 zw4122 ?_
  refine rx_by (e_ldI _ _) (s_iload_n hZ.1 dX13_four_15 rfl ?_)
  refine rx_by (e_ldI _ _) (s_iload_n hZ.1 dX13_four_16 rfl ?_)
  refine s_iushrX hZ.1 dX13_four_17 ?_
  refine s_sipush dX13_four_18 (by decide +kernel) ?_
  refine s_iandX dX13_four_21 ?_
  refine rx_by2 (l_astI _ _ _) (s_iast hZ.1 (tt := 0) rfl dX13_four_22 ?_)
  refine rx_by (e_ldR _ _) (s_aload_n hZ.1 dX13_four_23 rfl ?_)
  refine rx_by (e_dup _) (s_dup hZ.1 dX13_four_24 ?_)
  refine zg13_1 dX13_four_25 zw4122 ?_
  refine s_iconst dX13_four_28 (by decide +kernel) ?_
  refine rx_by (e_add _) (s_iadd dX13_four_29 ?_)
  refine zp13_1 hZ.1 dX13_four_30 zw4122 ?_
  refine rx_by (e_inc (by decide +kernel) _) (s_iinc hZ.1 dX13_four_33 (Nat.le_of_ble_eq_true rfl) ?_)
  exact s_goto dX13_four_36 (by decide) (hj 0 3 rfl)
noncomputable def bX13_four_3 (j : Nat → rx_K) : rx_K := q_ld q_isI 2 (q_lt1 (bX13_four_39 j) (bX13_four_7 j))
set_option maxRecDepth 20000 in
theorem kX13_four_3 (hZ : zO b e D A X) (j : Nat → rx_K) (hj : ∀ k pc, [3][k]? = some pc → rx_OK (zV b e D A X) mX13_four 0 pc (j k)) : rx_OK (zV b e D A X) mX13_four 0 3 (bX13_four_3 j) := by
  unfold bX13_four_3
  refine rx_by (e_ldI _ _) (s_iload_n hZ.1 dX13_four_3 rfl ?_)
  exact rx_by (e_lt1 _ _) (s_if_lt dX13_four_4 (by decide) (kX13_four_39 hZ j hj) (kX13_four_7 hZ j hj))
noncomputable def bX13_four_0 (j : Nat → rx_K) : rx_K := o_const 192 (q_st q_isI 2 ((bX13_four_3 j)))
set_option maxRecDepth 20000 in
theorem kX13_four_0 (hZ : zO b e D A X) (j : Nat → rx_K) (hj : ∀ k pc, [3][k]? = some pc → rx_OK (zV b e D A X) mX13_four 0 pc (j k)) : rx_OK (zV b e D A X) mX13_four 0 0 (bX13_four_0 j) := by
  unfold bX13_four_0
  refine s_bipush dX13_four_0 (by decide +kernel) ?_
  refine rx_by (e_stI _ _) (s_istore_n hZ.1 dX13_four_2 rfl (Nat.le_of_ble_eq_true rfl) ?_)
  exact (kX13_four_3 hZ j hj)
noncomputable def hX13_four (j : Nat → rx_K) : List rx_K := [bX13_four_3 j]
theorem lX13_four (hZ : zO b e D A X) : ∀ n k pc, [3][k]? = some pc → rx_OK (zV b e D A X) mX13_four 0 pc (rx_J hX13_four n k) := rx_loop fun j hj k pc h => by
  match k, h with
  | 0, h =>
    have e9 := Option.some.inj (show some 3 = some pc from h)
    subst e9
    exact kX13_four_3 hZ j hj
  | _ + 1, h => exact absurd h (by simp)
noncomputable def fX13_four : List Nat → rx_H → Option (Nat × rx_H) := rx_ent 3 (bX13_four_0 (rx_J hX13_four 1000000))
theorem met_X13_four (hZ : zO b e D A X) : rx_Met (zV b e D A X) 0 yX13_four mX13_four fX13_four := rx_entry hZ.1 (kX13_four_0 hZ _ (lX13_four hZ 1000000)) (by decide +kernel) rfl (fun h => by cases h)
theorem zy_X13_four : rx_Y (zV b e D A X) yX13_four mX13_four 1 := ⟨zw2909, zw431, by decide, by decide +kernel, by decide +kernel, by decide +kernel⟩
abbrev mX13_feed : rx_M := (RX13, cX13_feed, 6, (some .int), false)
noncomputable def bX13_feed_16 : rx_K := q_ld q_isR 0 (q_ld q_isI 1 (o_callV 1 13 fX13_four (q_ld q_isR 0 (q_ld q_isI 2 (o_callV 1 13 fX13_four (q_ld q_isR 0 (q_ld q_isI 3 (o_callV 1 13 fX13_four (q_ld q_isR 0 (q_ld q_isI 4 (o_callV 1 13 fX13_four (q_ld q_isR 0 (q_ld q_isI 5 (o_callV 1 13 fX13_four (q_ld q_isR 0 (q_getf 13 1 (o_ret1 rx_isI)))))))))))))))))
set_option maxRecDepth 20000 in
theorem kX13_feed_16 (hZ : zO b e D A X) : rx_OK (zV b e D A X) mX13_feed 1 16 bX13_feed_16 := by
  unfold bX13_feed_16
  refine rx_by (e_ldR _ _) (s_aload_n hZ.1 dX13_feed_16 rfl ?_)
  refine rx_by (e_ldI _ _) (s_iload_n hZ.1 dX13_feed_17 rfl ?_)
  refine s_callV hZ.1 (met_X13_four hZ) (by decide) zy_X13_four zcl13 zw2907 zw175 (Or.inl zw2905) dX13_feed_18 ?_
  refine rx_by (e_ldR _ _) (s_aload_n hZ.1 dX13_feed_21 rfl ?_)
  refine rx_by (e_ldI _ _) (s_iload_n hZ.1 dX13_feed_22 rfl ?_)
  refine s_callV hZ.1 (met_X13_four hZ) (by decide) zy_X13_four zcl13 zw2907 zw175 (Or.inl zw2905) dX13_feed_23 ?_
  refine rx_by (e_ldR _ _) (s_aload_n hZ.1 dX13_feed_26 rfl ?_)
  refine rx_by (e_ldI _ _) (s_iload_n hZ.1 dX13_feed_27 rfl ?_)
  refine s_callV hZ.1 (met_X13_four hZ) (by decide) zy_X13_four zcl13 zw2907 zw175 (Or.inl zw2905) dX13_feed_28 ?_
  refine rx_by (e_ldR _ _) (s_aload_n hZ.1 dX13_feed_31 rfl ?_)
  refine rx_by (e_ldI _ _) (s_iload hZ.1 dX13_feed_32 ?_)
  refine s_callV hZ.1 (met_X13_four hZ) (by decide) zy_X13_four zcl13 zw2907 zw175 (Or.inl zw2905) dX13_feed_34 ?_
  refine rx_by (e_ldR _ _) (s_aload_n hZ.1 dX13_feed_37 rfl ?_)
  refine rx_by (e_ldI _ _) (s_iload hZ.1 dX13_feed_38 ?_)
  refine s_callV hZ.1 (met_X13_four hZ) (by decide) zy_X13_four zcl13 zw2907 zw175 (Or.inl zw2905) dX13_feed_40 ?_
  refine rx_by (e_ldR _ _) (s_aload_n hZ.1 dX13_feed_43 rfl ?_)
  refine zg13_1 dX13_feed_44 zw4122 ?_
  exact s_iret hZ.1 rfl dX13_feed_47
noncomputable def bX13_feed_0 : rx_K := q_ld q_isR 0 (q_getf 13 1 (o_const 160 (q_bi q_Fadd (o_const 32000 (q_gt2 o_none bX13_feed_16)))))
set_option maxRecDepth 20000 in
theorem kX13_feed_0 (hZ : zO b e D A X) : rx_OK (zV b e D A X) mX13_feed 1 0 bX13_feed_0 := by
  unfold bX13_feed_0
  refine rx_by (e_ldR _ _) (s_aload_n hZ.1 dX13_feed_0 rfl ?_)
  refine zg13_1 dX13_feed_1 zw4122 ?_
  refine s_bipush dX13_feed_4 (by decide +kernel) ?_
  refine rx_by (e_add _) (s_iadd dX13_feed_6 ?_)
  refine s_sipush dX13_feed_7 (by decide +kernel) ?_
  exact rx_by (e_gt2 _ _) (s_icmp_le dX13_feed_10 (by decide) (kX13_feed_16 hZ) (s_none (pc := 13)))
noncomputable def fX13_feed : List Nat → rx_H → Option (Nat × rx_H) := rx_ent 6 bX13_feed_0
theorem met_X13_feed (hZ : zO b e D A X) : rx_Met (zV b e D A X) 1 yX13_feed mX13_feed fX13_feed := rx_entry hZ.1 (kX13_feed_0 hZ) (by decide +kernel) rfl (fun h => by cases h)
theorem zy_X13_feed : rx_Y (zV b e D A X) yX13_feed mX13_feed 5 := ⟨zw2904, zw431, by decide, by decide +kernel, by decide +kernel, by decide +kernel⟩
abbrev mX12_cut : rx_M := (RX12, cX12_cut, 2, (some .int), false)
noncomputable def bX12_cut_14 : rx_K := q_ld q_isR 0 (q_dup (q_getf 12 1 (q_ld q_isI 1 (q_bi q_Fsub (p_putf q_isI 12 1 (q_ld q_isR 0 (q_getf 12 1 (o_ret1 rx_isI))))))))
set_option maxRecDepth 20000 in
theorem kX12_cut_14 (hZ : zO b e D A X) : rx_OK (zV b e D A X) mX12_cut 0 14 bX12_cut_14 := by
  unfold bX12_cut_14
  refine rx_by (e_ldR _ _) (s_aload_n hZ.1 dX12_cut_14 rfl ?_)
  refine rx_by (e_dup _) (s_dup hZ.1 dX12_cut_15 ?_)
  refine zg12_1 dX12_cut_16 zw1604 ?_
  refine rx_by (e_ldI _ _) (s_iload_n hZ.1 dX12_cut_19 rfl ?_)
  refine rx_by (e_sub _) (s_isub dX12_cut_20 ?_)
  refine zp12_1 hZ.1 dX12_cut_21 zw1604 ?_
  refine rx_by (e_ldR _ _) (s_aload_n hZ.1 dX12_cut_24 rfl ?_)
  refine zg12_1 dX12_cut_25 zw1604 ?_
  exact s_iret hZ.1 rfl dX12_cut_28
noncomputable def bX12_cut_12 : rx_K := o_const 34359738360 (o_ret1 rx_isI)
set_option maxRecDepth 20000 in
theorem kX12_cut_12 (hZ : zO b e D A X) : rx_OK (zV b e D A X) mX12_cut 0 12 bX12_cut_12 := by
  unfold bX12_cut_12
  refine s_iconst dX12_cut_12 (by decide +kernel) ?_
  exact s_iret hZ.1 rfl dX12_cut_13
noncomputable def bX12_cut_4 : rx_K := q_ld q_isI 1 (q_ld q_isR 0 (q_getf 12 1 (q_gt2 bX12_cut_12 bX12_cut_14)))
set_option maxRecDepth 20000 in
theorem kX12_cut_4 (hZ : zO b e D A X) : rx_OK (zV b e D A X) mX12_cut 0 4 bX12_cut_4 := by
  unfold bX12_cut_4
  refine rx_by (e_ldI _ _) (s_iload_n hZ.1 dX12_cut_4 rfl ?_)
  refine rx_by (e_ldR _ _) (s_aload_n hZ.1 dX12_cut_5 rfl ?_)
  refine zg12_1 dX12_cut_6 zw1604 ?_
  exact rx_by (e_gt2 _ _) (s_icmp_le dX12_cut_9 (by decide) (kX12_cut_14 hZ) (kX12_cut_12 hZ))
noncomputable def bX12_cut_0 : rx_K := q_ld q_isI 1 (q_lt1 bX12_cut_12 bX12_cut_4)
set_option maxRecDepth 20000 in
theorem kX12_cut_0 (hZ : zO b e D A X) : rx_OK (zV b e D A X) mX12_cut 0 0 bX12_cut_0 := by
  unfold bX12_cut_0
  refine rx_by (e_ldI _ _) (s_iload_n hZ.1 dX12_cut_0 rfl ?_)
  exact rx_by (e_lt1 _ _) (s_if_lt dX12_cut_1 (by decide) (kX12_cut_12 hZ) (kX12_cut_4 hZ))
noncomputable def fX12_cut : List Nat → rx_H → Option (Nat × rx_H) := rx_ent 2 bX12_cut_0
theorem met_X12_cut (hZ : zO b e D A X) : rx_Met (zV b e D A X) 0 yX12_cut mX12_cut fX12_cut := rx_entry hZ.1 (kX12_cut_0 hZ) (by decide +kernel) rfl (fun h => by cases h)
theorem zy_X12_cut : rx_Y (zV b e D A X) yX12_cut mX12_cut 1 := ⟨zw1678, zw413, by decide, by decide +kernel, by decide +kernel, by decide +kernel⟩
abbrev mX13_cut : rx_M := (RX13, cX13_cut, 2, (some .int), false)
noncomputable def bX13_cut_14 : rx_K := q_ld q_isR 0 (q_dup (q_getf 13 1 (q_ld q_isI 1 (q_bi q_Fsub (p_putf q_isI 13 1 (q_ld q_isR 0 (q_getf 13 1 (o_ret1 rx_isI))))))))
set_option maxRecDepth 20000 in
theorem kX13_cut_14 (hZ : zO b e D A X) : rx_OK (zV b e D A X) mX13_cut 0 14 bX13_cut_14 := by
  unfold bX13_cut_14
  refine rx_by (e_ldR _ _) (s_aload_n hZ.1 dX13_cut_14 rfl ?_)
  refine rx_by (e_dup _) (s_dup hZ.1 dX13_cut_15 ?_)
  refine zg13_1 dX13_cut_16 zw4122 ?_
  refine rx_by (e_ldI _ _) (s_iload_n hZ.1 dX13_cut_19 rfl ?_)
  refine rx_by (e_sub _) (s_isub dX13_cut_20 ?_)
  refine zp13_1 hZ.1 dX13_cut_21 zw4122 ?_
  refine rx_by (e_ldR _ _) (s_aload_n hZ.1 dX13_cut_24 rfl ?_)
  refine zg13_1 dX13_cut_25 zw4122 ?_
  exact s_iret hZ.1 rfl dX13_cut_28
noncomputable def bX13_cut_12 : rx_K := o_const 34359738360 (o_ret1 rx_isI)
set_option maxRecDepth 20000 in
theorem kX13_cut_12 (hZ : zO b e D A X) : rx_OK (zV b e D A X) mX13_cut 0 12 bX13_cut_12 := by
  unfold bX13_cut_12
  refine s_iconst dX13_cut_12 (by decide +kernel) ?_
  exact s_iret hZ.1 rfl dX13_cut_13
noncomputable def bX13_cut_4 : rx_K := q_ld q_isI 1 (q_ld q_isR 0 (q_getf 13 1 (q_gt2 bX13_cut_12 bX13_cut_14)))
set_option maxRecDepth 20000 in
theorem kX13_cut_4 (hZ : zO b e D A X) : rx_OK (zV b e D A X) mX13_cut 0 4 bX13_cut_4 := by
  unfold bX13_cut_4
  refine rx_by (e_ldI _ _) (s_iload_n hZ.1 dX13_cut_4 rfl ?_)
  refine rx_by (e_ldR _ _) (s_aload_n hZ.1 dX13_cut_5 rfl ?_)
  refine zg13_1 dX13_cut_6 zw4122 ?_
  exact rx_by (e_gt2 _ _) (s_icmp_le dX13_cut_9 (by decide) (kX13_cut_14 hZ) (kX13_cut_12 hZ))
noncomputable def bX13_cut_0 : rx_K := q_ld q_isI 1 (q_lt1 bX13_cut_12 bX13_cut_4)
set_option maxRecDepth 20000 in
theorem kX13_cut_0 (hZ : zO b e D A X) : rx_OK (zV b e D A X) mX13_cut 0 0 bX13_cut_0 := by
  unfold bX13_cut_0
  refine rx_by (e_ldI _ _) (s_iload_n hZ.1 dX13_cut_0 rfl ?_)
  exact rx_by (e_lt1 _ _) (s_if_lt dX13_cut_1 (by decide) (kX13_cut_12 hZ) (kX13_cut_4 hZ))
noncomputable def fX13_cut : List Nat → rx_H → Option (Nat × rx_H) := rx_ent 2 bX13_cut_0
theorem met_X13_cut (hZ : zO b e D A X) : rx_Met (zV b e D A X) 0 yX13_cut mX13_cut fX13_cut := rx_entry hZ.1 (kX13_cut_0 hZ) (by decide +kernel) rfl (fun h => by cases h)
theorem zy_X13_cut : rx_Y (zV b e D A X) yX13_cut mX13_cut 1 := ⟨zw2913, zw431, by decide, by decide +kernel, by decide +kernel, by decide +kernel⟩
abbrev mX12_unused : rx_M := (RX12, cX12_unused, 1, (some (.object "LinkHouse$Build")), false)
noncomputable def bX12_unused_0 : rx_K := q_ld q_isR 0 (q_getf 12 4 (q_ld q_isR 0 (o_callV 0 12 fX12_allBuilt (o_const 128 (o_mm z_min (q_ald 6 (o_ret1 rx_isR)))))))
set_option maxRecDepth 20000 in
theorem kX12_unused_0 (hZ : zO b e D A X) : rx_OK (zV b e D A X) mX12_unused 1 0 bX12_unused_0 := by
  unfold bX12_unused_0
  refine rx_by (e_ldR _ _) (s_aload_n hZ.1 dX12_unused_0 rfl ?_)
  refine zg12_4 dX12_unused_1 zw1607 ?_
  refine rx_by (e_ldR _ _) (s_aload_n hZ.1 dX12_unused_4 rfl ?_)
  refine s_callV hZ.1 (met_X12_allBuilt hZ) (by decide) zy_X12_allBuilt zcl12 zw1563 zw2 (Or.inl zw1561) dX12_unused_5 ?_
  refine s_bipush dX12_unused_8 (by decide +kernel) ?_
  refine s_mmin hZ.1 (by decide) zw1687 zw1688 zw432 zmath_min dX12_unused_10 ?_
  refine rx_by (e_ald _ _) (s_aald (tt := 6) rfl rfl dX12_unused_13 ?_)
  exact s_aret hZ.1 rfl (Or.inl ⟨_, rfl⟩) dX12_unused_14
noncomputable def fX12_unused : List Nat → rx_H → Option (Nat × rx_H) := rx_ent 1 bX12_unused_0
theorem met_X12_unused (hZ : zO b e D A X) : rx_Met (zV b e D A X) 1 yX12_unused mX12_unused fX12_unused := rx_entry hZ.1 (kX12_unused_0 hZ) (by decide +kernel) rfl (fun h => by cases h)
theorem zy_X12_unused : rx_Y (zV b e D A X) yX12_unused mX12_unused 0 := ⟨zw1686, zw413, by decide, by decide +kernel, by decide +kernel, by decide +kernel⟩
abbrev mX12_splice : rx_M := (RX12, cX12_splice, 6, (some .int), false)
noncomputable def bX12_splice_86 : rx_K := q_ld q_isI 2 (q_bi q_Fsub (o_copy 2 (rx_chk .byte) (q_ld q_isR 5 (o_const 0 (q_ld q_isR 0 (q_getf 12 0 (q_ld q_isI 1 (q_ld q_isI 3 (o_copy 2 (rx_chk .byte) (q_ld q_isR 0 (q_dup (q_getf 12 1 (q_ld q_isI 2 (q_bi q_Fsub (p_putf q_isI 12 1 (q_ld q_isR 0 (q_getf 12 1 (o_ret1 rx_isI))))))))))))))))))
set_option maxRecDepth 20000 in
theorem kX12_splice_86 (hZ : zO b e D A X) : rx_OK (zV b e D A X) mX12_splice 2 86 bX12_splice_86 := by
  unfold bX12_splice_86
  refine rx_by (e_ldI _ _) (s_iload_n hZ.1 dX12_splice_86 rfl ?_)
  refine rx_by (e_sub _) (s_isub dX12_splice_87 ?_)
  refine s_copy hZ.1 (tt := 2) (ty := .byte) rfl rfl (fun c h => by cases h) rfl (by decide) zw1690 zw1692 zw1691 zw433 dX12_splice_88 ?_
  refine rx_by (e_ldR _ _) (s_aload hZ.1 dX12_splice_91 ?_)
  refine s_iconst dX12_splice_93 (by decide +kernel) ?_
  refine rx_by (e_ldR _ _) (s_aload_n hZ.1 dX12_splice_94 rfl ?_)
  refine zg12_0 dX12_splice_95 zw1603 ?_
  refine rx_by (e_ldI _ _) (s_iload_n hZ.1 dX12_splice_98 rfl ?_)
  refine rx_by (e_ldI _ _) (s_iload_n hZ.1 dX12_splice_99 rfl ?_)
  refine s_copy hZ.1 (tt := 2) (ty := .byte) rfl rfl (fun c h => by cases h) rfl (by decide) zw1690 zw1692 zw1691 zw433 dX12_splice_100 ?_
  refine rx_by (e_ldR _ _) (s_aload_n hZ.1 dX12_splice_103 rfl ?_)
  refine rx_by (e_dup _) (s_dup hZ.1 dX12_splice_104 ?_)
  refine zg12_1 dX12_splice_105 zw1604 ?_
  refine rx_by (e_ldI _ _) (s_iload_n hZ.1 dX12_splice_108 rfl ?_)
  refine rx_by (e_sub _) (s_isub dX12_splice_109 ?_)
  refine zp12_1 hZ.1 dX12_splice_110 zw1604 ?_
  refine rx_by (e_ldR _ _) (s_aload_n hZ.1 dX12_splice_113 rfl ?_)
  refine zg12_1 dX12_splice_114 zw1604 ?_
  exact s_iret hZ.1 rfl dX12_splice_117
noncomputable def bX12_splice_46 : rx_K := q_ld q_isR 0 (o_callV 0 12 fX12_unused (q_getf 1 6 (q_st q_isR 5 (q_ld q_isR 0 (q_getf 12 0 (q_ld q_isI 4 (q_ld q_isR 5 (o_const 0 (q_ld q_isI 3 (o_copy 2 (rx_chk .byte) (q_ld q_isR 0 (q_getf 12 0 (q_ld q_isI 1 (q_ld q_isI 2 (q_bi q_Fadd (q_ld q_isR 0 (q_getf 12 0 (q_ld q_isI 1 (q_ld q_isI 3 (q_bi q_Fadd (q_ld q_isI 4 (q_ld q_isI 1 (q_bi q_Fsub (bX12_splice_86))))))))))))))))))))))))
set_option maxRecDepth 20000 in
theorem kX12_splice_46 (hZ : zO b e D A X) : rx_OK (zV b e D A X) mX12_splice 2 46 bX12_splice_46 := by
  unfold bX12_splice_46
  refine rx_by (e_ldR _ _) (s_aload_n hZ.1 dX12_splice_46 rfl ?_)
  refine s_callV hZ.1 (met_X12_unused hZ) (by decide) zy_X12_unused zcl12 zw1685 zw6 (Or.inl zw1683) dX12_splice_47 ?_
  refine zg1_6 dX12_splice_50 zw1131 ?_
  refine rx_by (e_stR _ _) (s_astore hZ.1 dX12_splice_53 (Nat.le_of_ble_eq_true rfl) ?_)
  refine rx_by (e_ldR _ _) (s_aload_n hZ.1 dX12_splice_55 rfl ?_)
  refine zg12_0 dX12_splice_56 zw1603 ?_
  refine rx_by (e_ldI _ _) (s_iload hZ.1 dX12_splice_59 ?_)
  refine rx_by (e_ldR _ _) (s_aload hZ.1 dX12_splice_61 ?_)
  refine s_iconst dX12_splice_63 (by decide +kernel) ?_
  refine rx_by (e_ldI _ _) (s_iload_n hZ.1 dX12_splice_64 rfl ?_)
  refine s_copy hZ.1 (tt := 2) (ty := .byte) rfl rfl (fun c h => by cases h) rfl (by decide) zw1690 zw1692 zw1691 zw433 dX12_splice_65 ?_
  refine rx_by (e_ldR _ _) (s_aload_n hZ.1 dX12_splice_68 rfl ?_)
  refine zg12_0 dX12_splice_69 zw1603 ?_
  refine rx_by (e_ldI _ _) (s_iload_n hZ.1 dX12_splice_72 rfl ?_)
  refine rx_by (e_ldI _ _) (s_iload_n hZ.1 dX12_splice_73 rfl ?_)
  refine rx_by (e_add _) (s_iadd dX12_splice_74 ?_)
  refine rx_by (e_ldR _ _) (s_aload_n hZ.1 dX12_splice_75 rfl ?_)
  refine zg12_0 dX12_splice_76 zw1603 ?_
  refine rx_by (e_ldI _ _) (s_iload_n hZ.1 dX12_splice_79 rfl ?_)
  refine rx_by (e_ldI _ _) (s_iload_n hZ.1 dX12_splice_80 rfl ?_)
  refine rx_by (e_add _) (s_iadd dX12_splice_81 ?_)
  refine rx_by (e_ldI _ _) (s_iload hZ.1 dX12_splice_82 ?_)
  refine rx_by (e_ldI _ _) (s_iload_n hZ.1 dX12_splice_84 rfl ?_)
  refine rx_by (e_sub _) (s_isub dX12_splice_85 ?_)
  exact (kX12_splice_86 hZ)
noncomputable def bX12_splice_44 : rx_K := o_const 34359738360 (o_ret1 rx_isI)
set_option maxRecDepth 20000 in
theorem kX12_splice_44 (hZ : zO b e D A X) : rx_OK (zV b e D A X) mX12_splice 2 44 bX12_splice_44 := by
  unfold bX12_splice_44
  refine s_iconst dX12_splice_44 (by decide +kernel) ?_
  exact s_iret hZ.1 rfl dX12_splice_45
noncomputable def bX12_splice_36 : rx_K := q_ld q_isI 2 (q_ld q_isI 4 (q_ld q_isI 1 (q_bi q_Fsub (q_gt2 bX12_splice_44 bX12_splice_46))))
set_option maxRecDepth 20000 in
theorem kX12_splice_36 (hZ : zO b e D A X) : rx_OK (zV b e D A X) mX12_splice 2 36 bX12_splice_36 := by
  unfold bX12_splice_36
  refine rx_by (e_ldI _ _) (s_iload_n hZ.1 dX12_splice_36 rfl ?_)
  refine rx_by (e_ldI _ _) (s_iload hZ.1 dX12_splice_37 ?_)
  refine rx_by (e_ldI _ _) (s_iload_n hZ.1 dX12_splice_39 rfl ?_)
  refine rx_by (e_sub _) (s_isub dX12_splice_40 ?_)
  exact rx_by (e_gt2 _ _) (s_icmp_le dX12_splice_41 (by decide) (kX12_splice_46 hZ) (kX12_splice_44 hZ))
noncomputable def bX12_splice_32 : rx_K := q_ld q_isI 2 (q_lt1 bX12_splice_44 bX12_splice_36)
set_option maxRecDepth 20000 in
theorem kX12_splice_32 (hZ : zO b e D A X) : rx_OK (zV b e D A X) mX12_splice 2 32 bX12_splice_32 := by
  unfold bX12_splice_32
  refine rx_by (e_ldI _ _) (s_iload_n hZ.1 dX12_splice_32 rfl ?_)
  exact rx_by (e_lt1 _ _) (s_if_lt dX12_splice_33 (by decide) (kX12_splice_44 hZ) (kX12_splice_36 hZ))
noncomputable def bX12_splice_26 : rx_K := q_ld q_isI 1 (q_ld q_isI 4 (q_gt2 bX12_splice_44 bX12_splice_32))
set_option maxRecDepth 20000 in
theorem kX12_splice_26 (hZ : zO b e D A X) : rx_OK (zV b e D A X) mX12_splice 2 26 bX12_splice_26 := by
  unfold bX12_splice_26
  refine rx_by (e_ldI _ _) (s_iload_n hZ.1 dX12_splice_26 rfl ?_)
  refine rx_by (e_ldI _ _) (s_iload hZ.1 dX12_splice_27 ?_)
  exact rx_by (e_gt2 _ _) (s_icmp_gt dX12_splice_29 (by decide) (kX12_splice_44 hZ) (kX12_splice_32 hZ))
noncomputable def bX12_splice_14 : rx_K := q_ld q_isR 0 (q_getf 12 1 (q_ld q_isI 3 (q_bi q_Fsub (q_st q_isI 4 (q_ld q_isI 1 (q_lt1 bX12_splice_44 bX12_splice_26))))))
set_option maxRecDepth 20000 in
theorem kX12_splice_14 (hZ : zO b e D A X) : rx_OK (zV b e D A X) mX12_splice 2 14 bX12_splice_14 := by
  unfold bX12_splice_14
  refine rx_by (e_ldR _ _) (s_aload_n hZ.1 dX12_splice_14 rfl ?_)
  refine zg12_1 dX12_splice_15 zw1604 ?_
  refine rx_by (e_ldI _ _) (s_iload_n hZ.1 dX12_splice_18 rfl ?_)
  refine rx_by (e_sub _) (s_isub dX12_splice_19 ?_)
  refine rx_by (e_stI _ _) (s_istore hZ.1 dX12_splice_20 (Nat.le_of_ble_eq_true rfl) ?_)
  refine rx_by (e_ldI _ _) (s_iload_n hZ.1 dX12_splice_22 rfl ?_)
  exact rx_by (e_lt1 _ _) (s_if_lt dX12_splice_23 (by decide) (kX12_splice_44 hZ) (kX12_splice_26 hZ))
noncomputable def bX12_splice_12 : rx_K := o_const 34359738360 (o_ret1 rx_isI)
set_option maxRecDepth 20000 in
theorem kX12_splice_12 (hZ : zO b e D A X) : rx_OK (zV b e D A X) mX12_splice 2 12 bX12_splice_12 := by
  unfold bX12_splice_12
  refine s_iconst dX12_splice_12 (by decide +kernel) ?_
  exact s_iret hZ.1 rfl dX12_splice_13
noncomputable def bX12_splice_4 : rx_K := q_ld q_isI 3 (q_ld q_isR 0 (q_getf 12 1 (q_gt2 bX12_splice_12 bX12_splice_14)))
set_option maxRecDepth 20000 in
theorem kX12_splice_4 (hZ : zO b e D A X) : rx_OK (zV b e D A X) mX12_splice 2 4 bX12_splice_4 := by
  unfold bX12_splice_4
  refine rx_by (e_ldI _ _) (s_iload_n hZ.1 dX12_splice_4 rfl ?_)
  refine rx_by (e_ldR _ _) (s_aload_n hZ.1 dX12_splice_5 rfl ?_)
  refine zg12_1 dX12_splice_6 zw1604 ?_
  exact rx_by (e_gt2 _ _) (s_icmp_le dX12_splice_9 (by decide) (kX12_splice_14 hZ) (kX12_splice_12 hZ))
noncomputable def bX12_splice_0 : rx_K := q_ld q_isI 3 (q_lt1 bX12_splice_12 bX12_splice_4)
set_option maxRecDepth 20000 in
theorem kX12_splice_0 (hZ : zO b e D A X) : rx_OK (zV b e D A X) mX12_splice 2 0 bX12_splice_0 := by
  unfold bX12_splice_0
  refine rx_by (e_ldI _ _) (s_iload_n hZ.1 dX12_splice_0 rfl ?_)
  exact rx_by (e_lt1 _ _) (s_if_lt dX12_splice_1 (by decide) (kX12_splice_12 hZ) (kX12_splice_4 hZ))
noncomputable def fX12_splice : List Nat → rx_H → Option (Nat × rx_H) := rx_ent 6 bX12_splice_0
theorem met_X12_splice (hZ : zO b e D A X) : rx_Met (zV b e D A X) 2 yX12_splice mX12_splice fX12_splice := rx_entry hZ.1 (kX12_splice_0 hZ) (by decide +kernel) rfl (fun h => by cases h)
theorem zy_X12_splice : rx_Y (zV b e D A X) yX12_splice mX12_splice 3 := ⟨zw1682, zw413, by decide, by decide +kernel, by decide +kernel, by decide +kernel⟩
abbrev mX13_splice : rx_M := (RX13, cX13_splice, 7, (some .int), false)
noncomputable def bX13_splice_187 : rx_K := q_ld q_isR 0 (q_ld q_isI 5 (p_putf q_isI 13 1 (q_ld q_isR 0 (q_getf 13 1 (o_ret1 rx_isI)))))
set_option maxRecDepth 20000 in
theorem kX13_splice_187 (hZ : zO b e D A X) : rx_OK (zV b e D A X) mX13_splice 0 187 bX13_splice_187 := by
  unfold bX13_splice_187
  refine rx_by (e_ldR _ _) (s_aload_n hZ.1 dX13_splice_187 rfl ?_)
  refine rx_by (e_ldI _ _) (s_iload hZ.1 dX13_splice_188 ?_)
  refine zp13_1 hZ.1 dX13_splice_190 zw4122 ?_
  refine rx_by (e_ldR _ _) (s_aload_n hZ.1 dX13_splice_193 rfl ?_)
  refine zg13_1 dX13_splice_194 zw4122 ?_
  exact s_iret hZ.1 rfl dX13_splice_197
noncomputable def bX13_splice_157 : rx_K := o_const 0 (q_st q_isI 6 (q_ld q_isI 6 (q_ld q_isI 5 (q_lt2 o_none bX13_splice_187))))
set_option maxRecDepth 20000 in
theorem kX13_splice_157 (hZ : zO b e D A X) : rx_OK (zV b e D A X) mX13_splice 0 157 bX13_splice_157 := by
  unfold bX13_splice_157
  refine s_iconst dX13_splice_157 (by decide +kernel) ?_
  refine rx_by (e_stI _ _) (s_istore hZ.1 dX13_splice_158 (Nat.le_of_ble_eq_true rfl) ?_)
  refine rx_by (e_ldI _ _) (s_iload hZ.1 dX13_splice_160 ?_)
  refine rx_by (e_ldI _ _) (s_iload hZ.1 dX13_splice_162 ?_)
  exact rx_by (e_lt2 _ _) (s_icmp_ge dX13_splice_164 (by decide) (kX13_splice_187 hZ) (s_none (pc := 167)))
noncomputable def bX13_splice_122 : rx_K := q_ld q_isI 1 (q_ld q_isI 2 (q_bi q_Fadd (q_st q_isI 6 (q_ld q_isI 6 (q_ld q_isI 4 (q_lt2 o_none bX13_splice_157))))))
set_option maxRecDepth 20000 in
theorem kX13_splice_122 (hZ : zO b e D A X) : rx_OK (zV b e D A X) mX13_splice 0 122 bX13_splice_122 := by
  unfold bX13_splice_122
  refine rx_by (e_ldI _ _) (s_iload_n hZ.1 dX13_splice_122 rfl ?_)
  refine rx_by (e_ldI _ _) (s_iload_n hZ.1 dX13_splice_123 rfl ?_)
  refine rx_by (e_add _) (s_iadd dX13_splice_124 ?_)
  refine rx_by (e_stI _ _) (s_istore hZ.1 dX13_splice_125 (Nat.le_of_ble_eq_true rfl) ?_)
  refine rx_by (e_ldI _ _) (s_iload hZ.1 dX13_splice_127 ?_)
  refine rx_by (e_ldI _ _) (s_iload hZ.1 dX13_splice_129 ?_)
  exact rx_by (e_lt2 _ _) (s_icmp_ge dX13_splice_131 (by decide) (kX13_splice_157 hZ) (s_none (pc := 134)))
noncomputable def bX13_splice_87 : rx_K := o_const 0 (q_st q_isI 6 (q_ld q_isI 6 (q_ld q_isI 3 (q_lt2 o_none bX13_splice_122))))
set_option maxRecDepth 20000 in
theorem kX13_splice_87 (hZ : zO b e D A X) : rx_OK (zV b e D A X) mX13_splice 0 87 bX13_splice_87 := by
  unfold bX13_splice_87
  refine s_iconst dX13_splice_87 (by decide +kernel) ?_
  refine rx_by (e_stI _ _) (s_istore hZ.1 dX13_splice_88 (Nat.le_of_ble_eq_true rfl) ?_)
  refine rx_by (e_ldI _ _) (s_iload hZ.1 dX13_splice_90 ?_)
  refine rx_by (e_ldI _ _) (s_iload_n hZ.1 dX13_splice_92 rfl ?_)
  exact rx_by (e_lt2 _ _) (s_icmp_ge dX13_splice_93 (by decide) (kX13_splice_122 hZ) (s_none (pc := 96)))
noncomputable def bX13_splice_44 : rx_K := q_ld q_isR 0 (q_getf 13 1 (q_ld q_isI 3 (q_bi q_Fsub (q_st q_isI 4 (o_const 0 (q_st q_isI 5 (o_const 0 (q_st q_isI 6 (q_ld q_isI 6 (q_ld q_isI 1 (q_lt2 o_none bX13_splice_87)))))))))))
set_option maxRecDepth 20000 in
theorem kX13_splice_44 (hZ : zO b e D A X) : rx_OK (zV b e D A X) mX13_splice 0 44 bX13_splice_44 := by
  unfold bX13_splice_44
  refine rx_by (e_ldR _ _) (s_aload_n hZ.1 dX13_splice_44 rfl ?_)
  refine zg13_1 dX13_splice_45 zw4122 ?_
  refine rx_by (e_ldI _ _) (s_iload_n hZ.1 dX13_splice_48 rfl ?_)
  refine rx_by (e_sub _) (s_isub dX13_splice_49 ?_)
  refine rx_by (e_stI _ _) (s_istore hZ.1 dX13_splice_50 (Nat.le_of_ble_eq_true rfl) ?_)
  refine s_iconst dX13_splice_52 (by decide +kernel) ?_
  refine rx_by (e_stI _ _) (s_istore hZ.1 dX13_splice_53 (Nat.le_of_ble_eq_true rfl) ?_)
  refine s_iconst dX13_splice_55 (by decide +kernel) ?_
  refine rx_by (e_stI _ _) (s_istore hZ.1 dX13_splice_56 (Nat.le_of_ble_eq_true rfl) ?_)
  refine rx_by (e_ldI _ _) (s_iload hZ.1 dX13_splice_58 ?_)
  refine rx_by (e_ldI _ _) (s_iload_n hZ.1 dX13_splice_60 rfl ?_)
  exact rx_by (e_lt2 _ _) (s_icmp_ge dX13_splice_61 (by decide) (kX13_splice_87 hZ) (s_none (pc := 64)))
noncomputable def bX13_splice_42 : rx_K := o_const 34359738360 (o_ret1 rx_isI)
set_option maxRecDepth 20000 in
theorem kX13_splice_42 (hZ : zO b e D A X) : rx_OK (zV b e D A X) mX13_splice 0 42 bX13_splice_42 := by
  unfold bX13_splice_42
  refine s_iconst dX13_splice_42 (by decide +kernel) ?_
  exact s_iret hZ.1 rfl dX13_splice_43
noncomputable def bX13_splice_30 : rx_K := q_ld q_isI 2 (q_ld q_isR 0 (q_getf 13 1 (q_ld q_isI 3 (q_bi q_Fsub (q_ld q_isI 1 (q_bi q_Fsub (q_gt2 bX13_splice_42 bX13_splice_44)))))))
set_option maxRecDepth 20000 in
theorem kX13_splice_30 (hZ : zO b e D A X) : rx_OK (zV b e D A X) mX13_splice 0 30 bX13_splice_30 := by
  unfold bX13_splice_30
  refine rx_by (e_ldI _ _) (s_iload_n hZ.1 dX13_splice_30 rfl ?_)
  refine rx_by (e_ldR _ _) (s_aload_n hZ.1 dX13_splice_31 rfl ?_)
  refine zg13_1 dX13_splice_32 zw4122 ?_
  refine rx_by (e_ldI _ _) (s_iload_n hZ.1 dX13_splice_35 rfl ?_)
  refine rx_by (e_sub _) (s_isub dX13_splice_36 ?_)
  refine rx_by (e_ldI _ _) (s_iload_n hZ.1 dX13_splice_37 rfl ?_)
  refine rx_by (e_sub _) (s_isub dX13_splice_38 ?_)
  exact rx_by (e_gt2 _ _) (s_icmp_le dX13_splice_39 (by decide) (kX13_splice_44 hZ) (kX13_splice_42 hZ))
noncomputable def bX13_splice_26 : rx_K := q_ld q_isI 2 (q_lt1 bX13_splice_42 bX13_splice_30)
set_option maxRecDepth 20000 in
theorem kX13_splice_26 (hZ : zO b e D A X) : rx_OK (zV b e D A X) mX13_splice 0 26 bX13_splice_26 := by
  unfold bX13_splice_26
  refine rx_by (e_ldI _ _) (s_iload_n hZ.1 dX13_splice_26 rfl ?_)
  exact rx_by (e_lt1 _ _) (s_if_lt dX13_splice_27 (by decide) (kX13_splice_42 hZ) (kX13_splice_30 hZ))
noncomputable def bX13_splice_16 : rx_K := q_ld q_isI 1 (q_ld q_isR 0 (q_getf 13 1 (q_ld q_isI 3 (q_bi q_Fsub (q_gt2 bX13_splice_42 bX13_splice_26)))))
set_option maxRecDepth 20000 in
theorem kX13_splice_16 (hZ : zO b e D A X) : rx_OK (zV b e D A X) mX13_splice 0 16 bX13_splice_16 := by
  unfold bX13_splice_16
  refine rx_by (e_ldI _ _) (s_iload_n hZ.1 dX13_splice_16 rfl ?_)
  refine rx_by (e_ldR _ _) (s_aload_n hZ.1 dX13_splice_17 rfl ?_)
  refine zg13_1 dX13_splice_18 zw4122 ?_
  refine rx_by (e_ldI _ _) (s_iload_n hZ.1 dX13_splice_21 rfl ?_)
  refine rx_by (e_sub _) (s_isub dX13_splice_22 ?_)
  exact rx_by (e_gt2 _ _) (s_icmp_gt dX13_splice_23 (by decide) (kX13_splice_42 hZ) (kX13_splice_26 hZ))
noncomputable def bX13_splice_12 : rx_K := q_ld q_isI 1 (q_lt1 bX13_splice_42 bX13_splice_16)
set_option maxRecDepth 20000 in
theorem kX13_splice_12 (hZ : zO b e D A X) : rx_OK (zV b e D A X) mX13_splice 0 12 bX13_splice_12 := by
  unfold bX13_splice_12
  refine rx_by (e_ldI _ _) (s_iload_n hZ.1 dX13_splice_12 rfl ?_)
  exact rx_by (e_lt1 _ _) (s_if_lt dX13_splice_13 (by decide) (kX13_splice_42 hZ) (kX13_splice_16 hZ))
noncomputable def bX13_splice_4 : rx_K := q_ld q_isI 3 (q_ld q_isR 0 (q_getf 13 1 (q_gt2 bX13_splice_42 bX13_splice_12)))
set_option maxRecDepth 20000 in
theorem kX13_splice_4 (hZ : zO b e D A X) : rx_OK (zV b e D A X) mX13_splice 0 4 bX13_splice_4 := by
  unfold bX13_splice_4
  refine rx_by (e_ldI _ _) (s_iload_n hZ.1 dX13_splice_4 rfl ?_)
  refine rx_by (e_ldR _ _) (s_aload_n hZ.1 dX13_splice_5 rfl ?_)
  refine zg13_1 dX13_splice_6 zw4122 ?_
  exact rx_by (e_gt2 _ _) (s_icmp_gt dX13_splice_9 (by decide) (kX13_splice_42 hZ) (kX13_splice_12 hZ))
noncomputable def bX13_splice_0 : rx_K := q_ld q_isI 3 (q_lt1 bX13_splice_42 bX13_splice_4)
set_option maxRecDepth 20000 in
theorem kX13_splice_0 (hZ : zO b e D A X) : rx_OK (zV b e D A X) mX13_splice 0 0 bX13_splice_0 := by
  unfold bX13_splice_0
  refine rx_by (e_ldI _ _) (s_iload_n hZ.1 dX13_splice_0 rfl ?_)
  exact rx_by (e_lt1 _ _) (s_if_lt dX13_splice_1 (by decide) (kX13_splice_42 hZ) (kX13_splice_4 hZ))
noncomputable def fX13_splice : List Nat → rx_H → Option (Nat × rx_H) := rx_ent 7 bX13_splice_0
theorem met_X13_splice (hZ : zO b e D A X) : rx_Met (zV b e D A X) 0 yX13_splice mX13_splice fX13_splice := rx_entry hZ.1 (kX13_splice_0 hZ) (by decide +kernel) rfl (fun h => by cases h)
theorem zy_X13_splice : rx_Y (zV b e D A X) yX13_splice mX13_splice 3 := ⟨zw2917, zw431, by decide, by decide +kernel, by decide +kernel, by decide +kernel⟩
abbrev mX12_text : rx_M := (RX12, cX12_text, 4, (some .int), false)
noncomputable def bX12_text_11 : rx_K := o_const 34359738360 (o_ret1 rx_isI)
set_option maxRecDepth 20000 in
theorem kX12_text_11 (hZ : zO b e D A X) : rx_OK (zV b e D A X) mX12_text 2 11 bX12_text_11 := by
  unfold bX12_text_11
  refine s_iconst dX12_text_11 (by decide +kernel) ?_
  exact s_iret hZ.1 rfl dX12_text_12
noncomputable def bX12_text_0 : rx_K := q_ld q_isR 0 (q_ld q_isI 1 (q_ld q_isI 2 (o_callV 2 12 fX12_buildOf (q_st q_isR 3 (q_ld q_isR 3 (o_nul bX12_text_11 o_none))))))
set_option maxRecDepth 20000 in
theorem kX12_text_0 (hZ : zO b e D A X) : rx_OK (zV b e D A X) mX12_text 2 0 bX12_text_0 := by
  unfold bX12_text_0
  refine rx_by (e_ldR _ _) (s_aload_n hZ.1 dX12_text_0 rfl ?_)
  refine rx_by (e_ldI _ _) (s_iload_n hZ.1 dX12_text_1 rfl ?_)
  refine rx_by (e_ldI _ _) (s_iload_n hZ.1 dX12_text_2 rfl ?_)
  refine s_callV hZ.1 (met_X12_buildOf hZ) (by decide) zy_X12_buildOf zcl12 zw1559 zw1 (Or.inl zw1557) dX12_text_3 ?_
  refine rx_by (e_stR _ _) (s_astore_n hZ.1 dX12_text_6 rfl (Nat.le_of_ble_eq_true rfl) ?_)
  refine rx_by (e_ldR _ _) (s_aload_n hZ.1 dX12_text_7 rfl ?_)
  exact s_ifnonnull dX12_text_8 (by decide) (s_none (pc := 13)) (kX12_text_11 hZ)
noncomputable def fX12_text : List Nat → rx_H → Option (Nat × rx_H) := rx_ent 4 bX12_text_0
theorem met_X12_text (hZ : zO b e D A X) : rx_Met (zV b e D A X) 2 yX12_text mX12_text fX12_text := rx_entry hZ.1 (kX12_text_0 hZ) (by decide +kernel) rfl (fun h => by cases h)
theorem zy_X12_text : rx_Y (zV b e D A X) yX12_text mX12_text 2 := ⟨zw1696, zw413, by decide, by decide +kernel, by decide +kernel, by decide +kernel⟩
abbrev mX13_isLib : rx_M := (RX13, cX13_isLib, 2, (some .boolean), false)
noncomputable def bX13_isLib_14 : rx_K := o_ret1 rx_isZ
set_option maxRecDepth 20000 in
theorem kX13_isLib_14 (hZ : zO b e D A X) : rx_OK (zV b e D A X) mX13_isLib 0 14 bX13_isLib_14 := by
  unfold bX13_isLib_14
  exact s_zret rx_z_ok rfl dX13_isLib_14
noncomputable def bX13_isLib_13 : rx_K := o_const 0 (bX13_isLib_14)
set_option maxRecDepth 20000 in
theorem kX13_isLib_13 (hZ : zO b e D A X) : rx_OK (zV b e D A X) mX13_isLib 0 13 bX13_isLib_13 := by
  unfold bX13_isLib_13
  refine s_iconst dX13_isLib_13 (by decide +kernel) ?_
  exact (kX13_isLib_14 hZ)
noncomputable def bX13_isLib_9 : rx_K := o_const 8 (bX13_isLib_14)
set_option maxRecDepth 20000 in
theorem kX13_isLib_9 (hZ : zO b e D A X) : rx_OK (zV b e D A X) mX13_isLib 0 9 bX13_isLib_9 := by
  unfold bX13_isLib_9
  refine s_iconst dX13_isLib_9 (by decide +kernel) ?_
  exact s_goto dX13_isLib_10 (by decide) (kX13_isLib_14 hZ)
noncomputable def bX13_isLib_4 : rx_K := q_ld q_isI 1 (o_const 40 (q_lt2 bX13_isLib_9 bX13_isLib_13))
set_option maxRecDepth 20000 in
theorem kX13_isLib_4 (hZ : zO b e D A X) : rx_OK (zV b e D A X) mX13_isLib 0 4 bX13_isLib_4 := by
  unfold bX13_isLib_4
  refine rx_by (e_ldI _ _) (s_iload_n hZ.1 dX13_isLib_4 rfl ?_)
  refine s_iconst dX13_isLib_5 (by decide +kernel) ?_
  exact rx_by (e_lt2 _ _) (s_icmp_ge dX13_isLib_6 (by decide) (kX13_isLib_13 hZ) (kX13_isLib_9 hZ))
noncomputable def bX13_isLib_0 : rx_K := q_ld q_isI 1 (q_lt1 bX13_isLib_13 bX13_isLib_4)
set_option maxRecDepth 20000 in
theorem kX13_isLib_0 (hZ : zO b e D A X) : rx_OK (zV b e D A X) mX13_isLib 0 0 bX13_isLib_0 := by
  unfold bX13_isLib_0
  refine rx_by (e_ldI _ _) (s_iload_n hZ.1 dX13_isLib_0 rfl ?_)
  exact rx_by (e_lt1 _ _) (s_if_lt dX13_isLib_1 (by decide) (kX13_isLib_13 hZ) (kX13_isLib_4 hZ))
noncomputable def fX13_isLib : List Nat → rx_H → Option (Nat × rx_H) := rx_ent 2 bX13_isLib_0
theorem met_X13_isLib (hZ : zO b e D A X) : rx_Met (zV b e D A X) 0 yX13_isLib mX13_isLib fX13_isLib := rx_entry hZ.1 (kX13_isLib_0 hZ) (by decide +kernel) rfl (fun h => by cases h)
theorem zy_X13_isLib : rx_Y (zV b e D A X) yX13_isLib mX13_isLib 1 := ⟨zw2933, zw431, by decide, by decide +kernel, by decide +kernel, by decide +kernel⟩
abbrev mX13_slotAt : rx_M := (RX13, cX13_slotAt, 3, (some .int), false)
noncomputable def bX13_slotAt_36 : rx_K := o_const 34359738352 (o_ret1 rx_isI)
set_option maxRecDepth 20000 in
theorem kX13_slotAt_36 (hZ : zO b e D A X) : rx_OK (zV b e D A X) mX13_slotAt 1 36 bX13_slotAt_36 := by
  unfold bX13_slotAt_36
  refine s_bipush dX13_slotAt_36 (by decide +kernel) ?_
  exact s_iret hZ.1 rfl dX13_slotAt_38
noncomputable def bX13_slotAt_12 : rx_K := q_ld q_isI 2 (q_ld q_isR 0 (q_getf 13 9 (q_ld q_isI 1 (q_ald 0 (q_lt2 o_none bX13_slotAt_36)))))
set_option maxRecDepth 20000 in
theorem kX13_slotAt_12 (hZ : zO b e D A X) : rx_OK (zV b e D A X) mX13_slotAt 1 12 bX13_slotAt_12 := by
  unfold bX13_slotAt_12
  refine rx_by (e_ldI _ _) (s_iload_n hZ.1 dX13_slotAt_12 rfl ?_)
  refine rx_by (e_ldR _ _) (s_aload_n hZ.1 dX13_slotAt_13 rfl ?_)
  refine zg13_9 dX13_slotAt_14 zw4130 ?_
  refine rx_by (e_ldI _ _) (s_iload_n hZ.1 dX13_slotAt_17 rfl ?_)
  refine rx_by (e_ald _ _) (s_iald (tt := 0) rfl dX13_slotAt_18 ?_)
  exact rx_by (e_lt2 _ _) (s_icmp_ge dX13_slotAt_19 (by decide) (kX13_slotAt_36 hZ) (s_none (pc := 22)))
noncomputable def bX13_slotAt_8 : rx_K := q_ld q_isI 2 (q_lt1 bX13_slotAt_36 bX13_slotAt_12)
set_option maxRecDepth 20000 in
theorem kX13_slotAt_8 (hZ : zO b e D A X) : rx_OK (zV b e D A X) mX13_slotAt 1 8 bX13_slotAt_8 := by
  unfold bX13_slotAt_8
  refine rx_by (e_ldI _ _) (s_iload_n hZ.1 dX13_slotAt_8 rfl ?_)
  exact rx_by (e_lt1 _ _) (s_if_lt dX13_slotAt_9 (by decide) (kX13_slotAt_36 hZ) (kX13_slotAt_12 hZ))
noncomputable def bX13_slotAt_0 : rx_K := q_ld q_isR 0 (q_ld q_isI 1 (o_callV 1 13 fX13_isLib (q_eq1 bX13_slotAt_36 bX13_slotAt_8)))
set_option maxRecDepth 20000 in
theorem kX13_slotAt_0 (hZ : zO b e D A X) : rx_OK (zV b e D A X) mX13_slotAt 1 0 bX13_slotAt_0 := by
  unfold bX13_slotAt_0
  refine rx_by (e_ldR _ _) (s_aload_n hZ.1 dX13_slotAt_0 rfl ?_)
  refine rx_by (e_ldI _ _) (s_iload_n hZ.1 dX13_slotAt_1 rfl ?_)
  refine s_callV hZ.1 (met_X13_isLib hZ) (by decide) zy_X13_isLib zcl13 zw2932 zw176 (Or.inl zw2930) dX13_slotAt_2 ?_
  exact rx_by (e_eq1 _ _) (s_if_eq dX13_slotAt_5 (by decide) (kX13_slotAt_36 hZ) (kX13_slotAt_8 hZ))
noncomputable def fX13_slotAt : List Nat → rx_H → Option (Nat × rx_H) := rx_ent 3 bX13_slotAt_0
theorem met_X13_slotAt (hZ : zO b e D A X) : rx_Met (zV b e D A X) 1 yX13_slotAt mX13_slotAt fX13_slotAt := rx_entry hZ.1 (kX13_slotAt_0 hZ) (by decide +kernel) rfl (fun h => by cases h)
theorem zy_X13_slotAt : rx_Y (zV b e D A X) yX13_slotAt mX13_slotAt 2 := ⟨zw3586, zw431, by decide, by decide +kernel, by decide +kernel, by decide +kernel⟩
abbrev mX13_text : rx_M := (RX13, cX13_text, 5, (some .int), false)
noncomputable def bX13_text_13 : rx_K := o_const 34359738360 (o_ret1 rx_isI)
set_option maxRecDepth 20000 in
theorem kX13_text_13 (hZ : zO b e D A X) : rx_OK (zV b e D A X) mX13_text 2 13 bX13_text_13 := by
  unfold bX13_text_13
  refine s_iconst dX13_text_13 (by decide +kernel) ?_
  exact s_iret hZ.1 rfl dX13_text_14
noncomputable def bX13_text_0 : rx_K := q_ld q_isR 0 (q_ld q_isI 1 (q_ld q_isI 2 (o_callV 2 13 fX13_slotAt (q_st q_isI 3 (q_ld q_isI 3 (o_const 34359738352 (q_eq2 bX13_text_13 o_none)))))))
set_option maxRecDepth 20000 in
theorem kX13_text_0 (hZ : zO b e D A X) : rx_OK (zV b e D A X) mX13_text 2 0 bX13_text_0 := by
  unfold bX13_text_0
  refine rx_by (e_ldR _ _) (s_aload_n hZ.1 dX13_text_0 rfl ?_)
  refine rx_by (e_ldI _ _) (s_iload_n hZ.1 dX13_text_1 rfl ?_)
  refine rx_by (e_ldI _ _) (s_iload_n hZ.1 dX13_text_2 rfl ?_)
  refine s_callV hZ.1 (met_X13_slotAt hZ) (by decide) zy_X13_slotAt zcl13 zw3585 zw317 (Or.inl zw3583) dX13_text_3 ?_
  refine rx_by (e_stI _ _) (s_istore_n hZ.1 dX13_text_6 rfl (Nat.le_of_ble_eq_true rfl) ?_)
  refine rx_by (e_ldI _ _) (s_iload_n hZ.1 dX13_text_7 rfl ?_)
  refine s_bipush dX13_text_8 (by decide +kernel) ?_
  exact rx_by (e_eq2 _ _) (s_icmp_ne dX13_text_10 (by decide) (s_none (pc := 15)) (kX13_text_13 hZ))
noncomputable def fX13_text : List Nat → rx_H → Option (Nat × rx_H) := rx_ent 5 bX13_text_0
theorem met_X13_text (hZ : zO b e D A X) : rx_Met (zV b e D A X) 2 yX13_text mX13_text fX13_text := rx_entry hZ.1 (kX13_text_0 hZ) (by decide +kernel) rfl (fun h => by cases h)
theorem zy_X13_text : rx_Y (zV b e D A X) yX13_text mX13_text 2 := ⟨zw3582, zw431, by decide, by decide +kernel, by decide +kernel, by decide +kernel⟩
abbrev mX12_size : rx_M := (RX12, cX12_size, 1, (some .int), false)
noncomputable def bX12_size_0 : rx_K := q_ld q_isR 0 (q_getf 12 3 (o_ret1 rx_isI))
set_option maxRecDepth 20000 in
theorem kX12_size_0 (hZ : zO b e D A X) : rx_OK (zV b e D A X) mX12_size 0 0 bX12_size_0 := by
  unfold bX12_size_0
  refine rx_by (e_ldR _ _) (s_aload_n hZ.1 dX12_size_0 rfl ?_)
  refine zg12_3 dX12_size_1 zw1606 ?_
  exact s_iret hZ.1 rfl dX12_size_4
noncomputable def fX12_size : List Nat → rx_H → Option (Nat × rx_H) := rx_ent 1 bX12_size_0
theorem met_X12_size (hZ : zO b e D A X) : rx_Met (zV b e D A X) 0 yX12_size mX12_size fX12_size := rx_entry hZ.1 (kX12_size_0 hZ) (by decide +kernel) rfl (fun h => by cases h)
theorem zy_X12_size : rx_Y (zV b e D A X) yX12_size mX12_size 0 := ⟨zw1700, zw413, by decide, by decide +kernel, by decide +kernel, by decide +kernel⟩
abbrev mX13_size : rx_M := (RX13, cX13_size, 1, (some .int), false)
noncomputable def bX13_size_0 : rx_K := q_ld q_isR 0 (q_getf 13 3 (o_ret1 rx_isI))
set_option maxRecDepth 20000 in
theorem kX13_size_0 (hZ : zO b e D A X) : rx_OK (zV b e D A X) mX13_size 0 0 bX13_size_0 := by
  unfold bX13_size_0
  refine rx_by (e_ldR _ _) (s_aload_n hZ.1 dX13_size_0 rfl ?_)
  refine zg13_3 dX13_size_1 zw4124 ?_
  exact s_iret hZ.1 rfl dX13_size_4
noncomputable def fX13_size : List Nat → rx_H → Option (Nat × rx_H) := rx_ent 1 bX13_size_0
theorem met_X13_size (hZ : zO b e D A X) : rx_Met (zV b e D A X) 0 yX13_size mX13_size fX13_size := rx_entry hZ.1 (kX13_size_0 hZ) (by decide +kernel) rfl (fun h => by cases h)
theorem zy_X13_size : rx_Y (zV b e D A X) yX13_size mX13_size 0 := ⟨zw2921, zw431, by decide, by decide +kernel, by decide +kernel, by decide +kernel⟩
abbrev mX12_octet : rx_M := (RX12, cX12_octet, 2, (some .int), false)
noncomputable def bX12_octet_26 : rx_K := o_ret1 rx_isI
set_option maxRecDepth 20000 in
theorem kX12_octet_26 (hZ : zO b e D A X) : rx_OK (zV b e D A X) mX12_octet 0 26 bX12_octet_26 := by
  unfold bX12_octet_26
  exact s_iret hZ.1 rfl dX12_octet_26
noncomputable def bX12_octet_12 : rx_K := o_const 34359738360 (bX12_octet_26)
set_option maxRecDepth 20000 in
theorem kX12_octet_12 (hZ : zO b e D A X) : rx_OK (zV b e D A X) mX12_octet 0 12 bX12_octet_12 := by
  unfold bX12_octet_12
  refine s_iconst dX12_octet_12 (by decide +kernel) ?_
  exact s_goto dX12_octet_13 (by decide) (kX12_octet_26 hZ)
noncomputable def bX12_octet_4 : rx_K := q_ld q_isI 1 (q_ld q_isR 0 (q_getf 12 3 (q_lt2 o_none bX12_octet_12)))
set_option maxRecDepth 20000 in
theorem kX12_octet_4 (hZ : zO b e D A X) : rx_OK (zV b e D A X) mX12_octet 0 4 bX12_octet_4 := by
  unfold bX12_octet_4
  refine rx_by (e_ldI _ _) (s_iload_n hZ.1 dX12_octet_4 rfl ?_)
  refine rx_by (e_ldR _ _) (s_aload_n hZ.1 dX12_octet_5 rfl ?_)
  refine zg12_3 dX12_octet_6 zw1606 ?_
  exact rx_by (e_lt2 _ _) (s_icmp_lt dX12_octet_9 (by decide) (s_none (pc := 16)) (kX12_octet_12 hZ))
noncomputable def bX12_octet_0 : rx_K := q_ld q_isI 1 (q_lt1 bX12_octet_12 bX12_octet_4)
set_option maxRecDepth 20000 in
theorem kX12_octet_0 (hZ : zO b e D A X) : rx_OK (zV b e D A X) mX12_octet 0 0 bX12_octet_0 := by
  unfold bX12_octet_0
  refine rx_by (e_ldI _ _) (s_iload_n hZ.1 dX12_octet_0 rfl ?_)
  exact rx_by (e_lt1 _ _) (s_if_lt dX12_octet_1 (by decide) (kX12_octet_12 hZ) (kX12_octet_4 hZ))
noncomputable def fX12_octet : List Nat → rx_H → Option (Nat × rx_H) := rx_ent 2 bX12_octet_0
theorem met_X12_octet (hZ : zO b e D A X) : rx_Met (zV b e D A X) 0 yX12_octet mX12_octet fX12_octet := rx_entry hZ.1 (kX12_octet_0 hZ) (by decide +kernel) rfl (fun h => by cases h)
theorem zy_X12_octet : rx_Y (zV b e D A X) yX12_octet mX12_octet 1 := ⟨zw1704, zw413, by decide, by decide +kernel, by decide +kernel, by decide +kernel⟩
abbrev mX13_octet : rx_M := (RX13, cX13_octet, 2, (some .int), false)
noncomputable def bX13_octet_22 : rx_K := o_ret1 rx_isI
set_option maxRecDepth 20000 in
theorem kX13_octet_22 (hZ : zO b e D A X) : rx_OK (zV b e D A X) mX13_octet 0 22 bX13_octet_22 := by
  unfold bX13_octet_22
  exact s_iret hZ.1 rfl dX13_octet_22
noncomputable def bX13_octet_12 : rx_K := o_const 34359738360 (bX13_octet_22)
set_option maxRecDepth 20000 in
theorem kX13_octet_12 (hZ : zO b e D A X) : rx_OK (zV b e D A X) mX13_octet 0 12 bX13_octet_12 := by
  unfold bX13_octet_12
  refine s_iconst dX13_octet_12 (by decide +kernel) ?_
  exact s_goto dX13_octet_13 (by decide) (kX13_octet_22 hZ)
noncomputable def bX13_octet_4 : rx_K := q_ld q_isI 1 (q_ld q_isR 0 (q_getf 13 3 (q_lt2 o_none bX13_octet_12)))
set_option maxRecDepth 20000 in
theorem kX13_octet_4 (hZ : zO b e D A X) : rx_OK (zV b e D A X) mX13_octet 0 4 bX13_octet_4 := by
  unfold bX13_octet_4
  refine rx_by (e_ldI _ _) (s_iload_n hZ.1 dX13_octet_4 rfl ?_)
  refine rx_by (e_ldR _ _) (s_aload_n hZ.1 dX13_octet_5 rfl ?_)
  refine zg13_3 dX13_octet_6 zw4124 ?_
  exact rx_by (e_lt2 _ _) (s_icmp_lt dX13_octet_9 (by decide) (s_none (pc := 16)) (kX13_octet_12 hZ))
noncomputable def bX13_octet_0 : rx_K := q_ld q_isI 1 (q_lt1 bX13_octet_12 bX13_octet_4)
set_option maxRecDepth 20000 in
theorem kX13_octet_0 (hZ : zO b e D A X) : rx_OK (zV b e D A X) mX13_octet 0 0 bX13_octet_0 := by
  unfold bX13_octet_0
  refine rx_by (e_ldI _ _) (s_iload_n hZ.1 dX13_octet_0 rfl ?_)
  exact rx_by (e_lt1 _ _) (s_if_lt dX13_octet_1 (by decide) (kX13_octet_12 hZ) (kX13_octet_4 hZ))
noncomputable def fX13_octet : List Nat → rx_H → Option (Nat × rx_H) := rx_ent 2 bX13_octet_0
theorem met_X13_octet (hZ : zO b e D A X) : rx_Met (zV b e D A X) 0 yX13_octet mX13_octet fX13_octet := rx_entry hZ.1 (kX13_octet_0 hZ) (by decide +kernel) rfl (fun h => by cases h)
theorem zy_X13_octet : rx_Y (zV b e D A X) yX13_octet mX13_octet 1 := ⟨zw2925, zw431, by decide, by decide +kernel, by decide +kernel, by decide +kernel⟩
abbrev mX12_isLibrary : rx_M := (RX12, cX12_isLibrary, 1, (some .boolean), false)
noncomputable def bX12_isLibrary_14 : rx_K := o_ret1 rx_isZ
set_option maxRecDepth 20000 in
theorem kX12_isLibrary_14 (hZ : zO b e D A X) : rx_OK (zV b e D A X) mX12_isLibrary 0 14 bX12_isLibrary_14 := by
  unfold bX12_isLibrary_14
  exact s_zret rx_z_ok rfl dX12_isLibrary_14
noncomputable def bX12_isLibrary_13 : rx_K := o_const 0 (bX12_isLibrary_14)
set_option maxRecDepth 20000 in
theorem kX12_isLibrary_13 (hZ : zO b e D A X) : rx_OK (zV b e D A X) mX12_isLibrary 0 13 bX12_isLibrary_13 := by
  unfold bX12_isLibrary_13
  refine s_iconst dX12_isLibrary_13 (by decide +kernel) ?_
  exact (kX12_isLibrary_14 hZ)
noncomputable def bX12_isLibrary_9 : rx_K := o_const 8 (bX12_isLibrary_14)
set_option maxRecDepth 20000 in
theorem kX12_isLibrary_9 (hZ : zO b e D A X) : rx_OK (zV b e D A X) mX12_isLibrary 0 9 bX12_isLibrary_9 := by
  unfold bX12_isLibrary_9
  refine s_iconst dX12_isLibrary_9 (by decide +kernel) ?_
  exact s_goto dX12_isLibrary_10 (by decide) (kX12_isLibrary_14 hZ)
noncomputable def bX12_isLibrary_4 : rx_K := q_ld q_isI 0 (o_const 40 (q_lt2 bX12_isLibrary_9 bX12_isLibrary_13))
set_option maxRecDepth 20000 in
theorem kX12_isLibrary_4 (hZ : zO b e D A X) : rx_OK (zV b e D A X) mX12_isLibrary 0 4 bX12_isLibrary_4 := by
  unfold bX12_isLibrary_4
  refine rx_by (e_ldI _ _) (s_iload_n hZ.1 dX12_isLibrary_4 rfl ?_)
  refine s_iconst dX12_isLibrary_5 (by decide +kernel) ?_
  exact rx_by (e_lt2 _ _) (s_icmp_ge dX12_isLibrary_6 (by decide) (kX12_isLibrary_13 hZ) (kX12_isLibrary_9 hZ))
noncomputable def bX12_isLibrary_0 : rx_K := q_ld q_isI 0 (q_lt1 bX12_isLibrary_13 bX12_isLibrary_4)
set_option maxRecDepth 20000 in
theorem kX12_isLibrary_0 (hZ : zO b e D A X) : rx_OK (zV b e D A X) mX12_isLibrary 0 0 bX12_isLibrary_0 := by
  unfold bX12_isLibrary_0
  refine rx_by (e_ldI _ _) (s_iload_n hZ.1 dX12_isLibrary_0 rfl ?_)
  exact rx_by (e_lt1 _ _) (s_if_lt dX12_isLibrary_1 (by decide) (kX12_isLibrary_13 hZ) (kX12_isLibrary_4 hZ))
noncomputable def fX12_isLibrary : List Nat → rx_H → Option (Nat × rx_H) := rx_ent 1 bX12_isLibrary_0
theorem met_X12_isLibrary (hZ : zO b e D A X) : rx_Met (zV b e D A X) 0 yX12_isLibrary mX12_isLibrary fX12_isLibrary := rx_entry hZ.1 (kX12_isLibrary_0 hZ) (by decide +kernel) rfl (fun h => by cases h)
theorem zy_X12_isLibrary : rx_Y (zV b e D A X) yX12_isLibrary mX12_isLibrary 1 := ⟨zw1711, zw413, by decide, by decide +kernel, by decide +kernel, by decide +kernel⟩
abbrev mX12_isFull : rx_M := (RX12, cX12_isFull, 2, (some .boolean), false)
noncomputable def bX12_isFull_24 : rx_K := o_const 0 (o_ret1 rx_isZ)
set_option maxRecDepth 20000 in
theorem kX12_isFull_24 (hZ : zO b e D A X) : rx_OK (zV b e D A X) mX12_isFull 1 24 bX12_isFull_24 := by
  unfold bX12_isFull_24
  refine s_iconst dX12_isFull_24 (by decide +kernel) ?_
  exact s_zret rx_z_ok rfl dX12_isFull_25
noncomputable def bX12_isFull_11 : rx_K := q_ld q_isR 0 (o_callV 0 12 fX12_allBuilt (o_const 128 (q_lt2 bX12_isFull_24 o_none)))
set_option maxRecDepth 20000 in
theorem kX12_isFull_11 (hZ : zO b e D A X) : rx_OK (zV b e D A X) mX12_isFull 1 11 bX12_isFull_11 := by
  unfold bX12_isFull_11
  refine rx_by (e_ldR _ _) (s_aload_n hZ.1 dX12_isFull_11 rfl ?_)
  refine s_callV hZ.1 (met_X12_allBuilt hZ) (by decide) zy_X12_allBuilt zcl12 zw1563 zw2 (Or.inl zw1561) dX12_isFull_12 ?_
  refine s_bipush dX12_isFull_15 (by decide +kernel) ?_
  exact rx_by (e_lt2 _ _) (s_icmp_lt dX12_isFull_17 (by decide) (kX12_isFull_24 hZ) (s_none (pc := 20)))
noncomputable def bX12_isFull_0 : rx_K := q_ld q_isR 0 (q_getf 12 5 (q_ld q_isI 1 (q_ald 0 (o_const 64 (q_lt2 bX12_isFull_11 o_none)))))
set_option maxRecDepth 20000 in
theorem kX12_isFull_0 (hZ : zO b e D A X) : rx_OK (zV b e D A X) mX12_isFull 1 0 bX12_isFull_0 := by
  unfold bX12_isFull_0
  refine rx_by (e_ldR _ _) (s_aload_n hZ.1 dX12_isFull_0 rfl ?_)
  refine zg12_5 dX12_isFull_1 zw1608 ?_
  refine rx_by (e_ldI _ _) (s_iload_n hZ.1 dX12_isFull_4 rfl ?_)
  refine rx_by (e_ald _ _) (s_iald (tt := 0) rfl dX12_isFull_5 ?_)
  refine s_bipush dX12_isFull_6 (by decide +kernel) ?_
  exact rx_by (e_lt2 _ _) (s_icmp_ge dX12_isFull_8 (by decide) (s_none (pc := 20)) (kX12_isFull_11 hZ))
noncomputable def fX12_isFull : List Nat → rx_H → Option (Nat × rx_H) := rx_ent 2 bX12_isFull_0
theorem met_X12_isFull (hZ : zO b e D A X) : rx_Met (zV b e D A X) 1 yX12_isFull mX12_isFull fX12_isFull := rx_entry hZ.1 (kX12_isFull_0 hZ) (by decide +kernel) rfl (fun h => by cases h)
theorem zy_X12_isFull : rx_Y (zV b e D A X) yX12_isFull mX12_isFull 1 := ⟨zw1715, zw413, by decide, by decide +kernel, by decide +kernel, by decide +kernel⟩
abbrev mX1_clear : rx_M := (RX1, cX1_clear, 1, none, false)
noncomputable def bX1_clear_0 : rx_K := q_ld q_isR 0 (o_const 0 (p_putf q_isI 1 3 (q_ld q_isR 0 (o_const 0 (p_putf q_isI 1 5 (q_ld q_isR 0 (o_const 0 (p_putf q_isI 1 7 (q_ld q_isR 0 (o_const 0 (p_putf q_isI 1 15 (q_ld q_isR 0 (o_const 0 (p_putf q_isI 1 17 (o_ret0)))))))))))))))
set_option maxRecDepth 20000 in
theorem kX1_clear_0 (hZ : zO b e D A X) : rx_OK (zV b e D A X) mX1_clear 0 0 bX1_clear_0 := by
  unfold bX1_clear_0
  refine rx_by (e_ldR _ _) (s_aload_n hZ.1 dX1_clear_0 rfl ?_)
  refine s_iconst dX1_clear_1 (by decide +kernel) ?_
  refine zp1_3 hZ.1 dX1_clear_2 zw1120 ?_
  refine rx_by (e_ldR _ _) (s_aload_n hZ.1 dX1_clear_5 rfl ?_)
  refine s_iconst dX1_clear_6 (by decide +kernel) ?_
  refine zp1_5 hZ.1 dX1_clear_7 zw1128 ?_
  refine rx_by (e_ldR _ _) (s_aload_n hZ.1 dX1_clear_10 rfl ?_)
  refine s_iconst dX1_clear_11 (by decide +kernel) ?_
  refine zp1_7 hZ.1 dX1_clear_12 zw1133 ?_
  refine rx_by (e_ldR _ _) (s_aload_n hZ.1 dX1_clear_15 rfl ?_)
  refine s_iconst dX1_clear_16 (by decide +kernel) ?_
  refine zp1_15 hZ.1 dX1_clear_17 zw1164 ?_
  refine rx_by (e_ldR _ _) (s_aload_n hZ.1 dX1_clear_20 rfl ?_)
  refine s_iconst dX1_clear_21 (by decide +kernel) ?_
  refine zp1_17 hZ.1 dX1_clear_22 zw1171 ?_
  exact s_vret rfl dX1_clear_25
noncomputable def fX1_clear : List Nat → rx_H → Option (Nat × rx_H) := rx_ent 1 bX1_clear_0
theorem met_X1_clear (hZ : zO b e D A X) : rx_Met (zV b e D A X) 0 yX1_clear mX1_clear fX1_clear := rx_entry hZ.1 (kX1_clear_0 hZ) (by decide +kernel) rfl (fun h => by cases h)
theorem zy_X1_clear : rx_Y (zV b e D A X) yX1_clear mX1_clear 0 := ⟨zw1723, zw424, by decide, by decide +kernel, by decide +kernel, by decide +kernel⟩
end ZM6

section ZM12
variable {b : Nat} {e : Nat → Value} {D : va_G} {A : Nat → ClassId} {X : State → Prop}
abbrev mX13_outName : rx_M := (RX13, cX13_outName, 7, none, false)
noncomputable def bX13_outName_92 (j : Nat → rx_K) : rx_K := o_ret0
set_option maxRecDepth 20000 in
theorem kX13_outName_92 (hZ : zO b e D A X) (j : Nat → rx_K) (hj : ∀ k pc, [9, 40][k]? = some pc → rx_OK (zV b e D A X) mX13_outName 1 pc (j k)) : rx_OK (zV b e D A X) mX13_outName 1 92 (bX13_outName_92 j) := by
  unfold bX13_outName_92
  exact s_vret rfl dX13_outName_92
noncomputable def bX13_outName_86 (j : Nat → rx_K) : rx_K := q_inc 6 34359738360 ((j 1))
set_option maxRecDepth 20000 in
theorem kX13_outName_86 (hZ : zO b e D A X) (j : Nat → rx_K) (hj : ∀ k pc, [9, 40][k]? = some pc → rx_OK (zV b e D A X) mX13_outName 1 pc (j k)) : rx_OK (zV b e D A X) mX13_outName 1 86 (bX13_outName_86 j) := by
  unfold bX13_outName_86
  refine rx_by (e_inc (by decide +kernel) _) (s_iinc hZ.1 dX13_outName_86 (Nat.le_of_ble_eq_true rfl) ?_)
  exact s_goto dX13_outName_89 (by decide) (hj 1 40 rfl)
noncomputable def bX13_outName_80 (j : Nat → rx_K) : rx_K := q_ld q_isR 0 (o_const 368 (o_callV 1 13 fX13_outByte ((bX13_outName_86 j))))
set_option maxRecDepth 20000 in
theorem kX13_outName_80 (hZ : zO b e D A X) (j : Nat → rx_K) (hj : ∀ k pc, [9, 40][k]? = some pc → rx_OK (zV b e D A X) mX13_outName 1 pc (j k)) : rx_OK (zV b e D A X) mX13_outName 1 80 (bX13_outName_80 j) := by
  unfold bX13_outName_80
  refine rx_by (e_ldR _ _) (s_aload_n hZ.1 dX13_outName_80 rfl ?_)
  refine s_bipush dX13_outName_81 (by decide +kernel) ?_
  refine s_callV hZ.1 (met_X13_outByte hZ) (by decide) zy_X13_outByte zcl13 zw3648 zw327 (Or.inl zw3646) dX13_outName_83 ?_
  exact (kX13_outName_86 hZ j hj)
noncomputable def bX13_outName_71 (j : Nat → rx_K) : rx_K := q_ld q_isI 6 (q_ld q_isI 5 (o_const 8 (q_bi q_Fsub (q_eq2 (bX13_outName_80 j) (bX13_outName_86 j)))))
set_option maxRecDepth 20000 in
theorem kX13_outName_71 (hZ : zO b e D A X) (j : Nat → rx_K) (hj : ∀ k pc, [9, 40][k]? = some pc → rx_OK (zV b e D A X) mX13_outName 1 pc (j k)) : rx_OK (zV b e D A X) mX13_outName 1 71 (bX13_outName_71 j) := by
  unfold bX13_outName_71
  refine rx_by (e_ldI _ _) (s_iload hZ.1 dX13_outName_71 ?_)
  refine rx_by (e_ldI _ _) (s_iload hZ.1 dX13_outName_73 ?_)
  refine s_iconst dX13_outName_75 (by decide +kernel) ?_
  refine rx_by (e_sub _) (s_isub dX13_outName_76 ?_)
  exact rx_by (e_eq2 _ _) (s_icmp_ne dX13_outName_77 (by decide) (kX13_outName_86 hZ j hj) (kX13_outName_80 hZ j hj))
noncomputable def bX13_outName_45 (j : Nat → rx_K) : rx_K := q_ld q_isR 0 (q_ld q_isL 3 (o_const 48 (q_ld q_isI 6 (q_bi q_Fmul (o_bs (fun x y => (x.toUInt64 >>> (y.toInt64.toUInt64 &&& Int64.toUInt64 63)).toInt64) (o_const 505 (o_bl (fun x y => x &&& y) (o_li (fun x => x.toInt32) (o_callS 1 fX13_letter (o_callV 1 13 fX13_outByte (q_ld q_isL 1 (o_callS 1 fX13_isC (q_eq1 (bX13_outName_86 j) (bX13_outName_71 j))))))))))))))
set_option maxRecDepth 20000 in
theorem kX13_outName_45 (hZ : zO b e D A X) (j : Nat → rx_K) (hj : ∀ k pc, [9, 40][k]? = some pc → rx_OK (zV b e D A X) mX13_outName 1 pc (j k)) : rx_OK (zV b e D A X) mX13_outName 1 45 (bX13_outName_45 j) := by
  unfold bX13_outName_45
  refine rx_by (e_ldR _ _) (s_aload_n hZ.1 dX13_outName_45 rfl ?_)
  refine rx_by (e_ld _ _ _) (s_lload_n hZ.1 dX13_outName_46 rfl ?_)
  refine s_bipush dX13_outName_47 (by decide +kernel) ?_
  refine rx_by (e_ldI _ _) (s_iload hZ.1 dX13_outName_49 ?_)
  refine rx_by (e_mul _) (s_imul dX13_outName_51 ?_)
  refine s_lushr dX13_outName_52 ?_
  refine s_ldc2 dX13_outName_53 zw3183 (by decide +kernel) ?_
  refine s_land dX13_outName_56 ?_
  refine s_l2i dX13_outName_57 ?_
  refine s_callS hZ.1 (met_X13_letter hZ) (by decide) zy_X13_letter zw3659 (Or.inl zw3658) dX13_outName_58 ?_
  refine s_callV hZ.1 (met_X13_outByte hZ) (by decide) zy_X13_outByte zcl13 zw3648 zw327 (Or.inl zw3646) dX13_outName_61 ?_
  refine rx_by (e_ld _ _ _) (s_lload_n hZ.1 dX13_outName_64 rfl ?_)
  refine s_callS hZ.1 (met_X13_isC hZ) (by decide) zy_X13_isC zw3239 (Or.inl zw3238) dX13_outName_65 ?_
  exact rx_by (e_eq1 _ _) (s_if_eq dX13_outName_68 (by decide) (kX13_outName_86 hZ j hj) (kX13_outName_71 hZ j hj))
noncomputable def bX13_outName_40 (j : Nat → rx_K) : rx_K := q_ld q_isI 6 (q_lt1 (bX13_outName_92 j) (bX13_outName_45 j))
set_option maxRecDepth 20000 in
theorem kX13_outName_40 (hZ : zO b e D A X) (j : Nat → rx_K) (hj : ∀ k pc, [9, 40][k]? = some pc → rx_OK (zV b e D A X) mX13_outName 1 pc (j k)) : rx_OK (zV b e D A X) mX13_outName 1 40 (bX13_outName_40 j) := by
  unfold bX13_outName_40
  refine rx_by (e_ldI _ _) (s_iload hZ.1 dX13_outName_40 ?_)
  exact rx_by (e_lt1 _ _) (s_if_lt dX13_outName_42 (by decide) (kX13_outName_92 hZ j hj) (kX13_outName_45 hZ j hj))
noncomputable def bX13_outName_34 (j : Nat → rx_K) : rx_K := q_ld q_isI 5 (o_const 8 (q_bi q_Fsub (q_st q_isI 6 ((bX13_outName_40 j)))))
set_option maxRecDepth 20000 in
theorem kX13_outName_34 (hZ : zO b e D A X) (j : Nat → rx_K) (hj : ∀ k pc, [9, 40][k]? = some pc → rx_OK (zV b e D A X) mX13_outName 1 pc (j k)) : rx_OK (zV b e D A X) mX13_outName 1 34 (bX13_outName_34 j) := by
  unfold bX13_outName_34
  refine rx_by (e_ldI _ _) (s_iload hZ.1 dX13_outName_34 ?_)
  refine s_iconst dX13_outName_36 (by decide +kernel) ?_
  refine rx_by (e_sub _) (s_isub dX13_outName_37 ?_)
  refine rx_by (e_stI _ _) (s_istore hZ.1 dX13_outName_38 (Nat.le_of_ble_eq_true rfl) ?_)
  exact (kX13_outName_40 hZ j hj)
noncomputable def bX13_outName_28 (j : Nat → rx_K) : rx_K := q_inc 5 8 ((j 0))
set_option maxRecDepth 20000 in
theorem kX13_outName_28 (hZ : zO b e D A X) (j : Nat → rx_K) (hj : ∀ k pc, [9, 40][k]? = some pc → rx_OK (zV b e D A X) mX13_outName 1 pc (j k)) : rx_OK (zV b e D A X) mX13_outName 1 28 (bX13_outName_28 j) := by
  unfold bX13_outName_28
  refine rx_by (e_inc (by decide +kernel) _) (s_iinc hZ.1 dX13_outName_28 (Nat.le_of_ble_eq_true rfl) ?_)
  exact s_goto dX13_outName_31 (by decide) (hj 0 9 rfl)
noncomputable def bX13_outName_16 (j : Nat → rx_K) : rx_K := q_ld q_isL 3 (o_const 48 (q_ld q_isI 5 (q_bi q_Fmul (o_bs (fun x y => (x.toUInt64 >>> (y.toInt64.toUInt64 &&& Int64.toUInt64 63)).toInt64) (o_const 1 (o_bc (fun x y => lg_cmp x y) (q_eq1 (bX13_outName_34 j) (bX13_outName_28 j))))))))
set_option maxRecDepth 20000 in
theorem kX13_outName_16 (hZ : zO b e D A X) (j : Nat → rx_K) (hj : ∀ k pc, [9, 40][k]? = some pc → rx_OK (zV b e D A X) mX13_outName 1 pc (j k)) : rx_OK (zV b e D A X) mX13_outName 1 16 (bX13_outName_16 j) := by
  unfold bX13_outName_16
  refine rx_by (e_ld _ _ _) (s_lload_n hZ.1 dX13_outName_16 rfl ?_)
  refine s_bipush dX13_outName_17 (by decide +kernel) ?_
  refine rx_by (e_ldI _ _) (s_iload hZ.1 dX13_outName_19 ?_)
  refine rx_by (e_mul _) (s_imul dX13_outName_21 ?_)
  refine s_lushr dX13_outName_22 ?_
  refine s_lconst dX13_outName_23 (by decide +kernel) ?_
  refine s_lcmp dX13_outName_24 ?_
  exact rx_by (e_eq1 _ _) (s_if_eq dX13_outName_25 (by decide) (kX13_outName_34 hZ j hj) (kX13_outName_28 hZ j hj))
noncomputable def bX13_outName_9 (j : Nat → rx_K) : rx_K := q_ld q_isI 5 (o_const 80 (q_lt2 (bX13_outName_16 j) (bX13_outName_34 j)))
set_option maxRecDepth 20000 in
theorem kX13_outName_9 (hZ : zO b e D A X) (j : Nat → rx_K) (hj : ∀ k pc, [9, 40][k]? = some pc → rx_OK (zV b e D A X) mX13_outName 1 pc (j k)) : rx_OK (zV b e D A X) mX13_outName 1 9 (bX13_outName_9 j) := by
  unfold bX13_outName_9
  refine rx_by (e_ldI _ _) (s_iload hZ.1 dX13_outName_9 ?_)
  refine s_bipush dX13_outName_11 (by decide +kernel) ?_
  exact rx_by (e_lt2 _ _) (s_icmp_ge dX13_outName_13 (by decide) (kX13_outName_34 hZ j hj) (kX13_outName_16 hZ j hj))
noncomputable def bX13_outName_0 (j : Nat → rx_K) : rx_K := q_ld q_isL 1 (o_const 129127208515966861305 (o_bl (fun x y => x &&& y) (o_stL 3 (o_const 0 (q_st q_isI 5 ((bX13_outName_9 j)))))))
set_option maxRecDepth 20000 in
theorem kX13_outName_0 (hZ : zO b e D A X) (j : Nat → rx_K) (hj : ∀ k pc, [9, 40][k]? = some pc → rx_OK (zV b e D A X) mX13_outName 1 pc (j k)) : rx_OK (zV b e D A X) mX13_outName 1 0 (bX13_outName_0 j) := by
  unfold bX13_outName_0
  refine rx_by (e_ld _ _ _) (s_lload_n hZ.1 dX13_outName_0 rfl ?_)
  refine s_ldc2 dX13_outName_1 zw3182 (by decide +kernel) ?_
  refine s_land dX13_outName_4 ?_
  refine s_lstore_n hZ.1 dX13_outName_5 rfl (Nat.le_of_ble_eq_true rfl) ?_
  refine s_iconst dX13_outName_6 (by decide +kernel) ?_
  refine rx_by (e_stI _ _) (s_istore hZ.1 dX13_outName_7 (Nat.le_of_ble_eq_true rfl) ?_)
  exact (kX13_outName_9 hZ j hj)
noncomputable def hX13_outName (j : Nat → rx_K) : List rx_K := [bX13_outName_9 j, bX13_outName_40 j]
theorem lX13_outName (hZ : zO b e D A X) : ∀ n k pc, [9, 40][k]? = some pc → rx_OK (zV b e D A X) mX13_outName 1 pc (rx_J hX13_outName n k) := rx_loop fun j hj k pc h => by
  match k, h with
  | 0, h =>
    have e9 := Option.some.inj (show some 9 = some pc from h)
    subst e9
    exact kX13_outName_9 hZ j hj
  | 1, h =>
    have e9 := Option.some.inj (show some 40 = some pc from h)
    subst e9
    exact kX13_outName_40 hZ j hj
  | _ + 2, h => exact absurd h (by simp)
noncomputable def fX13_outName : List Nat → rx_H → Option (Nat × rx_H) := rx_ent 7 (bX13_outName_0 (rx_J hX13_outName 1000000))
theorem met_X13_outName (hZ : zO b e D A X) : rx_Met (zV b e D A X) 1 yX13_outName mX13_outName fX13_outName := rx_entry hZ.1 (kX13_outName_0 hZ _ (lX13_outName hZ 1000000)) (by decide +kernel) rfl (fun h => by cases h)
theorem zy_X13_outName : rx_Y (zV b e D A X) yX13_outName mX13_outName 1 := ⟨zw3657, zw431, by decide, by decide +kernel, by decide +kernel, by decide +kernel⟩
abbrev mX13_name : rx_M := (RX13, cX13_name, 2, (some .int), false)
noncomputable def bX13_name_14 : rx_K := q_ld q_isR 0 (o_const 0 (p_putf q_isI 13 3 (q_ld q_isR 0 (q_ld q_isR 0 (q_getf 13 24 (q_ld q_isR 0 (q_getf 13 130 (q_ld q_isI 1 (q_ald 0 (q_ald 1 (o_callV 1 13 fX13_outName (q_ld q_isR 0 (q_getf 13 3 (o_ret1 rx_isI))))))))))))))
set_option maxRecDepth 20000 in
theorem kX13_name_14 (hZ : zO b e D A X) : rx_OK (zV b e D A X) mX13_name 2 14 bX13_name_14 := by
  unfold bX13_name_14
  refine rx_by (e_ldR _ _) (s_aload_n hZ.1 dX13_name_14 rfl ?_)
  refine s_iconst dX13_name_15 (by decide +kernel) ?_
  refine zp13_3 hZ.1 dX13_name_16 zw4124 ?_
  refine rx_by (e_ldR _ _) (s_aload_n hZ.1 dX13_name_19 rfl ?_)
  refine rx_by (e_ldR _ _) (s_aload_n hZ.1 dX13_name_20 rfl ?_)
  refine zg13_24 dX13_name_21 zw4145 ?_
  refine rx_by (e_ldR _ _) (s_aload_n hZ.1 dX13_name_24 rfl ?_)
  refine zg13_130 dX13_name_25 zw4250 ?_
  refine rx_by (e_ldI _ _) (s_iload_n hZ.1 dX13_name_28 rfl ?_)
  refine rx_by (e_ald _ _) (s_iald (tt := 0) rfl dX13_name_29 ?_)
  refine rx_by (e_ald _ _) (s_lald (tt := 1) rfl dX13_name_30 ?_)
  refine s_callV hZ.1 (met_X13_outName hZ) (by decide) zy_X13_outName zcl13 zw3656 zw328 (Or.inl zw3654) dX13_name_31 ?_
  refine rx_by (e_ldR _ _) (s_aload_n hZ.1 dX13_name_34 rfl ?_)
  refine zg13_3 dX13_name_35 zw4124 ?_
  exact s_iret hZ.1 rfl dX13_name_38
noncomputable def bX13_name_12 : rx_K := o_const 34359738360 (o_ret1 rx_isI)
set_option maxRecDepth 20000 in
theorem kX13_name_12 (hZ : zO b e D A X) : rx_OK (zV b e D A X) mX13_name 2 12 bX13_name_12 := by
  unfold bX13_name_12
  refine s_iconst dX13_name_12 (by decide +kernel) ?_
  exact s_iret hZ.1 rfl dX13_name_13
noncomputable def bX13_name_4 : rx_K := q_ld q_isI 1 (q_ld q_isR 0 (q_getf 13 129 (q_lt2 bX13_name_14 bX13_name_12)))
set_option maxRecDepth 20000 in
theorem kX13_name_4 (hZ : zO b e D A X) : rx_OK (zV b e D A X) mX13_name 2 4 bX13_name_4 := by
  unfold bX13_name_4
  refine rx_by (e_ldI _ _) (s_iload_n hZ.1 dX13_name_4 rfl ?_)
  refine rx_by (e_ldR _ _) (s_aload_n hZ.1 dX13_name_5 rfl ?_)
  refine zg13_129 dX13_name_6 zw4249 ?_
  exact rx_by (e_lt2 _ _) (s_icmp_lt dX13_name_9 (by decide) (kX13_name_14 hZ) (kX13_name_12 hZ))
noncomputable def bX13_name_0 : rx_K := q_ld q_isI 1 (q_lt1 bX13_name_12 bX13_name_4)
set_option maxRecDepth 20000 in
theorem kX13_name_0 (hZ : zO b e D A X) : rx_OK (zV b e D A X) mX13_name 2 0 bX13_name_0 := by
  unfold bX13_name_0
  refine rx_by (e_ldI _ _) (s_iload_n hZ.1 dX13_name_0 rfl ?_)
  exact rx_by (e_lt1 _ _) (s_if_lt dX13_name_1 (by decide) (kX13_name_12 hZ) (kX13_name_4 hZ))
noncomputable def fX13_name : List Nat → rx_H → Option (Nat × rx_H) := rx_ent 2 bX13_name_0
theorem met_X13_name (hZ : zO b e D A X) : rx_Met (zV b e D A X) 2 yX13_name mX13_name fX13_name := rx_entry hZ.1 (kX13_name_0 hZ) (by decide +kernel) rfl (fun h => by cases h)
theorem zy_X13_name : rx_Y (zV b e D A X) yX13_name mX13_name 1 := ⟨zw3973, zw431, by decide, by decide +kernel, by decide +kernel, by decide +kernel⟩
abbrev mX12_state : rx_M := (RX12, cX12_state, 2, (some .int), false)
noncomputable def bX12_state_31 : rx_K := o_ret1 rx_isI
set_option maxRecDepth 20000 in
theorem kX12_state_31 (hZ : zO b e D A X) : rx_OK (zV b e D A X) mX12_state 0 31 bX12_state_31 := by
  unfold bX12_state_31
  exact s_iret hZ.1 rfl dX12_state_31
noncomputable def bX12_state_19 : rx_K := q_ld q_isR 0 (q_getf 12 20 (q_getf 6 1 (q_getf 5 1 (q_ld q_isI 1 (q_ald 0 (bX12_state_31))))))
set_option maxRecDepth 20000 in
theorem kX12_state_19 (hZ : zO b e D A X) : rx_OK (zV b e D A X) mX12_state 0 19 bX12_state_19 := by
  unfold bX12_state_19
  refine rx_by (e_ldR _ _) (s_aload_n hZ.1 dX12_state_19 rfl ?_)
  refine zg12_20 dX12_state_20 zw1623 ?_
  refine zg6_1 dX12_state_23 zw1475 ?_
  refine zg5_1 dX12_state_26 zw1353 ?_
  refine rx_by (e_ldI _ _) (s_iload_n hZ.1 dX12_state_29 rfl ?_)
  refine rx_by (e_ald _ _) (s_iald (tt := 0) rfl dX12_state_30 ?_)
  exact (kX12_state_31 hZ)
noncomputable def bX12_state_15 : rx_K := o_const 34359738360 (bX12_state_31)
set_option maxRecDepth 20000 in
theorem kX12_state_15 (hZ : zO b e D A X) : rx_OK (zV b e D A X) mX12_state 0 15 bX12_state_15 := by
  unfold bX12_state_15
  refine s_iconst dX12_state_15 (by decide +kernel) ?_
  exact s_goto dX12_state_16 (by decide) (kX12_state_31 hZ)
noncomputable def bX12_state_4 : rx_K := q_ld q_isI 1 (q_ld q_isR 0 (q_getf 12 13 (q_getf 11 2 (q_lt2 bX12_state_19 bX12_state_15))))
set_option maxRecDepth 20000 in
theorem kX12_state_4 (hZ : zO b e D A X) : rx_OK (zV b e D A X) mX12_state 0 4 bX12_state_4 := by
  unfold bX12_state_4
  refine rx_by (e_ldI _ _) (s_iload_n hZ.1 dX12_state_4 rfl ?_)
  refine rx_by (e_ldR _ _) (s_aload_n hZ.1 dX12_state_5 rfl ?_)
  refine zg12_13 dX12_state_6 zw1616 ?_
  refine zg11_2 dX12_state_9 zw1261 ?_
  exact rx_by (e_lt2 _ _) (s_icmp_lt dX12_state_12 (by decide) (kX12_state_19 hZ) (kX12_state_15 hZ))
noncomputable def bX12_state_0 : rx_K := q_ld q_isI 1 (q_lt1 bX12_state_15 bX12_state_4)
set_option maxRecDepth 20000 in
theorem kX12_state_0 (hZ : zO b e D A X) : rx_OK (zV b e D A X) mX12_state 0 0 bX12_state_0 := by
  unfold bX12_state_0
  refine rx_by (e_ldI _ _) (s_iload_n hZ.1 dX12_state_0 rfl ?_)
  exact rx_by (e_lt1 _ _) (s_if_lt dX12_state_1 (by decide) (kX12_state_15 hZ) (kX12_state_4 hZ))
noncomputable def fX12_state : List Nat → rx_H → Option (Nat × rx_H) := rx_ent 2 bX12_state_0
theorem met_X12_state (hZ : zO b e D A X) : rx_Met (zV b e D A X) 0 yX12_state mX12_state fX12_state := rx_entry hZ.1 (kX12_state_0 hZ) (by decide +kernel) rfl (fun h => by cases h)
theorem zy_X12_state : rx_Y (zV b e D A X) yX12_state mX12_state 1 := ⟨zw2891, zw413, by decide, by decide +kernel, by decide +kernel, by decide +kernel⟩
abbrev mX13_state : rx_M := (RX13, cX13_state, 2, (some .int), false)
noncomputable def bX13_state_22 : rx_K := o_ret1 rx_isI
set_option maxRecDepth 20000 in
theorem kX13_state_22 (hZ : zO b e D A X) : rx_OK (zV b e D A X) mX13_state 0 22 bX13_state_22 := by
  unfold bX13_state_22
  exact s_iret hZ.1 rfl dX13_state_22
noncomputable def bX13_state_16 : rx_K := q_ld q_isR 0 (q_getf 13 132 (q_ld q_isI 1 (q_ald 0 (bX13_state_22))))
set_option maxRecDepth 20000 in
theorem kX13_state_16 (hZ : zO b e D A X) : rx_OK (zV b e D A X) mX13_state 0 16 bX13_state_16 := by
  unfold bX13_state_16
  refine rx_by (e_ldR _ _) (s_aload_n hZ.1 dX13_state_16 rfl ?_)
  refine zg13_132 dX13_state_17 zw4252 ?_
  refine rx_by (e_ldI _ _) (s_iload_n hZ.1 dX13_state_20 rfl ?_)
  refine rx_by (e_ald _ _) (s_iald (tt := 0) rfl dX13_state_21 ?_)
  exact (kX13_state_22 hZ)
noncomputable def bX13_state_12 : rx_K := o_const 34359738360 (bX13_state_22)
set_option maxRecDepth 20000 in
theorem kX13_state_12 (hZ : zO b e D A X) : rx_OK (zV b e D A X) mX13_state 0 12 bX13_state_12 := by
  unfold bX13_state_12
  refine s_iconst dX13_state_12 (by decide +kernel) ?_
  exact s_goto dX13_state_13 (by decide) (kX13_state_22 hZ)
noncomputable def bX13_state_4 : rx_K := q_ld q_isI 1 (q_ld q_isR 0 (q_getf 13 129 (q_lt2 bX13_state_16 bX13_state_12)))
set_option maxRecDepth 20000 in
theorem kX13_state_4 (hZ : zO b e D A X) : rx_OK (zV b e D A X) mX13_state 0 4 bX13_state_4 := by
  unfold bX13_state_4
  refine rx_by (e_ldI _ _) (s_iload_n hZ.1 dX13_state_4 rfl ?_)
  refine rx_by (e_ldR _ _) (s_aload_n hZ.1 dX13_state_5 rfl ?_)
  refine zg13_129 dX13_state_6 zw4249 ?_
  exact rx_by (e_lt2 _ _) (s_icmp_lt dX13_state_9 (by decide) (kX13_state_16 hZ) (kX13_state_12 hZ))
noncomputable def bX13_state_0 : rx_K := q_ld q_isI 1 (q_lt1 bX13_state_12 bX13_state_4)
set_option maxRecDepth 20000 in
theorem kX13_state_0 (hZ : zO b e D A X) : rx_OK (zV b e D A X) mX13_state 0 0 bX13_state_0 := by
  unfold bX13_state_0
  refine rx_by (e_ldI _ _) (s_iload_n hZ.1 dX13_state_0 rfl ?_)
  exact rx_by (e_lt1 _ _) (s_if_lt dX13_state_1 (by decide) (kX13_state_12 hZ) (kX13_state_4 hZ))
noncomputable def fX13_state : List Nat → rx_H → Option (Nat × rx_H) := rx_ent 2 bX13_state_0
theorem met_X13_state (hZ : zO b e D A X) : rx_Met (zV b e D A X) 0 yX13_state mX13_state fX13_state := rx_entry hZ.1 (kX13_state_0 hZ) (by decide +kernel) rfl (fun h => by cases h)
theorem zy_X13_state : rx_Y (zV b e D A X) yX13_state mX13_state 1 := ⟨zw3977, zw431, by decide, by decide +kernel, by decide +kernel, by decide +kernel⟩
abbrev mX12_classOf : rx_M := (RX12, cX12_classOf, 2, (some .int), false)
noncomputable def bX12_classOf_29 : rx_K := o_ret1 rx_isI
set_option maxRecDepth 20000 in
theorem kX12_classOf_29 (hZ : zO b e D A X) : rx_OK (zV b e D A X) mX12_classOf 0 29 bX12_classOf_29 := by
  unfold bX12_classOf_29
  exact s_iret hZ.1 rfl dX12_classOf_29
noncomputable def bX12_classOf_16 : rx_K := o_const 34359738360 (bX12_classOf_29)
set_option maxRecDepth 20000 in
theorem kX12_classOf_16 (hZ : zO b e D A X) : rx_OK (zV b e D A X) mX12_classOf 0 16 bX12_classOf_16 := by
  unfold bX12_classOf_16
  refine s_iconst dX12_classOf_16 (by decide +kernel) ?_
  exact s_goto dX12_classOf_17 (by decide) (kX12_classOf_29 hZ)
noncomputable def bX12_classOf_5 : rx_K := q_ld q_isI 1 (q_ld q_isR 0 (q_getf 12 20 (q_getf 6 10 (q_gt2 bX12_classOf_16 o_none))))
set_option maxRecDepth 20000 in
theorem kX12_classOf_5 (hZ : zO b e D A X) : rx_OK (zV b e D A X) mX12_classOf 0 5 bX12_classOf_5 := by
  unfold bX12_classOf_5
  refine rx_by (e_ldI _ _) (s_iload_n hZ.1 dX12_classOf_5 rfl ?_)
  refine rx_by (e_ldR _ _) (s_aload_n hZ.1 dX12_classOf_6 rfl ?_)
  refine zg12_20 dX12_classOf_7 zw1623 ?_
  refine zg6_10 dX12_classOf_10 zw1488 ?_
  exact rx_by (e_gt2 _ _) (s_icmp_le dX12_classOf_13 (by decide) (s_none (pc := 20)) (kX12_classOf_16 hZ))
noncomputable def bX12_classOf_0 : rx_K := q_ld q_isI 1 (o_const 8 (q_lt2 bX12_classOf_16 bX12_classOf_5))
set_option maxRecDepth 20000 in
theorem kX12_classOf_0 (hZ : zO b e D A X) : rx_OK (zV b e D A X) mX12_classOf 0 0 bX12_classOf_0 := by
  unfold bX12_classOf_0
  refine rx_by (e_ldI _ _) (s_iload_n hZ.1 dX12_classOf_0 rfl ?_)
  refine s_iconst dX12_classOf_1 (by decide +kernel) ?_
  exact rx_by (e_lt2 _ _) (s_icmp_lt dX12_classOf_2 (by decide) (kX12_classOf_16 hZ) (kX12_classOf_5 hZ))
noncomputable def fX12_classOf : List Nat → rx_H → Option (Nat × rx_H) := rx_ent 2 bX12_classOf_0
theorem met_X12_classOf (hZ : zO b e D A X) : rx_Met (zV b e D A X) 0 yX12_classOf mX12_classOf fX12_classOf := rx_entry hZ.1 (kX12_classOf_0 hZ) (by decide +kernel) rfl (fun h => by cases h)
theorem zy_X12_classOf : rx_Y (zV b e D A X) yX12_classOf mX12_classOf 1 := ⟨zw2895, zw413, by decide, by decide +kernel, by decide +kernel, by decide +kernel⟩
abbrev mX13_classOf : rx_M := (RX13, cX13_classOf, 2, (some .int), false)
noncomputable def bX13_classOf_28 : rx_K := o_ret1 rx_isI
set_option maxRecDepth 20000 in
theorem kX13_classOf_28 (hZ : zO b e D A X) : rx_OK (zV b e D A X) mX13_classOf 0 28 bX13_classOf_28 := by
  unfold bX13_classOf_28
  exact s_iret hZ.1 rfl dX13_classOf_28
noncomputable def bX13_classOf_13 : rx_K := o_const 34359738360 (bX13_classOf_28)
set_option maxRecDepth 20000 in
theorem kX13_classOf_13 (hZ : zO b e D A X) : rx_OK (zV b e D A X) mX13_classOf 0 13 bX13_classOf_13 := by
  unfold bX13_classOf_13
  refine s_iconst dX13_classOf_13 (by decide +kernel) ?_
  exact s_goto dX13_classOf_14 (by decide) (kX13_classOf_28 hZ)
noncomputable def bX13_classOf_5 : rx_K := q_ld q_isI 1 (q_ld q_isR 0 (q_getf 13 151 (q_gt2 bX13_classOf_13 o_none)))
set_option maxRecDepth 20000 in
theorem kX13_classOf_5 (hZ : zO b e D A X) : rx_OK (zV b e D A X) mX13_classOf 0 5 bX13_classOf_5 := by
  unfold bX13_classOf_5
  refine rx_by (e_ldI _ _) (s_iload_n hZ.1 dX13_classOf_5 rfl ?_)
  refine rx_by (e_ldR _ _) (s_aload_n hZ.1 dX13_classOf_6 rfl ?_)
  refine zg13_151 dX13_classOf_7 zw4271 ?_
  exact rx_by (e_gt2 _ _) (s_icmp_le dX13_classOf_10 (by decide) (s_none (pc := 17)) (kX13_classOf_13 hZ))
noncomputable def bX13_classOf_0 : rx_K := q_ld q_isI 1 (o_const 8 (q_lt2 bX13_classOf_13 bX13_classOf_5))
set_option maxRecDepth 20000 in
theorem kX13_classOf_0 (hZ : zO b e D A X) : rx_OK (zV b e D A X) mX13_classOf 0 0 bX13_classOf_0 := by
  unfold bX13_classOf_0
  refine rx_by (e_ldI _ _) (s_iload_n hZ.1 dX13_classOf_0 rfl ?_)
  refine s_iconst dX13_classOf_1 (by decide +kernel) ?_
  exact rx_by (e_lt2 _ _) (s_icmp_lt dX13_classOf_2 (by decide) (kX13_classOf_13 hZ) (kX13_classOf_5 hZ))
noncomputable def fX13_classOf : List Nat → rx_H → Option (Nat × rx_H) := rx_ent 2 bX13_classOf_0
theorem met_X13_classOf (hZ : zO b e D A X) : rx_Met (zV b e D A X) 0 yX13_classOf mX13_classOf fX13_classOf := rx_entry hZ.1 (kX13_classOf_0 hZ) (by decide +kernel) rfl (fun h => by cases h)
theorem zy_X13_classOf : rx_Y (zV b e D A X) yX13_classOf mX13_classOf 1 := ⟨zw3981, zw431, by decide, by decide +kernel, by decide +kernel, by decide +kernel⟩
abbrev mX12_fieldOf : rx_M := (RX12, cX12_fieldOf, 3, (some .int), false)
noncomputable def bX12_fieldOf_40 : rx_K := o_const 0 (o_ret1 rx_isI)
set_option maxRecDepth 20000 in
theorem kX12_fieldOf_40 (hZ : zO b e D A X) : rx_OK (zV b e D A X) mX12_fieldOf 0 40 bX12_fieldOf_40 := by
  unfold bX12_fieldOf_40
  refine s_iconst dX12_fieldOf_40 (by decide +kernel) ?_
  exact s_iret hZ.1 rfl dX12_fieldOf_41
noncomputable def bX12_fieldOf_5 : rx_K := q_ld q_isI 1 (q_ld q_isR 0 (q_getf 12 20 (q_getf 6 10 (q_gt2 bX12_fieldOf_40 o_none))))
set_option maxRecDepth 20000 in
theorem kX12_fieldOf_5 (hZ : zO b e D A X) : rx_OK (zV b e D A X) mX12_fieldOf 0 5 bX12_fieldOf_5 := by
  unfold bX12_fieldOf_5
  refine rx_by (e_ldI _ _) (s_iload_n hZ.1 dX12_fieldOf_5 rfl ?_)
  refine rx_by (e_ldR _ _) (s_aload_n hZ.1 dX12_fieldOf_6 rfl ?_)
  refine zg12_20 dX12_fieldOf_7 zw1623 ?_
  refine zg6_10 dX12_fieldOf_10 zw1488 ?_
  exact rx_by (e_gt2 _ _) (s_icmp_gt dX12_fieldOf_13 (by decide) (kX12_fieldOf_40 hZ) (s_none (pc := 16)))
noncomputable def bX12_fieldOf_0 : rx_K := q_ld q_isI 1 (o_const 8 (q_lt2 bX12_fieldOf_40 bX12_fieldOf_5))
set_option maxRecDepth 20000 in
theorem kX12_fieldOf_0 (hZ : zO b e D A X) : rx_OK (zV b e D A X) mX12_fieldOf 0 0 bX12_fieldOf_0 := by
  unfold bX12_fieldOf_0
  refine rx_by (e_ldI _ _) (s_iload_n hZ.1 dX12_fieldOf_0 rfl ?_)
  refine s_iconst dX12_fieldOf_1 (by decide +kernel) ?_
  exact rx_by (e_lt2 _ _) (s_icmp_lt dX12_fieldOf_2 (by decide) (kX12_fieldOf_40 hZ) (kX12_fieldOf_5 hZ))
noncomputable def fX12_fieldOf : List Nat → rx_H → Option (Nat × rx_H) := rx_ent 3 bX12_fieldOf_0
theorem met_X12_fieldOf (hZ : zO b e D A X) : rx_Met (zV b e D A X) 0 yX12_fieldOf mX12_fieldOf fX12_fieldOf := rx_entry hZ.1 (kX12_fieldOf_0 hZ) (by decide +kernel) rfl (fun h => by cases h)
theorem zy_X12_fieldOf : rx_Y (zV b e D A X) yX12_fieldOf mX12_fieldOf 2 := ⟨zw2899, zw413, by decide, by decide +kernel, by decide +kernel, by decide +kernel⟩
abbrev mX13_fieldOf : rx_M := (RX13, cX13_fieldOf, 4, (some .int), false)
noncomputable def bX13_fieldOf_62 : rx_K := o_const 0 (o_ret1 rx_isI)
set_option maxRecDepth 20000 in
theorem kX13_fieldOf_62 (hZ : zO b e D A X) : rx_OK (zV b e D A X) mX13_fieldOf 0 62 bX13_fieldOf_62 := by
  unfold bX13_fieldOf_62
  refine s_iconst dX13_fieldOf_62 (by decide +kernel) ?_
  exact s_iret hZ.1 rfl dX13_fieldOf_63
noncomputable def bX13_fieldOf_40 : rx_K := o_const 0 (q_st q_isI 3 (q_ld q_isI 3 (q_eq1 bX13_fieldOf_62 o_none)))
set_option maxRecDepth 20000 in
theorem kX13_fieldOf_40 (hZ : zO b e D A X) : rx_OK (zV b e D A X) mX13_fieldOf 0 40 bX13_fieldOf_40 := by
  unfold bX13_fieldOf_40
  refine s_iconst dX13_fieldOf_40 (by decide +kernel) ?_
  refine rx_by (e_stI _ _) (s_istore_n hZ.1 dX13_fieldOf_41 rfl (Nat.le_of_ble_eq_true rfl) ?_)
  refine rx_by (e_ldI _ _) (s_iload_n hZ.1 dX13_fieldOf_42 rfl ?_)
  exact rx_by (e_eq1 _ _) (s_if_eq dX13_fieldOf_43 (by decide) (kX13_fieldOf_62 hZ) (s_none (pc := 46)))
noncomputable def bX13_fieldOf_5 : rx_K := q_ld q_isI 1 (q_ld q_isR 0 (q_getf 13 151 (q_gt2 bX13_fieldOf_40 o_none)))
set_option maxRecDepth 20000 in
theorem kX13_fieldOf_5 (hZ : zO b e D A X) : rx_OK (zV b e D A X) mX13_fieldOf 0 5 bX13_fieldOf_5 := by
  unfold bX13_fieldOf_5
  refine rx_by (e_ldI _ _) (s_iload_n hZ.1 dX13_fieldOf_5 rfl ?_)
  refine rx_by (e_ldR _ _) (s_aload_n hZ.1 dX13_fieldOf_6 rfl ?_)
  refine zg13_151 dX13_fieldOf_7 zw4271 ?_
  exact rx_by (e_gt2 _ _) (s_icmp_gt dX13_fieldOf_10 (by decide) (kX13_fieldOf_40 hZ) (s_none (pc := 13)))
noncomputable def bX13_fieldOf_0 : rx_K := q_ld q_isI 1 (o_const 8 (q_lt2 bX13_fieldOf_40 bX13_fieldOf_5))
set_option maxRecDepth 20000 in
theorem kX13_fieldOf_0 (hZ : zO b e D A X) : rx_OK (zV b e D A X) mX13_fieldOf 0 0 bX13_fieldOf_0 := by
  unfold bX13_fieldOf_0
  refine rx_by (e_ldI _ _) (s_iload_n hZ.1 dX13_fieldOf_0 rfl ?_)
  refine s_iconst dX13_fieldOf_1 (by decide +kernel) ?_
  exact rx_by (e_lt2 _ _) (s_icmp_lt dX13_fieldOf_2 (by decide) (kX13_fieldOf_40 hZ) (kX13_fieldOf_5 hZ))
noncomputable def fX13_fieldOf : List Nat → rx_H → Option (Nat × rx_H) := rx_ent 4 bX13_fieldOf_0
theorem met_X13_fieldOf (hZ : zO b e D A X) : rx_Met (zV b e D A X) 0 yX13_fieldOf mX13_fieldOf fX13_fieldOf := rx_entry hZ.1 (kX13_fieldOf_0 hZ) (by decide +kernel) rfl (fun h => by cases h)
theorem zy_X13_fieldOf : rx_Y (zV b e D A X) yX13_fieldOf mX13_fieldOf 2 := ⟨zw3985, zw431, by decide, by decide +kernel, by decide +kernel, by decide +kernel⟩
end ZM12

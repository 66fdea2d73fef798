section ZM10
variable {b : Nat} {e : Nat → Value} {D : va_G} {A : Nat → ClassId} {X : State → Prop}
abbrev mX13_brokenAt : rx_M := (RX13, cX13_brokenAt, 3, (some .int), false)
noncomputable def bX13_brokenAt_35 : rx_K := o_ret1 rx_isI
set_option maxRecDepth 20000 in
theorem kX13_brokenAt_35 (hZ : zO b e D A X) : rx_OK (zV b e D A X) mX13_brokenAt 0 35 bX13_brokenAt_35 := by
  unfold bX13_brokenAt_35
  exact s_iret hZ.1 rfl dX13_brokenAt_35
noncomputable def bX13_brokenAt_21 : rx_K := o_const 34359738360 (bX13_brokenAt_35)
set_option maxRecDepth 20000 in
theorem kX13_brokenAt_21 (hZ : zO b e D A X) : rx_OK (zV b e D A X) mX13_brokenAt 0 21 bX13_brokenAt_21 := by
  unfold bX13_brokenAt_21
  refine s_iconst dX13_brokenAt_21 (by decide +kernel) ?_
  exact s_goto dX13_brokenAt_22 (by decide) (kX13_brokenAt_35 hZ)
noncomputable def bX13_brokenAt_4 : rx_K := q_ld q_isI 1 (q_ld q_isR 0 (q_getf 13 145 (q_lt2 o_none bX13_brokenAt_21)))
set_option maxRecDepth 20000 in
theorem kX13_brokenAt_4 (hZ : zO b e D A X) : rx_OK (zV b e D A X) mX13_brokenAt 0 4 bX13_brokenAt_4 := by
  unfold bX13_brokenAt_4
  refine rx_by (e_ldI _ _) (s_iload_n hZ.1 dX13_brokenAt_4 rfl ?_)
  refine rx_by (e_ldR _ _) (s_aload_n hZ.1 dX13_brokenAt_5 rfl ?_)
  refine zg13_145 dX13_brokenAt_6 zw4265 ?_
  exact rx_by (e_lt2 _ _) (s_icmp_ge dX13_brokenAt_9 (by decide) (kX13_brokenAt_21 hZ) (s_none (pc := 12)))
noncomputable def bX13_brokenAt_0 : rx_K := q_ld q_isI 1 (q_lt1 bX13_brokenAt_21 bX13_brokenAt_4)
set_option maxRecDepth 20000 in
theorem kX13_brokenAt_0 (hZ : zO b e D A X) : rx_OK (zV b e D A X) mX13_brokenAt 0 0 bX13_brokenAt_0 := by
  unfold bX13_brokenAt_0
  refine rx_by (e_ldI _ _) (s_iload_n hZ.1 dX13_brokenAt_0 rfl ?_)
  exact rx_by (e_lt1 _ _) (s_if_lt dX13_brokenAt_1 (by decide) (kX13_brokenAt_21 hZ) (kX13_brokenAt_4 hZ))
noncomputable def fX13_brokenAt : List Nat → rx_H → Option (Nat × rx_H) := rx_ent 3 bX13_brokenAt_0
theorem met_X13_brokenAt (hZ : zO b e D A X) : rx_Met (zV b e D A X) 0 yX13_brokenAt mX13_brokenAt fX13_brokenAt := rx_entry hZ.1 (kX13_brokenAt_0 hZ) (by decide +kernel) rfl (fun h => by cases h)
theorem zy_X13_brokenAt : rx_Y (zV b e D A X) yX13_brokenAt mX13_brokenAt 2 := ⟨zw3785, zw431, by decide, by decide +kernel, by decide +kernel, by decide +kernel⟩
abbrev mX12_stale : rx_M := (RX12, cX12_stale, 6, (some .int), false)
noncomputable def bX12_stale_133 (j : Nat → rx_K) : rx_K := q_ld q_isI 1 (o_ret1 rx_isI)
set_option maxRecDepth 20000 in
theorem kX12_stale_133 (hZ : zO b e D A X) (j : Nat → rx_K) (hj : ∀ k pc, [15][k]? = some pc → rx_OK (zV b e D A X) mX12_stale 2 pc (j k)) : rx_OK (zV b e D A X) mX12_stale 2 133 (bX12_stale_133 j) := by
  unfold bX12_stale_133
  refine rx_by (e_ldI _ _) (s_iload_n hZ.1 dX12_stale_133 rfl ?_)
  exact s_iret hZ.1 rfl dX12_stale_134
noncomputable def bX12_stale_127 (j : Nat → rx_K) : rx_K := q_inc 2 8 ((j 0))
set_option maxRecDepth 20000 in
theorem kX12_stale_127 (hZ : zO b e D A X) (j : Nat → rx_K) (hj : ∀ k pc, [15][k]? = some pc → rx_OK (zV b e D A X) mX12_stale 2 pc (j k)) : rx_OK (zV b e D A X) mX12_stale 2 127 (bX12_stale_127 j) := by
  unfold bX12_stale_127
  refine rx_by (e_inc (by decide +kernel) _) (s_iinc hZ.1 dX12_stale_127 (Nat.le_of_ble_eq_true rfl) ?_)
  exact s_goto dX12_stale_130 (by decide) (hj 0 15 rfl)
noncomputable def bX12_stale_20 (j : Nat → rx_K) : rx_K := q_ld q_isR 0 (q_ld q_isI 2 (q_ld q_isR 0 (q_getf 12 6 (q_ld q_isI 2 (q_ald 0 (o_callV 2 12 fX12_buildOf (q_st q_isR 3 (o_const 0 (q_st q_isI 4 (q_ld q_isR 3 (o_nul (bX12_stale_127 j) o_none)))))))))))
set_option maxRecDepth 20000 in
theorem kX12_stale_20 (hZ : zO b e D A X) (j : Nat → rx_K) (hj : ∀ k pc, [15][k]? = some pc → rx_OK (zV b e D A X) mX12_stale 2 pc (j k)) : rx_OK (zV b e D A X) mX12_stale 2 20 (bX12_stale_20 j) := by
  unfold bX12_stale_20
  refine rx_by (e_ldR _ _) (s_aload_n hZ.1 dX12_stale_20 rfl ?_)
  refine rx_by (e_ldI _ _) (s_iload_n hZ.1 dX12_stale_21 rfl ?_)
  refine rx_by (e_ldR _ _) (s_aload_n hZ.1 dX12_stale_22 rfl ?_)
  refine zg12_6 dX12_stale_23 zw1609 ?_
  refine rx_by (e_ldI _ _) (s_iload_n hZ.1 dX12_stale_26 rfl ?_)
  refine rx_by (e_ald _ _) (s_iald (tt := 0) rfl dX12_stale_27 ?_)
  refine s_callV hZ.1 (met_X12_buildOf hZ) (by decide) zy_X12_buildOf zcl12 zw1559 zw1 (Or.inl zw1557) dX12_stale_28 ?_
  refine rx_by (e_stR _ _) (s_astore_n hZ.1 dX12_stale_31 rfl (Nat.le_of_ble_eq_true rfl) ?_)
  refine s_iconst dX12_stale_32 (by decide +kernel) ?_
  refine rx_by (e_stI _ _) (s_istore hZ.1 dX12_stale_33 (Nat.le_of_ble_eq_true rfl) ?_)
  refine rx_by (e_ldR _ _) (s_aload_n hZ.1 dX12_stale_35 rfl ?_)
  exact s_ifnull dX12_stale_36 (by decide) (kX12_stale_127 hZ j hj) (s_none (pc := 39))
noncomputable def bX12_stale_15 (j : Nat → rx_K) : rx_K := q_ld q_isI 2 (o_const 40 (q_lt2 (bX12_stale_20 j) (bX12_stale_133 j)))
set_option maxRecDepth 20000 in
theorem kX12_stale_15 (hZ : zO b e D A X) (j : Nat → rx_K) (hj : ∀ k pc, [15][k]? = some pc → rx_OK (zV b e D A X) mX12_stale 2 pc (j k)) : rx_OK (zV b e D A X) mX12_stale 2 15 (bX12_stale_15 j) := by
  unfold bX12_stale_15
  refine rx_by (e_ldI _ _) (s_iload_n hZ.1 dX12_stale_15 rfl ?_)
  refine s_iconst dX12_stale_16 (by decide +kernel) ?_
  exact rx_by (e_lt2 _ _) (s_icmp_ge dX12_stale_17 (by decide) (kX12_stale_133 hZ j hj) (kX12_stale_20 hZ j hj))
noncomputable def bX12_stale_0 (j : Nat → rx_K) : rx_K := o_const 0 (q_st q_isI 1 (q_ld q_isR 0 (q_getf 12 16 (q_ld q_isR 0 (q_getf 12 13 (o_callV 1 5 fX5_clear (o_const 0 (q_st q_isI 2 ((bX12_stale_15 j))))))))))
set_option maxRecDepth 20000 in
theorem kX12_stale_0 (hZ : zO b e D A X) (j : Nat → rx_K) (hj : ∀ k pc, [15][k]? = some pc → rx_OK (zV b e D A X) mX12_stale 2 pc (j k)) : rx_OK (zV b e D A X) mX12_stale 2 0 (bX12_stale_0 j) := by
  unfold bX12_stale_0
  refine s_iconst dX12_stale_0 (by decide +kernel) ?_
  refine rx_by (e_stI _ _) (s_istore_n hZ.1 dX12_stale_1 rfl (Nat.le_of_ble_eq_true rfl) ?_)
  refine rx_by (e_ldR _ _) (s_aload_n hZ.1 dX12_stale_2 rfl ?_)
  refine zg12_16 dX12_stale_3 zw1619 ?_
  refine rx_by (e_ldR _ _) (s_aload_n hZ.1 dX12_stale_6 rfl ?_)
  refine zg12_13 dX12_stale_7 zw1616 ?_
  refine s_callV hZ.1 (met_X5_clear hZ) (by decide) zy_X5_clear zcl5 zw1598 zw1599 (Or.inl zw2479) dX12_stale_10 ?_
  refine s_iconst dX12_stale_13 (by decide +kernel) ?_
  refine rx_by (e_stI _ _) (s_istore_n hZ.1 dX12_stale_14 rfl (Nat.le_of_ble_eq_true rfl) ?_)
  exact (kX12_stale_15 hZ j hj)
noncomputable def hX12_stale (j : Nat → rx_K) : List rx_K := [bX12_stale_15 j]
theorem lX12_stale (hZ : zO b e D A X) : ∀ n k pc, [15][k]? = some pc → rx_OK (zV b e D A X) mX12_stale 2 pc (rx_J hX12_stale n k) := rx_loop fun j hj k pc h => by
  match k, h with
  | 0, h =>
    have e9 := Option.some.inj (show some 15 = some pc from h)
    subst e9
    exact kX12_stale_15 hZ j hj
  | _ + 1, h => exact absurd h (by simp)
noncomputable def fX12_stale : List Nat → rx_H → Option (Nat × rx_H) := rx_ent 6 (bX12_stale_0 (rx_J hX12_stale 1000000))
theorem met_X12_stale (hZ : zO b e D A X) : rx_Met (zV b e D A X) 2 yX12_stale mX12_stale fX12_stale := rx_entry hZ.1 (kX12_stale_0 hZ _ (lX12_stale hZ 1000000)) (by decide +kernel) rfl (fun h => by cases h)
theorem zy_X12_stale : rx_Y (zV b e D A X) yX12_stale mX12_stale 0 := ⟨zw2580, zw413, by decide, by decide +kernel, by decide +kernel, by decide +kernel⟩
abbrev mX13_stale : rx_M := (RX13, cX13_stale, 6, (some .int), false)
noncomputable def bX13_stale_96 (j : Nat → rx_K) : rx_K := q_ld q_isI 1 (o_ret1 rx_isI)
set_option maxRecDepth 20000 in
theorem kX13_stale_96 (hZ : zO b e D A X) (j : Nat → rx_K) (hj : ∀ k pc, [4][k]? = some pc → rx_OK (zV b e D A X) mX13_stale 0 pc (j k)) : rx_OK (zV b e D A X) mX13_stale 0 96 (bX13_stale_96 j) := by
  unfold bX13_stale_96
  refine rx_by (e_ldI _ _) (s_iload_n hZ.1 dX13_stale_96 rfl ?_)
  exact s_iret hZ.1 rfl dX13_stale_97
noncomputable def bX13_stale_90 (j : Nat → rx_K) : rx_K := q_inc 2 8 ((j 0))
set_option maxRecDepth 20000 in
theorem kX13_stale_90 (hZ : zO b e D A X) (j : Nat → rx_K) (hj : ∀ k pc, [4][k]? = some pc → rx_OK (zV b e D A X) mX13_stale 0 pc (j k)) : rx_OK (zV b e D A X) mX13_stale 0 90 (bX13_stale_90 j) := by
  unfold bX13_stale_90
  refine rx_by (e_inc (by decide +kernel) _) (s_iinc hZ.1 dX13_stale_90 (Nat.le_of_ble_eq_true rfl) ?_)
  exact s_goto dX13_stale_93 (by decide) (hj 0 4 rfl)
noncomputable def bX13_stale_9 (j : Nat → rx_K) : rx_K := q_ld q_isR 0 (q_getf 13 90 (q_ld q_isI 2 (q_ald 0 (q_st q_isI 3 (o_const 0 (q_st q_isI 4 (q_ld q_isI 3 (o_const 34359738352 (q_eq2 (bX13_stale_90 j) o_none)))))))))
set_option maxRecDepth 20000 in
theorem kX13_stale_9 (hZ : zO b e D A X) (j : Nat → rx_K) (hj : ∀ k pc, [4][k]? = some pc → rx_OK (zV b e D A X) mX13_stale 0 pc (j k)) : rx_OK (zV b e D A X) mX13_stale 0 9 (bX13_stale_9 j) := by
  unfold bX13_stale_9
  refine rx_by (e_ldR _ _) (s_aload_n hZ.1 dX13_stale_9 rfl ?_)
  refine zg13_90 dX13_stale_10 zw4211 ?_
  refine rx_by (e_ldI _ _) (s_iload_n hZ.1 dX13_stale_13 rfl ?_)
  refine rx_by (e_ald _ _) (s_iald (tt := 0) rfl dX13_stale_14 ?_)
  refine rx_by (e_stI _ _) (s_istore_n hZ.1 dX13_stale_15 rfl (Nat.le_of_ble_eq_true rfl) ?_)
  refine s_iconst dX13_stale_16 (by decide +kernel) ?_
  refine rx_by (e_stI _ _) (s_istore hZ.1 dX13_stale_17 (Nat.le_of_ble_eq_true rfl) ?_)
  refine rx_by (e_ldI _ _) (s_iload_n hZ.1 dX13_stale_19 rfl ?_)
  refine s_bipush dX13_stale_20 (by decide +kernel) ?_
  exact rx_by (e_eq2 _ _) (s_icmp_eq dX13_stale_22 (by decide) (kX13_stale_90 hZ j hj) (s_none (pc := 25)))
noncomputable def bX13_stale_4 (j : Nat → rx_K) : rx_K := q_ld q_isI 2 (o_const 40 (q_lt2 (bX13_stale_9 j) (bX13_stale_96 j)))
set_option maxRecDepth 20000 in
theorem kX13_stale_4 (hZ : zO b e D A X) (j : Nat → rx_K) (hj : ∀ k pc, [4][k]? = some pc → rx_OK (zV b e D A X) mX13_stale 0 pc (j k)) : rx_OK (zV b e D A X) mX13_stale 0 4 (bX13_stale_4 j) := by
  unfold bX13_stale_4
  refine rx_by (e_ldI _ _) (s_iload_n hZ.1 dX13_stale_4 rfl ?_)
  refine s_iconst dX13_stale_5 (by decide +kernel) ?_
  exact rx_by (e_lt2 _ _) (s_icmp_ge dX13_stale_6 (by decide) (kX13_stale_96 hZ j hj) (kX13_stale_9 hZ j hj))
noncomputable def bX13_stale_0 (j : Nat → rx_K) : rx_K := o_const 0 (q_st q_isI 1 (o_const 0 (q_st q_isI 2 ((bX13_stale_4 j)))))
set_option maxRecDepth 20000 in
theorem kX13_stale_0 (hZ : zO b e D A X) (j : Nat → rx_K) (hj : ∀ k pc, [4][k]? = some pc → rx_OK (zV b e D A X) mX13_stale 0 pc (j k)) : rx_OK (zV b e D A X) mX13_stale 0 0 (bX13_stale_0 j) := by
  unfold bX13_stale_0
  refine s_iconst dX13_stale_0 (by decide +kernel) ?_
  refine rx_by (e_stI _ _) (s_istore_n hZ.1 dX13_stale_1 rfl (Nat.le_of_ble_eq_true rfl) ?_)
  refine s_iconst dX13_stale_2 (by decide +kernel) ?_
  refine rx_by (e_stI _ _) (s_istore_n hZ.1 dX13_stale_3 rfl (Nat.le_of_ble_eq_true rfl) ?_)
  exact (kX13_stale_4 hZ j hj)
noncomputable def hX13_stale (j : Nat → rx_K) : List rx_K := [bX13_stale_4 j]
theorem lX13_stale (hZ : zO b e D A X) : ∀ n k pc, [4][k]? = some pc → rx_OK (zV b e D A X) mX13_stale 0 pc (rx_J hX13_stale n k) := rx_loop fun j hj k pc h => by
  match k, h with
  | 0, h =>
    have e9 := Option.some.inj (show some 4 = some pc from h)
    subst e9
    exact kX13_stale_4 hZ j hj
  | _ + 1, h => exact absurd h (by simp)
noncomputable def fX13_stale : List Nat → rx_H → Option (Nat × rx_H) := rx_ent 6 (bX13_stale_0 (rx_J hX13_stale 1000000))
theorem met_X13_stale (hZ : zO b e D A X) : rx_Met (zV b e D A X) 0 yX13_stale mX13_stale fX13_stale := rx_entry hZ.1 (kX13_stale_0 hZ _ (lX13_stale hZ 1000000)) (by decide +kernel) rfl (fun h => by cases h)
theorem zy_X13_stale : rx_Y (zV b e D A X) yX13_stale mX13_stale 0 := ⟨zw3789, zw431, by decide, by decide +kernel, by decide +kernel, by decide +kernel⟩
abbrev mX12_greatest : rx_M := (RX12, cX12_greatest, 2, (some .int), false)
noncomputable def bX12_greatest_22 : rx_K := o_ret1 rx_isI
set_option maxRecDepth 20000 in
theorem kX12_greatest_22 (hZ : zO b e D A X) : rx_OK (zV b e D A X) mX12_greatest 0 22 bX12_greatest_22 := by
  unfold bX12_greatest_22
  exact s_iret hZ.1 rfl dX12_greatest_22
noncomputable def bX12_greatest_9 : rx_K := o_const 34359738352 (bX12_greatest_22)
set_option maxRecDepth 20000 in
theorem kX12_greatest_9 (hZ : zO b e D A X) : rx_OK (zV b e D A X) mX12_greatest 0 9 bX12_greatest_9 := by
  unfold bX12_greatest_9
  refine s_bipush dX12_greatest_9 (by decide +kernel) ?_
  exact s_goto dX12_greatest_11 (by decide) (kX12_greatest_22 hZ)
noncomputable def bX12_greatest_0 : rx_K := q_ld q_isR 0 (q_getf 12 5 (q_ld q_isI 1 (q_ald 0 (q_eq1 bX12_greatest_9 o_none))))
set_option maxRecDepth 20000 in
theorem kX12_greatest_0 (hZ : zO b e D A X) : rx_OK (zV b e D A X) mX12_greatest 0 0 bX12_greatest_0 := by
  unfold bX12_greatest_0
  refine rx_by (e_ldR _ _) (s_aload_n hZ.1 dX12_greatest_0 rfl ?_)
  refine zg12_5 dX12_greatest_1 zw1608 ?_
  refine rx_by (e_ldI _ _) (s_iload_n hZ.1 dX12_greatest_4 rfl ?_)
  refine rx_by (e_ald _ _) (s_iald (tt := 0) rfl dX12_greatest_5 ?_)
  exact rx_by (e_eq1 _ _) (s_if_ne dX12_greatest_6 (by decide) (s_none (pc := 14)) (kX12_greatest_9 hZ))
noncomputable def fX12_greatest : List Nat → rx_H → Option (Nat × rx_H) := rx_ent 2 bX12_greatest_0
theorem met_X12_greatest (hZ : zO b e D A X) : rx_Met (zV b e D A X) 0 yX12_greatest mX12_greatest fX12_greatest := rx_entry hZ.1 (kX12_greatest_0 hZ) (by decide +kernel) rfl (fun h => by cases h)
theorem zy_X12_greatest : rx_Y (zV b e D A X) yX12_greatest mX12_greatest 1 := ⟨zw2588, zw413, by decide, by decide +kernel, by decide +kernel, by decide +kernel⟩
abbrev mX12_choose : rx_M := (RX12, cX12_choose, 3, (some .int), false)
noncomputable def bX12_choose_74 (j : Nat → rx_K) : rx_K := q_ld q_isR 0 (q_getf 12 7 (o_const 0 (q_ld q_isR 0 (q_getf 12 6 (o_const 0 (o_const 40 (o_copy 0 (rx_chk .int) (q_ld q_isR 0 (o_callV 0 12 fX12_renewWorld (q_ld q_isI 2 (o_ret1 rx_isI)))))))))))
set_option maxRecDepth 20000 in
theorem kX12_choose_74 (hZ : zO b e D A X) (j : Nat → rx_K) (hj : ∀ k pc, [4][k]? = some pc → rx_OK (zV b e D A X) mX12_choose 4 pc (j k)) : rx_OK (zV b e D A X) mX12_choose 4 74 (bX12_choose_74 j) := by
  unfold bX12_choose_74
  refine rx_by (e_ldR _ _) (s_aload_n hZ.1 dX12_choose_74 rfl ?_)
  refine zg12_7 dX12_choose_75 zw1610 ?_
  refine s_iconst dX12_choose_78 (by decide +kernel) ?_
  refine rx_by (e_ldR _ _) (s_aload_n hZ.1 dX12_choose_79 rfl ?_)
  refine zg12_6 dX12_choose_80 zw1609 ?_
  refine s_iconst dX12_choose_83 (by decide +kernel) ?_
  refine s_iconst dX12_choose_84 (by decide +kernel) ?_
  refine s_copy hZ.1 (tt := 0) (ty := .int) rfl rfl (fun c h => Or.inl (rx_isI_v hZ.1 h).2) rfl (by decide) zw1690 zw1692 zw1691 zw433 dX12_choose_85 ?_
  refine rx_by (e_ldR _ _) (s_aload_n hZ.1 dX12_choose_88 rfl ?_)
  refine s_callV hZ.1 (met_X12_renewWorld hZ) (by decide) zy_X12_renewWorld zcl12 zw2354 zw112 (Or.inl zw2352) dX12_choose_89 ?_
  refine rx_by (e_ldI _ _) (s_iload_n hZ.1 dX12_choose_92 rfl ?_)
  exact s_iret hZ.1 rfl dX12_choose_93
noncomputable def bX12_choose_46 (j : Nat → rx_K) : rx_K := q_ld q_isR 0 (q_ld q_isR 0 (q_getf 12 14 (q_ld q_isR 0 (q_getf 12 7 (o_callV 2 12 fX12_gather (q_ld q_isR 0 (q_ld q_isR 0 (q_getf 12 14 (q_ld q_isR 0 (q_getf 12 7 (o_const 0 (o_callV 3 12 fX12_countBroken (q_eq1 (bX12_choose_74 j) o_none)))))))))))))
set_option maxRecDepth 20000 in
theorem kX12_choose_46 (hZ : zO b e D A X) (j : Nat → rx_K) (hj : ∀ k pc, [4][k]? = some pc → rx_OK (zV b e D A X) mX12_choose 4 pc (j k)) : rx_OK (zV b e D A X) mX12_choose 4 46 (bX12_choose_46 j) := by
  unfold bX12_choose_46
  refine rx_by (e_ldR _ _) (s_aload_n hZ.1 dX12_choose_46 rfl ?_)
  refine rx_by (e_ldR _ _) (s_aload_n hZ.1 dX12_choose_47 rfl ?_)
  refine zg12_14 dX12_choose_48 zw1617 ?_
  refine rx_by (e_ldR _ _) (s_aload_n hZ.1 dX12_choose_51 rfl ?_)
  refine zg12_7 dX12_choose_52 zw1610 ?_
  refine s_callV hZ.1 (met_X12_gather hZ) (by decide) zy_X12_gather zcl12 zw1551 zw0 (Or.inl zw1549) dX12_choose_55 ?_
  refine rx_by (e_ldR _ _) (s_aload_n hZ.1 dX12_choose_58 rfl ?_)
  refine rx_by (e_ldR _ _) (s_aload_n hZ.1 dX12_choose_59 rfl ?_)
  refine zg12_14 dX12_choose_60 zw1617 ?_
  refine rx_by (e_ldR _ _) (s_aload_n hZ.1 dX12_choose_63 rfl ?_)
  refine zg12_7 dX12_choose_64 zw1610 ?_
  refine s_iconst dX12_choose_67 (by decide +kernel) ?_
  refine s_callV hZ.1 (met_X12_countBroken hZ) (by decide) zy_X12_countBroken zcl12 zw2562 zw136 (Or.inl zw2560) dX12_choose_68 ?_
  exact rx_by (e_eq1 _ _) (s_if_ne dX12_choose_71 (by decide) (s_none (pc := 94)) (kX12_choose_74 hZ j hj))
noncomputable def bX12_choose_39 (j : Nat → rx_K) : rx_K := o_const 8 (q_st q_isI 2 (q_ld q_isI 2 (q_ld q_isI 1 (q_gt2 o_none (bX12_choose_46 j)))))
set_option maxRecDepth 20000 in
theorem kX12_choose_39 (hZ : zO b e D A X) (j : Nat → rx_K) (hj : ∀ k pc, [4][k]? = some pc → rx_OK (zV b e D A X) mX12_choose 4 pc (j k)) : rx_OK (zV b e D A X) mX12_choose 4 39 (bX12_choose_39 j) := by
  unfold bX12_choose_39
  refine s_iconst dX12_choose_39 (by decide +kernel) ?_
  refine rx_by (e_stI _ _) (s_istore_n hZ.1 dX12_choose_40 rfl (Nat.le_of_ble_eq_true rfl) ?_)
  refine rx_by (e_ldI _ _) (s_iload_n hZ.1 dX12_choose_41 rfl ?_)
  refine rx_by (e_ldI _ _) (s_iload_n hZ.1 dX12_choose_42 rfl ?_)
  exact rx_by (e_gt2 _ _) (s_icmp_gt dX12_choose_43 (by decide) (s_none (pc := 104)) (kX12_choose_46 hZ j hj))
noncomputable def bX12_choose_9 (j : Nat → rx_K) : rx_K := q_ld q_isR 0 (q_getf 12 7 (q_ld q_isI 2 (q_ld q_isR 0 (q_ld q_isI 2 (o_callV 1 12 fX12_greatest (p_ast 0 (fun v => v) q_isI (q_ld q_isI 1 (q_ld q_isR 0 (q_getf 12 5 (q_ld q_isI 2 (q_ald 0 (o_const 8 (o_mm z_max (q_bi q_Fmul (q_st q_isI 1 (q_inc 2 8 ((j 0))))))))))))))))))
set_option maxRecDepth 20000 in
theorem kX12_choose_9 (hZ : zO b e D A X) (j : Nat → rx_K) (hj : ∀ k pc, [4][k]? = some pc → rx_OK (zV b e D A X) mX12_choose 4 pc (j k)) : rx_OK (zV b e D A X) mX12_choose 4 9 (bX12_choose_9 j) := by
  unfold bX12_choose_9
  refine rx_by (e_ldR _ _) (s_aload_n hZ.1 dX12_choose_9 rfl ?_)
  refine zg12_7 dX12_choose_10 zw1610 ?_
  refine rx_by (e_ldI _ _) (s_iload_n hZ.1 dX12_choose_13 rfl ?_)
  refine rx_by (e_ldR _ _) (s_aload_n hZ.1 dX12_choose_14 rfl ?_)
  refine rx_by (e_ldI _ _) (s_iload_n hZ.1 dX12_choose_15 rfl ?_)
  refine s_callV hZ.1 (met_X12_greatest hZ) (by decide) zy_X12_greatest zcl12 zw2587 zw138 (Or.inl zw2585) dX12_choose_16 ?_
  refine rx_by2 (l_astI _ _ _) (s_iast hZ.1 (tt := 0) rfl dX12_choose_19 ?_)
  refine rx_by (e_ldI _ _) (s_iload_n hZ.1 dX12_choose_20 rfl ?_)
  refine rx_by (e_ldR _ _) (s_aload_n hZ.1 dX12_choose_21 rfl ?_)
  refine zg12_5 dX12_choose_22 zw1608 ?_
  refine rx_by (e_ldI _ _) (s_iload_n hZ.1 dX12_choose_25 rfl ?_)
  refine rx_by (e_ald _ _) (s_iald (tt := 0) rfl dX12_choose_26 ?_)
  refine s_iconst dX12_choose_27 (by decide +kernel) ?_
  refine s_mmax hZ.1 (by decide) zw2589 zw2179 zw432 zmath_max dX12_choose_28 ?_
  refine rx_by (e_mul _) (s_imul dX12_choose_31 ?_)
  refine rx_by (e_stI _ _) (s_istore_n hZ.1 dX12_choose_32 rfl (Nat.le_of_ble_eq_true rfl) ?_)
  refine rx_by (e_inc (by decide +kernel) _) (s_iinc hZ.1 dX12_choose_33 (Nat.le_of_ble_eq_true rfl) ?_)
  exact s_goto dX12_choose_36 (by decide) (hj 0 4 rfl)
noncomputable def bX12_choose_4 (j : Nat → rx_K) : rx_K := q_ld q_isI 2 (o_const 40 (q_lt2 (bX12_choose_9 j) (bX12_choose_39 j)))
set_option maxRecDepth 20000 in
theorem kX12_choose_4 (hZ : zO b e D A X) (j : Nat → rx_K) (hj : ∀ k pc, [4][k]? = some pc → rx_OK (zV b e D A X) mX12_choose 4 pc (j k)) : rx_OK (zV b e D A X) mX12_choose 4 4 (bX12_choose_4 j) := by
  unfold bX12_choose_4
  refine rx_by (e_ldI _ _) (s_iload_n hZ.1 dX12_choose_4 rfl ?_)
  refine s_iconst dX12_choose_5 (by decide +kernel) ?_
  exact rx_by (e_lt2 _ _) (s_icmp_ge dX12_choose_6 (by decide) (kX12_choose_39 hZ j hj) (kX12_choose_9 hZ j hj))
noncomputable def bX12_choose_0 (j : Nat → rx_K) : rx_K := o_const 8 (q_st q_isI 1 (o_const 0 (q_st q_isI 2 ((bX12_choose_4 j)))))
set_option maxRecDepth 20000 in
theorem kX12_choose_0 (hZ : zO b e D A X) (j : Nat → rx_K) (hj : ∀ k pc, [4][k]? = some pc → rx_OK (zV b e D A X) mX12_choose 4 pc (j k)) : rx_OK (zV b e D A X) mX12_choose 4 0 (bX12_choose_0 j) := by
  unfold bX12_choose_0
  refine s_iconst dX12_choose_0 (by decide +kernel) ?_
  refine rx_by (e_stI _ _) (s_istore_n hZ.1 dX12_choose_1 rfl (Nat.le_of_ble_eq_true rfl) ?_)
  refine s_iconst dX12_choose_2 (by decide +kernel) ?_
  refine rx_by (e_stI _ _) (s_istore_n hZ.1 dX12_choose_3 rfl (Nat.le_of_ble_eq_true rfl) ?_)
  exact (kX12_choose_4 hZ j hj)
noncomputable def hX12_choose (j : Nat → rx_K) : List rx_K := [bX12_choose_4 j]
theorem lX12_choose (hZ : zO b e D A X) : ∀ n k pc, [4][k]? = some pc → rx_OK (zV b e D A X) mX12_choose 4 pc (rx_J hX12_choose n k) := rx_loop fun j hj k pc h => by
  match k, h with
  | 0, h =>
    have e9 := Option.some.inj (show some 4 = some pc from h)
    subst e9
    exact kX12_choose_4 hZ j hj
  | _ + 1, h => exact absurd h (by simp)
noncomputable def fX12_choose : List Nat → rx_H → Option (Nat × rx_H) := rx_ent 3 (bX12_choose_0 (rx_J hX12_choose 1000000))
theorem met_X12_choose (hZ : zO b e D A X) : rx_Met (zV b e D A X) 4 yX12_choose mX12_choose fX12_choose := rx_entry hZ.1 (kX12_choose_0 hZ _ (lX12_choose hZ 1000000)) (by decide +kernel) rfl (fun h => by cases h)
theorem zy_X12_choose : rx_Y (zV b e D A X) yX12_choose mX12_choose 0 := ⟨zw2584, zw413, by decide, by decide +kernel, by decide +kernel, by decide +kernel⟩
abbrev mX13_isBroken : rx_M := (RX13, cX13_isBroken, 5, (some .boolean), false)
noncomputable def bX13_isBroken_85 (j : Nat → rx_K) : rx_K := o_const 0 (o_ret1 rx_isZ)
set_option maxRecDepth 20000 in
theorem kX13_isBroken_85 (hZ : zO b e D A X) (j : Nat → rx_K) (hj : ∀ k pc, [2][k]? = some pc → rx_OK (zV b e D A X) mX13_isBroken 0 pc (j k)) : rx_OK (zV b e D A X) mX13_isBroken 0 85 (bX13_isBroken_85 j) := by
  unfold bX13_isBroken_85
  refine s_iconst dX13_isBroken_85 (by decide +kernel) ?_
  exact s_zret rx_z_ok rfl dX13_isBroken_86
noncomputable def bX13_isBroken_79 (j : Nat → rx_K) : rx_K := q_inc 1 8 ((j 0))
set_option maxRecDepth 20000 in
theorem kX13_isBroken_79 (hZ : zO b e D A X) (j : Nat → rx_K) (hj : ∀ k pc, [2][k]? = some pc → rx_OK (zV b e D A X) mX13_isBroken 0 pc (j k)) : rx_OK (zV b e D A X) mX13_isBroken 0 79 (bX13_isBroken_79 j) := by
  unfold bX13_isBroken_79
  refine rx_by (e_inc (by decide +kernel) _) (s_iinc hZ.1 dX13_isBroken_79 (Nat.le_of_ble_eq_true rfl) ?_)
  exact s_goto dX13_isBroken_82 (by decide) (hj 0 2 rfl)
noncomputable def bX13_isBroken_7 (j : Nat → rx_K) : rx_K := q_ld q_isR 0 (q_getf 13 90 (q_ld q_isI 1 (q_ald 0 (q_st q_isI 2 (o_const 0 (q_st q_isI 3 (q_ld q_isI 2 (o_const 34359738352 (q_eq2 (bX13_isBroken_79 j) o_none)))))))))
set_option maxRecDepth 20000 in
theorem kX13_isBroken_7 (hZ : zO b e D A X) (j : Nat → rx_K) (hj : ∀ k pc, [2][k]? = some pc → rx_OK (zV b e D A X) mX13_isBroken 0 pc (j k)) : rx_OK (zV b e D A X) mX13_isBroken 0 7 (bX13_isBroken_7 j) := by
  unfold bX13_isBroken_7
  refine rx_by (e_ldR _ _) (s_aload_n hZ.1 dX13_isBroken_7 rfl ?_)
  refine zg13_90 dX13_isBroken_8 zw4211 ?_
  refine rx_by (e_ldI _ _) (s_iload_n hZ.1 dX13_isBroken_11 rfl ?_)
  refine rx_by (e_ald _ _) (s_iald (tt := 0) rfl dX13_isBroken_12 ?_)
  refine rx_by (e_stI _ _) (s_istore_n hZ.1 dX13_isBroken_13 rfl (Nat.le_of_ble_eq_true rfl) ?_)
  refine s_iconst dX13_isBroken_14 (by decide +kernel) ?_
  refine rx_by (e_stI _ _) (s_istore_n hZ.1 dX13_isBroken_15 rfl (Nat.le_of_ble_eq_true rfl) ?_)
  refine rx_by (e_ldI _ _) (s_iload_n hZ.1 dX13_isBroken_16 rfl ?_)
  refine s_bipush dX13_isBroken_17 (by decide +kernel) ?_
  exact rx_by (e_eq2 _ _) (s_icmp_eq dX13_isBroken_19 (by decide) (kX13_isBroken_79 hZ j hj) (s_none (pc := 22)))
noncomputable def bX13_isBroken_2 (j : Nat → rx_K) : rx_K := q_ld q_isI 1 (o_const 40 (q_lt2 (bX13_isBroken_7 j) (bX13_isBroken_85 j)))
set_option maxRecDepth 20000 in
theorem kX13_isBroken_2 (hZ : zO b e D A X) (j : Nat → rx_K) (hj : ∀ k pc, [2][k]? = some pc → rx_OK (zV b e D A X) mX13_isBroken 0 pc (j k)) : rx_OK (zV b e D A X) mX13_isBroken 0 2 (bX13_isBroken_2 j) := by
  unfold bX13_isBroken_2
  refine rx_by (e_ldI _ _) (s_iload_n hZ.1 dX13_isBroken_2 rfl ?_)
  refine s_iconst dX13_isBroken_3 (by decide +kernel) ?_
  exact rx_by (e_lt2 _ _) (s_icmp_ge dX13_isBroken_4 (by decide) (kX13_isBroken_85 hZ j hj) (kX13_isBroken_7 hZ j hj))
noncomputable def bX13_isBroken_0 (j : Nat → rx_K) : rx_K := o_const 0 (q_st q_isI 1 ((bX13_isBroken_2 j)))
set_option maxRecDepth 20000 in
theorem kX13_isBroken_0 (hZ : zO b e D A X) (j : Nat → rx_K) (hj : ∀ k pc, [2][k]? = some pc → rx_OK (zV b e D A X) mX13_isBroken 0 pc (j k)) : rx_OK (zV b e D A X) mX13_isBroken 0 0 (bX13_isBroken_0 j) := by
  unfold bX13_isBroken_0
  refine s_iconst dX13_isBroken_0 (by decide +kernel) ?_
  refine rx_by (e_stI _ _) (s_istore_n hZ.1 dX13_isBroken_1 rfl (Nat.le_of_ble_eq_true rfl) ?_)
  exact (kX13_isBroken_2 hZ j hj)
noncomputable def hX13_isBroken (j : Nat → rx_K) : List rx_K := [bX13_isBroken_2 j]
theorem lX13_isBroken (hZ : zO b e D A X) : ∀ n k pc, [2][k]? = some pc → rx_OK (zV b e D A X) mX13_isBroken 0 pc (rx_J hX13_isBroken n k) := rx_loop fun j hj k pc h => by
  match k, h with
  | 0, h =>
    have e9 := Option.some.inj (show some 2 = some pc from h)
    subst e9
    exact kX13_isBroken_2 hZ j hj
  | _ + 1, h => exact absurd h (by simp)
noncomputable def fX13_isBroken : List Nat → rx_H → Option (Nat × rx_H) := rx_ent 5 (bX13_isBroken_0 (rx_J hX13_isBroken 1000000))
theorem met_X13_isBroken (hZ : zO b e D A X) : rx_Met (zV b e D A X) 0 yX13_isBroken mX13_isBroken fX13_isBroken := rx_entry hZ.1 (kX13_isBroken_0 hZ _ (lX13_isBroken hZ 1000000)) (by decide +kernel) rfl (fun h => by cases h)
theorem zy_X13_isBroken : rx_Y (zV b e D A X) yX13_isBroken mX13_isBroken 0 := ⟨zw3797, zw431, by decide, by decide +kernel, by decide +kernel, by decide +kernel⟩
abbrev mX13_choose : rx_M := (RX13, cX13_choose, 4, (some .int), false)
noncomputable def bX13_choose_110 (j : Nat → rx_K) : rx_K := q_ld q_isR 0 (o_callV 0 13 fX13_settle (q_ld q_isI 1 (o_ret1 rx_isI)))
set_option maxRecDepth 20000 in
theorem kX13_choose_110 (hZ : zO b e D A X) (j : Nat → rx_K) (hj : ∀ k pc, [2, 49][k]? = some pc → rx_OK (zV b e D A X) mX13_choose 3 pc (j k)) : rx_OK (zV b e D A X) mX13_choose 3 110 (bX13_choose_110 j) := by
  unfold bX13_choose_110
  refine rx_by (e_ldR _ _) (s_aload_n hZ.1 dX13_choose_110 rfl ?_)
  refine s_callV hZ.1 (met_X13_settle hZ) (by decide) zy_X13_settle zcl13 zw3601 zw319 (Or.inl zw3599) dX13_choose_111 ?_
  refine rx_by (e_ldI _ _) (s_iload_n hZ.1 dX13_choose_114 rfl ?_)
  exact s_iret hZ.1 rfl dX13_choose_115
noncomputable def bX13_choose_96 (j : Nat → rx_K) : rx_K := q_ld q_isR 0 (o_callV 0 13 fX13_numberWorld (q_inc 1 8 (q_ld q_isR 0 (o_callV 0 13 fX13_isBroken (q_eq1 (bX13_choose_110 j) o_none)))))
set_option maxRecDepth 20000 in
theorem kX13_choose_96 (hZ : zO b e D A X) (j : Nat → rx_K) (hj : ∀ k pc, [2, 49][k]? = some pc → rx_OK (zV b e D A X) mX13_choose 3 pc (j k)) : rx_OK (zV b e D A X) mX13_choose 3 96 (bX13_choose_96 j) := by
  unfold bX13_choose_96
  refine rx_by (e_ldR _ _) (s_aload_n hZ.1 dX13_choose_96 rfl ?_)
  refine s_callV hZ.1 (met_X13_numberWorld hZ) (by decide) zy_X13_numberWorld zcl13 zw3605 zw320 (Or.inl zw3603) dX13_choose_97 ?_
  refine rx_by (e_inc (by decide +kernel) _) (s_iinc hZ.1 dX13_choose_100 (Nat.le_of_ble_eq_true rfl) ?_)
  refine rx_by (e_ldR _ _) (s_aload_n hZ.1 dX13_choose_103 rfl ?_)
  refine s_callV hZ.1 (met_X13_isBroken hZ) (by decide) zy_X13_isBroken zcl13 zw3796 zw349 (Or.inl zw3794) dX13_choose_104 ?_
  exact rx_by (e_eq1 _ _) (s_if_ne dX13_choose_107 (by decide) (s_none (pc := 116)) (kX13_choose_110 hZ j hj))
noncomputable def bX13_choose_89 (j : Nat → rx_K) : rx_K := p_ast 0 (fun v => v) q_isI (q_inc 3 8 ((j 1)))
set_option maxRecDepth 20000 in
theorem kX13_choose_89 (hZ : zO b e D A X) (j : Nat → rx_K) (hj : ∀ k pc, [2, 49][k]? = some pc → rx_OK (zV b e D A X) mX13_choose 3 pc (j k)) : rx_OK (zV b e D A X) mX13_choose 3 89 (bX13_choose_89 j) := by
  unfold bX13_choose_89
  refine rx_by2 (l_astI _ _ _) (s_iast hZ.1 (tt := 0) rfl dX13_choose_89 ?_)
  refine rx_by (e_inc (by decide +kernel) _) (s_iinc hZ.1 dX13_choose_90 (Nat.le_of_ble_eq_true rfl) ?_)
  exact s_goto dX13_choose_93 (by decide) (hj 1 49 rfl)
noncomputable def bX13_choose_68 (j : Nat → rx_K) : rx_K := o_const 34359738352 ((bX13_choose_89 j))
set_option maxRecDepth 20000 in
theorem kX13_choose_68 (hZ : zO b e D A X) (j : Nat → rx_K) (hj : ∀ k pc, [2, 49][k]? = some pc → rx_OK (zV b e D A X) mX13_choose 3 pc (j k)) : rx_OK (zV b e D A X) mX13_choose 3 68 (bX13_choose_68 j) := by
  unfold bX13_choose_68
  refine s_bipush dX13_choose_68 (by decide +kernel) ?_
  exact s_goto dX13_choose_70 (by decide) (kX13_choose_89 hZ j hj)
noncomputable def bX13_choose_54 (j : Nat → rx_K) : rx_K := q_ld q_isR 0 (q_getf 13 90 (q_ld q_isI 3 (q_ld q_isR 0 (q_getf 13 146 (q_ld q_isI 3 (q_ald 0 (q_lt1 (bX13_choose_68 j) o_none)))))))
set_option maxRecDepth 20000 in
theorem kX13_choose_54 (hZ : zO b e D A X) (j : Nat → rx_K) (hj : ∀ k pc, [2, 49][k]? = some pc → rx_OK (zV b e D A X) mX13_choose 3 pc (j k)) : rx_OK (zV b e D A X) mX13_choose 3 54 (bX13_choose_54 j) := by
  unfold bX13_choose_54
  refine rx_by (e_ldR _ _) (s_aload_n hZ.1 dX13_choose_54 rfl ?_)
  refine zg13_90 dX13_choose_55 zw4211 ?_
  refine rx_by (e_ldI _ _) (s_iload_n hZ.1 dX13_choose_58 rfl ?_)
  refine rx_by (e_ldR _ _) (s_aload_n hZ.1 dX13_choose_59 rfl ?_)
  refine zg13_146 dX13_choose_60 zw4266 ?_
  refine rx_by (e_ldI _ _) (s_iload_n hZ.1 dX13_choose_63 rfl ?_)
  refine rx_by (e_ald _ _) (s_iald (tt := 0) rfl dX13_choose_64 ?_)
  exact rx_by (e_lt1 _ _) (s_if_ge dX13_choose_65 (by decide) (s_none (pc := 73)) (kX13_choose_68 hZ j hj))
noncomputable def bX13_choose_49 (j : Nat → rx_K) : rx_K := q_ld q_isI 3 (o_const 40 (q_lt2 (bX13_choose_54 j) (bX13_choose_96 j)))
set_option maxRecDepth 20000 in
theorem kX13_choose_49 (hZ : zO b e D A X) (j : Nat → rx_K) (hj : ∀ k pc, [2, 49][k]? = some pc → rx_OK (zV b e D A X) mX13_choose 3 pc (j k)) : rx_OK (zV b e D A X) mX13_choose 3 49 (bX13_choose_49 j) := by
  unfold bX13_choose_49
  refine rx_by (e_ldI _ _) (s_iload_n hZ.1 dX13_choose_49 rfl ?_)
  refine s_iconst dX13_choose_50 (by decide +kernel) ?_
  exact rx_by (e_lt2 _ _) (s_icmp_ge dX13_choose_51 (by decide) (kX13_choose_96 hZ j hj) (kX13_choose_54 hZ j hj))
noncomputable def bX13_choose_47 (j : Nat → rx_K) : rx_K := o_const 0 (q_st q_isI 3 ((bX13_choose_49 j)))
set_option maxRecDepth 20000 in
theorem kX13_choose_47 (hZ : zO b e D A X) (j : Nat → rx_K) (hj : ∀ k pc, [2, 49][k]? = some pc → rx_OK (zV b e D A X) mX13_choose 3 pc (j k)) : rx_OK (zV b e D A X) mX13_choose 3 47 (bX13_choose_47 j) := by
  unfold bX13_choose_47
  refine s_iconst dX13_choose_47 (by decide +kernel) ?_
  refine rx_by (e_stI _ _) (s_istore_n hZ.1 dX13_choose_48 rfl (Nat.le_of_ble_eq_true rfl) ?_)
  exact (kX13_choose_49 hZ j hj)
noncomputable def bX13_choose_39 (j : Nat → rx_K) : rx_K := o_const 0 (q_st q_isI 1 (o_const 8 (q_st q_isI 2 (q_ld q_isI 2 (q_eq1 o_none (bX13_choose_47 j))))))
set_option maxRecDepth 20000 in
theorem kX13_choose_39 (hZ : zO b e D A X) (j : Nat → rx_K) (hj : ∀ k pc, [2, 49][k]? = some pc → rx_OK (zV b e D A X) mX13_choose 3 pc (j k)) : rx_OK (zV b e D A X) mX13_choose 3 39 (bX13_choose_39 j) := by
  unfold bX13_choose_39
  refine s_iconst dX13_choose_39 (by decide +kernel) ?_
  refine rx_by (e_stI _ _) (s_istore_n hZ.1 dX13_choose_40 rfl (Nat.le_of_ble_eq_true rfl) ?_)
  refine s_iconst dX13_choose_41 (by decide +kernel) ?_
  refine rx_by (e_stI _ _) (s_istore_n hZ.1 dX13_choose_42 rfl (Nat.le_of_ble_eq_true rfl) ?_)
  refine rx_by (e_ldI _ _) (s_iload_n hZ.1 dX13_choose_43 rfl ?_)
  exact rx_by (e_eq1 _ _) (s_if_eq dX13_choose_44 (by decide) (s_none (pc := 178)) (kX13_choose_47 hZ j hj))
noncomputable def bX13_choose_7 (j : Nat → rx_K) : rx_K := q_ld q_isR 0 (q_getf 13 147 (q_ld q_isI 1 (q_ld q_isR 0 (q_getf 13 90 (q_ld q_isI 1 (q_ald 0 (p_ast 0 (fun v => v) q_isI (q_ld q_isR 0 (q_getf 13 146 (q_ld q_isI 1 (q_ld q_isR 0 (q_getf 13 9 (q_ld q_isI 1 (q_ald 0 (o_const 8 (q_bi q_Fsub (p_ast 0 (fun v => v) q_isI (q_inc 1 8 ((j 0))))))))))))))))))))
set_option maxRecDepth 20000 in
theorem kX13_choose_7 (hZ : zO b e D A X) (j : Nat → rx_K) (hj : ∀ k pc, [2, 49][k]? = some pc → rx_OK (zV b e D A X) mX13_choose 3 pc (j k)) : rx_OK (zV b e D A X) mX13_choose 3 7 (bX13_choose_7 j) := by
  unfold bX13_choose_7
  refine rx_by (e_ldR _ _) (s_aload_n hZ.1 dX13_choose_7 rfl ?_)
  refine zg13_147 dX13_choose_8 zw4267 ?_
  refine rx_by (e_ldI _ _) (s_iload_n hZ.1 dX13_choose_11 rfl ?_)
  refine rx_by (e_ldR _ _) (s_aload_n hZ.1 dX13_choose_12 rfl ?_)
  refine zg13_90 dX13_choose_13 zw4211 ?_
  refine rx_by (e_ldI _ _) (s_iload_n hZ.1 dX13_choose_16 rfl ?_)
  refine rx_by (e_ald _ _) (s_iald (tt := 0) rfl dX13_choose_17 ?_)
  refine rx_by2 (l_astI _ _ _) (s_iast hZ.1 (tt := 0) rfl dX13_choose_18 ?_)
  refine rx_by (e_ldR _ _) (s_aload_n hZ.1 dX13_choose_19 rfl ?_)
  refine zg13_146 dX13_choose_20 zw4266 ?_
  refine rx_by (e_ldI _ _) (s_iload_n hZ.1 dX13_choose_23 rfl ?_)
  refine rx_by (e_ldR _ _) (s_aload_n hZ.1 dX13_choose_24 rfl ?_)
  refine zg13_9 dX13_choose_25 zw4130 ?_
  refine rx_by (e_ldI _ _) (s_iload_n hZ.1 dX13_choose_28 rfl ?_)
  refine rx_by (e_ald _ _) (s_iald (tt := 0) rfl dX13_choose_29 ?_)
  refine s_iconst dX13_choose_30 (by decide +kernel) ?_
  refine rx_by (e_sub _) (s_isub dX13_choose_31 ?_)
  refine rx_by2 (l_astI _ _ _) (s_iast hZ.1 (tt := 0) rfl dX13_choose_32 ?_)
  refine rx_by (e_inc (by decide +kernel) _) (s_iinc hZ.1 dX13_choose_33 (Nat.le_of_ble_eq_true rfl) ?_)
  exact s_goto dX13_choose_36 (by decide) (hj 0 2 rfl)
noncomputable def bX13_choose_2 (j : Nat → rx_K) : rx_K := q_ld q_isI 1 (o_const 40 (q_lt2 (bX13_choose_7 j) (bX13_choose_39 j)))
set_option maxRecDepth 20000 in
theorem kX13_choose_2 (hZ : zO b e D A X) (j : Nat → rx_K) (hj : ∀ k pc, [2, 49][k]? = some pc → rx_OK (zV b e D A X) mX13_choose 3 pc (j k)) : rx_OK (zV b e D A X) mX13_choose 3 2 (bX13_choose_2 j) := by
  unfold bX13_choose_2
  refine rx_by (e_ldI _ _) (s_iload_n hZ.1 dX13_choose_2 rfl ?_)
  refine s_iconst dX13_choose_3 (by decide +kernel) ?_
  exact rx_by (e_lt2 _ _) (s_icmp_ge dX13_choose_4 (by decide) (kX13_choose_39 hZ j hj) (kX13_choose_7 hZ j hj))
noncomputable def bX13_choose_0 (j : Nat → rx_K) : rx_K := o_const 0 (q_st q_isI 1 ((bX13_choose_2 j)))
set_option maxRecDepth 20000 in
theorem kX13_choose_0 (hZ : zO b e D A X) (j : Nat → rx_K) (hj : ∀ k pc, [2, 49][k]? = some pc → rx_OK (zV b e D A X) mX13_choose 3 pc (j k)) : rx_OK (zV b e D A X) mX13_choose 3 0 (bX13_choose_0 j) := by
  unfold bX13_choose_0
  refine s_iconst dX13_choose_0 (by decide +kernel) ?_
  refine rx_by (e_stI _ _) (s_istore_n hZ.1 dX13_choose_1 rfl (Nat.le_of_ble_eq_true rfl) ?_)
  exact (kX13_choose_2 hZ j hj)
noncomputable def hX13_choose (j : Nat → rx_K) : List rx_K := [bX13_choose_2 j, bX13_choose_49 j]
theorem lX13_choose (hZ : zO b e D A X) : ∀ n k pc, [2, 49][k]? = some pc → rx_OK (zV b e D A X) mX13_choose 3 pc (rx_J hX13_choose n k) := rx_loop fun j hj k pc h => by
  match k, h with
  | 0, h =>
    have e9 := Option.some.inj (show some 2 = some pc from h)
    subst e9
    exact kX13_choose_2 hZ j hj
  | 1, h =>
    have e9 := Option.some.inj (show some 49 = some pc from h)
    subst e9
    exact kX13_choose_49 hZ j hj
  | _ + 2, h => exact absurd h (by simp)
noncomputable def fX13_choose : List Nat → rx_H → Option (Nat × rx_H) := rx_ent 4 (bX13_choose_0 (rx_J hX13_choose 1000000))
theorem met_X13_choose (hZ : zO b e D A X) : rx_Met (zV b e D A X) 3 yX13_choose mX13_choose fX13_choose := rx_entry hZ.1 (kX13_choose_0 hZ _ (lX13_choose hZ 1000000)) (by decide +kernel) rfl (fun h => by cases h)
theorem zy_X13_choose : rx_Y (zV b e D A X) yX13_choose mX13_choose 0 := ⟨zw3793, zw431, by decide, by decide +kernel, by decide +kernel, by decide +kernel⟩
abbrev mX12_differ : rx_M := (RX12, cX12_differ, 6, (some .int), false)
noncomputable def bX12_differ_42 : rx_K := o_ret1 rx_isI
set_option maxRecDepth 20000 in
theorem kX12_differ_42 (hZ : zO b e D A X) : rx_OK (zV b e D A X) mX12_differ 2 42 bX12_differ_42 := by
  unfold bX12_differ_42
  exact s_iret hZ.1 rfl dX12_differ_42
noncomputable def bX12_differ_26 : rx_K := o_const 34359738360 (bX12_differ_42)
set_option maxRecDepth 20000 in
theorem kX12_differ_26 (hZ : zO b e D A X) : rx_OK (zV b e D A X) mX12_differ 2 26 bX12_differ_26 := by
  unfold bX12_differ_26
  refine s_iconst dX12_differ_26 (by decide +kernel) ?_
  exact s_goto dX12_differ_27 (by decide) (kX12_differ_42 hZ)
noncomputable def bX12_differ_0 : rx_K := q_ld q_isR 0 (q_ld q_isI 1 (q_ld q_isI 2 (o_callV 2 12 fX12_buildOf (q_st q_isR 4 (q_ld q_isR 0 (q_ld q_isI 1 (q_ld q_isI 3 (o_callV 2 12 fX12_buildOf (q_st q_isR 5 (q_ld q_isR 4 (o_nul bX12_differ_26 o_none)))))))))))
set_option maxRecDepth 20000 in
theorem kX12_differ_0 (hZ : zO b e D A X) : rx_OK (zV b e D A X) mX12_differ 2 0 bX12_differ_0 := by
  unfold bX12_differ_0
  refine rx_by (e_ldR _ _) (s_aload_n hZ.1 dX12_differ_0 rfl ?_)
  refine rx_by (e_ldI _ _) (s_iload_n hZ.1 dX12_differ_1 rfl ?_)
  refine rx_by (e_ldI _ _) (s_iload_n hZ.1 dX12_differ_2 rfl ?_)
  refine s_callV hZ.1 (met_X12_buildOf hZ) (by decide) zy_X12_buildOf zcl12 zw1559 zw1 (Or.inl zw1557) dX12_differ_3 ?_
  refine rx_by (e_stR _ _) (s_astore hZ.1 dX12_differ_6 (Nat.le_of_ble_eq_true rfl) ?_)
  refine rx_by (e_ldR _ _) (s_aload_n hZ.1 dX12_differ_8 rfl ?_)
  refine rx_by (e_ldI _ _) (s_iload_n hZ.1 dX12_differ_9 rfl ?_)
  refine rx_by (e_ldI _ _) (s_iload_n hZ.1 dX12_differ_10 rfl ?_)
  refine s_callV hZ.1 (met_X12_buildOf hZ) (by decide) zy_X12_buildOf zcl12 zw1559 zw1 (Or.inl zw1557) dX12_differ_11 ?_
  refine rx_by (e_stR _ _) (s_astore hZ.1 dX12_differ_14 (Nat.le_of_ble_eq_true rfl) ?_)
  refine rx_by (e_ldR _ _) (s_aload hZ.1 dX12_differ_16 ?_)
  exact s_ifnull dX12_differ_18 (by decide) (kX12_differ_26 hZ) (s_none (pc := 21))
noncomputable def fX12_differ : List Nat → rx_H → Option (Nat × rx_H) := rx_ent 6 bX12_differ_0
theorem met_X12_differ (hZ : zO b e D A X) : rx_Met (zV b e D A X) 2 yX12_differ mX12_differ fX12_differ := rx_entry hZ.1 (kX12_differ_0 hZ) (by decide +kernel) rfl (fun h => by cases h)
theorem zy_X12_differ : rx_Y (zV b e D A X) yX12_differ mX12_differ 3 := ⟨zw2597, zw413, by decide, by decide +kernel, by decide +kernel, by decide +kernel⟩
abbrev mX13_differ : rx_M := (RX13, cX13_differ, 6, (some .int), false)
noncomputable def bX13_differ_30 : rx_K := o_const 34359738360 (o_ret1 rx_isI)
set_option maxRecDepth 20000 in
theorem kX13_differ_30 (hZ : zO b e D A X) : rx_OK (zV b e D A X) mX13_differ 2 30 bX13_differ_30 := by
  unfold bX13_differ_30
  refine s_iconst dX13_differ_30 (by decide +kernel) ?_
  exact s_iret hZ.1 rfl dX13_differ_31
noncomputable def bX13_differ_0 : rx_K := q_ld q_isR 0 (q_ld q_isI 1 (q_ld q_isI 2 (o_callV 2 13 fX13_slotAt (q_st q_isI 4 (q_ld q_isR 0 (q_ld q_isI 1 (q_ld q_isI 3 (o_callV 2 13 fX13_slotAt (q_st q_isI 5 (q_ld q_isI 4 (o_const 34359738352 (q_eq2 bX13_differ_30 o_none))))))))))))
set_option maxRecDepth 20000 in
theorem kX13_differ_0 (hZ : zO b e D A X) : rx_OK (zV b e D A X) mX13_differ 2 0 bX13_differ_0 := by
  unfold bX13_differ_0
  refine rx_by (e_ldR _ _) (s_aload_n hZ.1 dX13_differ_0 rfl ?_)
  refine rx_by (e_ldI _ _) (s_iload_n hZ.1 dX13_differ_1 rfl ?_)
  refine rx_by (e_ldI _ _) (s_iload_n hZ.1 dX13_differ_2 rfl ?_)
  refine s_callV hZ.1 (met_X13_slotAt hZ) (by decide) zy_X13_slotAt zcl13 zw3585 zw317 (Or.inl zw3583) dX13_differ_3 ?_
  refine rx_by (e_stI _ _) (s_istore hZ.1 dX13_differ_6 (Nat.le_of_ble_eq_true rfl) ?_)
  refine rx_by (e_ldR _ _) (s_aload_n hZ.1 dX13_differ_8 rfl ?_)
  refine rx_by (e_ldI _ _) (s_iload_n hZ.1 dX13_differ_9 rfl ?_)
  refine rx_by (e_ldI _ _) (s_iload_n hZ.1 dX13_differ_10 rfl ?_)
  refine s_callV hZ.1 (met_X13_slotAt hZ) (by decide) zy_X13_slotAt zcl13 zw3585 zw317 (Or.inl zw3583) dX13_differ_11 ?_
  refine rx_by (e_stI _ _) (s_istore hZ.1 dX13_differ_14 (Nat.le_of_ble_eq_true rfl) ?_)
  refine rx_by (e_ldI _ _) (s_iload hZ.1 dX13_differ_16 ?_)
  refine s_bipush dX13_differ_18 (by decide +kernel) ?_
  exact rx_by (e_eq2 _ _) (s_icmp_eq dX13_differ_20 (by decide) (kX13_differ_30 hZ) (s_none (pc := 23)))
noncomputable def fX13_differ : List Nat → rx_H → Option (Nat × rx_H) := rx_ent 6 bX13_differ_0
theorem met_X13_differ (hZ : zO b e D A X) : rx_Met (zV b e D A X) 2 yX13_differ mX13_differ fX13_differ := rx_entry hZ.1 (kX13_differ_0 hZ) (by decide +kernel) rfl (fun h => by cases h)
theorem zy_X13_differ : rx_Y (zV b e D A X) yX13_differ mX13_differ 3 := ⟨zw3989, zw431, by decide, by decide +kernel, by decide +kernel, by decide +kernel⟩
abbrev mX12_change : rx_M := (RX12, cX12_change, 3, (some .int), false)
noncomputable def bX12_change_41 : rx_K := o_ret1 rx_isI
set_option maxRecDepth 20000 in
theorem kX12_change_41 (hZ : zO b e D A X) : rx_OK (zV b e D A X) mX12_change 0 41 bX12_change_41 := by
  unfold bX12_change_41
  exact s_iret hZ.1 rfl dX12_change_41
noncomputable def bX12_change_24 : rx_K := o_const 34359738360 (bX12_change_41)
set_option maxRecDepth 20000 in
theorem kX12_change_24 (hZ : zO b e D A X) : rx_OK (zV b e D A X) mX12_change 0 24 bX12_change_24 := by
  unfold bX12_change_24
  refine s_iconst dX12_change_24 (by decide +kernel) ?_
  exact s_goto dX12_change_25 (by decide) (kX12_change_41 hZ)
noncomputable def bX12_change_4 : rx_K := q_ld q_isI 1 (q_ld q_isR 0 (q_getf 12 19 (q_getf 2 4 (q_lt2 o_none bX12_change_24))))
set_option maxRecDepth 20000 in
theorem kX12_change_4 (hZ : zO b e D A X) : rx_OK (zV b e D A X) mX12_change 0 4 bX12_change_4 := by
  unfold bX12_change_4
  refine rx_by (e_ldI _ _) (s_iload_n hZ.1 dX12_change_4 rfl ?_)
  refine rx_by (e_ldR _ _) (s_aload_n hZ.1 dX12_change_5 rfl ?_)
  refine zg12_19 dX12_change_6 zw1622 ?_
  refine zg2_4 dX12_change_9 zw1435 ?_
  exact rx_by (e_lt2 _ _) (s_icmp_ge dX12_change_12 (by decide) (kX12_change_24 hZ) (s_none (pc := 15)))
noncomputable def bX12_change_0 : rx_K := q_ld q_isI 1 (q_lt1 bX12_change_24 bX12_change_4)
set_option maxRecDepth 20000 in
theorem kX12_change_0 (hZ : zO b e D A X) : rx_OK (zV b e D A X) mX12_change 0 0 bX12_change_0 := by
  unfold bX12_change_0
  refine rx_by (e_ldI _ _) (s_iload_n hZ.1 dX12_change_0 rfl ?_)
  exact rx_by (e_lt1 _ _) (s_if_lt dX12_change_1 (by decide) (kX12_change_24 hZ) (kX12_change_4 hZ))
noncomputable def fX12_change : List Nat → rx_H → Option (Nat × rx_H) := rx_ent 3 bX12_change_0
theorem met_X12_change (hZ : zO b e D A X) : rx_Met (zV b e D A X) 0 yX12_change mX12_change fX12_change := rx_entry hZ.1 (kX12_change_0 hZ) (by decide +kernel) rfl (fun h => by cases h)
theorem zy_X12_change : rx_Y (zV b e D A X) yX12_change mX12_change 2 := ⟨zw2685, zw413, by decide, by decide +kernel, by decide +kernel, by decide +kernel⟩
abbrev mX13_change : rx_M := (RX13, cX13_change, 3, (some .int), false)
noncomputable def bX13_change_35 : rx_K := o_ret1 rx_isI
set_option maxRecDepth 20000 in
theorem kX13_change_35 (hZ : zO b e D A X) : rx_OK (zV b e D A X) mX13_change 0 35 bX13_change_35 := by
  unfold bX13_change_35
  exact s_iret hZ.1 rfl dX13_change_35
noncomputable def bX13_change_21 : rx_K := o_const 34359738360 (bX13_change_35)
set_option maxRecDepth 20000 in
theorem kX13_change_21 (hZ : zO b e D A X) : rx_OK (zV b e D A X) mX13_change 0 21 bX13_change_21 := by
  unfold bX13_change_21
  refine s_iconst dX13_change_21 (by decide +kernel) ?_
  exact s_goto dX13_change_22 (by decide) (kX13_change_35 hZ)
noncomputable def bX13_change_4 : rx_K := q_ld q_isI 1 (q_ld q_isR 0 (q_getf 13 175 (q_lt2 o_none bX13_change_21)))
set_option maxRecDepth 20000 in
theorem kX13_change_4 (hZ : zO b e D A X) : rx_OK (zV b e D A X) mX13_change 0 4 bX13_change_4 := by
  unfold bX13_change_4
  refine rx_by (e_ldI _ _) (s_iload_n hZ.1 dX13_change_4 rfl ?_)
  refine rx_by (e_ldR _ _) (s_aload_n hZ.1 dX13_change_5 rfl ?_)
  refine zg13_175 dX13_change_6 zw4295 ?_
  exact rx_by (e_lt2 _ _) (s_icmp_ge dX13_change_9 (by decide) (kX13_change_21 hZ) (s_none (pc := 12)))
noncomputable def bX13_change_0 : rx_K := q_ld q_isI 1 (q_lt1 bX13_change_21 bX13_change_4)
set_option maxRecDepth 20000 in
theorem kX13_change_0 (hZ : zO b e D A X) : rx_OK (zV b e D A X) mX13_change 0 0 bX13_change_0 := by
  unfold bX13_change_0
  refine rx_by (e_ldI _ _) (s_iload_n hZ.1 dX13_change_0 rfl ?_)
  exact rx_by (e_lt1 _ _) (s_if_lt dX13_change_1 (by decide) (kX13_change_21 hZ) (kX13_change_4 hZ))
noncomputable def fX13_change : List Nat → rx_H → Option (Nat × rx_H) := rx_ent 3 bX13_change_0
theorem met_X13_change (hZ : zO b e D A X) : rx_Met (zV b e D A X) 0 yX13_change mX13_change fX13_change := rx_entry hZ.1 (kX13_change_0 hZ) (by decide +kernel) rfl (fun h => by cases h)
theorem zy_X13_change : rx_Y (zV b e D A X) yX13_change mX13_change 2 := ⟨zw4057, zw431, by decide, by decide +kernel, by decide +kernel, by decide +kernel⟩
abbrev mX12_word : rx_M := (RX12, cX12_word, 6, (some .int), false)
noncomputable def bX12_word_26 : rx_K := o_const 34359738360 (o_ret1 rx_isI)
set_option maxRecDepth 20000 in
theorem kX12_word_26 (hZ : zO b e D A X) : rx_OK (zV b e D A X) mX12_word 2 26 bX12_word_26 := by
  unfold bX12_word_26
  refine s_iconst dX12_word_26 (by decide +kernel) ?_
  exact s_iret hZ.1 rfl dX12_word_27
noncomputable def bX12_word_0 : rx_K := q_ld q_isR 0 (q_ld q_isI 1 (q_ld q_isI 2 (o_callV 2 12 fX12_buildOf (q_st q_isR 4 (q_ld q_isR 0 (q_ld q_isI 1 (q_ld q_isI 3 (o_callV 2 12 fX12_buildOf (q_st q_isR 5 (q_ld q_isR 4 (o_nul bX12_word_26 o_none)))))))))))
set_option maxRecDepth 20000 in
theorem kX12_word_0 (hZ : zO b e D A X) : rx_OK (zV b e D A X) mX12_word 2 0 bX12_word_0 := by
  unfold bX12_word_0
  refine rx_by (e_ldR _ _) (s_aload_n hZ.1 dX12_word_0 rfl ?_)
  refine rx_by (e_ldI _ _) (s_iload_n hZ.1 dX12_word_1 rfl ?_)
  refine rx_by (e_ldI _ _) (s_iload_n hZ.1 dX12_word_2 rfl ?_)
  refine s_callV hZ.1 (met_X12_buildOf hZ) (by decide) zy_X12_buildOf zcl12 zw1559 zw1 (Or.inl zw1557) dX12_word_3 ?_
  refine rx_by (e_stR _ _) (s_astore hZ.1 dX12_word_6 (Nat.le_of_ble_eq_true rfl) ?_)
  refine rx_by (e_ldR _ _) (s_aload_n hZ.1 dX12_word_8 rfl ?_)
  refine rx_by (e_ldI _ _) (s_iload_n hZ.1 dX12_word_9 rfl ?_)
  refine rx_by (e_ldI _ _) (s_iload_n hZ.1 dX12_word_10 rfl ?_)
  refine s_callV hZ.1 (met_X12_buildOf hZ) (by decide) zy_X12_buildOf zcl12 zw1559 zw1 (Or.inl zw1557) dX12_word_11 ?_
  refine rx_by (e_stR _ _) (s_astore hZ.1 dX12_word_14 (Nat.le_of_ble_eq_true rfl) ?_)
  refine rx_by (e_ldR _ _) (s_aload hZ.1 dX12_word_16 ?_)
  exact s_ifnull dX12_word_18 (by decide) (kX12_word_26 hZ) (s_none (pc := 21))
noncomputable def fX12_word : List Nat → rx_H → Option (Nat × rx_H) := rx_ent 6 bX12_word_0
theorem met_X12_word (hZ : zO b e D A X) : rx_Met (zV b e D A X) 2 yX12_word mX12_word fX12_word := rx_entry hZ.1 (kX12_word_0 hZ) (by decide +kernel) rfl (fun h => by cases h)
theorem zy_X12_word : rx_Y (zV b e D A X) yX12_word mX12_word 3 := ⟨zw2689, zw413, by decide, by decide +kernel, by decide +kernel, by decide +kernel⟩
abbrev mX13_word : rx_M := (RX13, cX13_word, 10, (some .int), false)
noncomputable def bX13_word_30 : rx_K := o_const 34359738360 (o_ret1 rx_isI)
set_option maxRecDepth 20000 in
theorem kX13_word_30 (hZ : zO b e D A X) : rx_OK (zV b e D A X) mX13_word 2 30 bX13_word_30 := by
  unfold bX13_word_30
  refine s_iconst dX13_word_30 (by decide +kernel) ?_
  exact s_iret hZ.1 rfl dX13_word_31
noncomputable def bX13_word_0 : rx_K := q_ld q_isR 0 (q_ld q_isI 1 (q_ld q_isI 2 (o_callV 2 13 fX13_slotAt (q_st q_isI 4 (q_ld q_isR 0 (q_ld q_isI 1 (q_ld q_isI 3 (o_callV 2 13 fX13_slotAt (q_st q_isI 5 (q_ld q_isI 4 (o_const 34359738352 (q_eq2 bX13_word_30 o_none))))))))))))
set_option maxRecDepth 20000 in
theorem kX13_word_0 (hZ : zO b e D A X) : rx_OK (zV b e D A X) mX13_word 2 0 bX13_word_0 := by
  unfold bX13_word_0
  refine rx_by (e_ldR _ _) (s_aload_n hZ.1 dX13_word_0 rfl ?_)
  refine rx_by (e_ldI _ _) (s_iload_n hZ.1 dX13_word_1 rfl ?_)
  refine rx_by (e_ldI _ _) (s_iload_n hZ.1 dX13_word_2 rfl ?_)
  refine s_callV hZ.1 (met_X13_slotAt hZ) (by decide) zy_X13_slotAt zcl13 zw3585 zw317 (Or.inl zw3583) dX13_word_3 ?_
  refine rx_by (e_stI _ _) (s_istore hZ.1 dX13_word_6 (Nat.le_of_ble_eq_true rfl) ?_)
  refine rx_by (e_ldR _ _) (s_aload_n hZ.1 dX13_word_8 rfl ?_)
  refine rx_by (e_ldI _ _) (s_iload_n hZ.1 dX13_word_9 rfl ?_)
  refine rx_by (e_ldI _ _) (s_iload_n hZ.1 dX13_word_10 rfl ?_)
  refine s_callV hZ.1 (met_X13_slotAt hZ) (by decide) zy_X13_slotAt zcl13 zw3585 zw317 (Or.inl zw3583) dX13_word_11 ?_
  refine rx_by (e_stI _ _) (s_istore hZ.1 dX13_word_14 (Nat.le_of_ble_eq_true rfl) ?_)
  refine rx_by (e_ldI _ _) (s_iload hZ.1 dX13_word_16 ?_)
  refine s_bipush dX13_word_18 (by decide +kernel) ?_
  exact rx_by (e_eq2 _ _) (s_icmp_eq dX13_word_20 (by decide) (kX13_word_30 hZ) (s_none (pc := 23)))
noncomputable def fX13_word : List Nat → rx_H → Option (Nat × rx_H) := rx_ent 10 bX13_word_0
theorem met_X13_word (hZ : zO b e D A X) : rx_Met (zV b e D A X) 2 yX13_word mX13_word fX13_word := rx_entry hZ.1 (kX13_word_0 hZ) (by decide +kernel) rfl (fun h => by cases h)
theorem zy_X13_word : rx_Y (zV b e D A X) yX13_word mX13_word 3 := ⟨zw4061, zw431, by decide, by decide +kernel, by decide +kernel, by decide +kernel⟩
abbrev mX12_weave : rx_M := (RX12, cX12_weave, 15, (some .int), false)
noncomputable def bX12_weave_26 : rx_K := o_const 34359738360 (o_ret1 rx_isI)
set_option maxRecDepth 20000 in
theorem kX12_weave_26 (hZ : zO b e D A X) : rx_OK (zV b e D A X) mX12_weave 2 26 bX12_weave_26 := by
  unfold bX12_weave_26
  refine s_iconst dX12_weave_26 (by decide +kernel) ?_
  exact s_iret hZ.1 rfl dX12_weave_27
noncomputable def bX12_weave_0 : rx_K := q_ld q_isR 0 (q_ld q_isI 1 (q_ld q_isI 2 (o_callV 2 12 fX12_buildOf (q_st q_isR 4 (q_ld q_isR 0 (q_ld q_isI 1 (q_ld q_isI 3 (o_callV 2 12 fX12_buildOf (q_st q_isR 5 (q_ld q_isR 4 (o_nul bX12_weave_26 o_none)))))))))))
set_option maxRecDepth 20000 in
theorem kX12_weave_0 (hZ : zO b e D A X) : rx_OK (zV b e D A X) mX12_weave 2 0 bX12_weave_0 := by
  unfold bX12_weave_0
  refine rx_by (e_ldR _ _) (s_aload_n hZ.1 dX12_weave_0 rfl ?_)
  refine rx_by (e_ldI _ _) (s_iload_n hZ.1 dX12_weave_1 rfl ?_)
  refine rx_by (e_ldI _ _) (s_iload_n hZ.1 dX12_weave_2 rfl ?_)
  refine s_callV hZ.1 (met_X12_buildOf hZ) (by decide) zy_X12_buildOf zcl12 zw1559 zw1 (Or.inl zw1557) dX12_weave_3 ?_
  refine rx_by (e_stR _ _) (s_astore hZ.1 dX12_weave_6 (Nat.le_of_ble_eq_true rfl) ?_)
  refine rx_by (e_ldR _ _) (s_aload_n hZ.1 dX12_weave_8 rfl ?_)
  refine rx_by (e_ldI _ _) (s_iload_n hZ.1 dX12_weave_9 rfl ?_)
  refine rx_by (e_ldI _ _) (s_iload_n hZ.1 dX12_weave_10 rfl ?_)
  refine s_callV hZ.1 (met_X12_buildOf hZ) (by decide) zy_X12_buildOf zcl12 zw1559 zw1 (Or.inl zw1557) dX12_weave_11 ?_
  refine rx_by (e_stR _ _) (s_astore hZ.1 dX12_weave_14 (Nat.le_of_ble_eq_true rfl) ?_)
  refine rx_by (e_ldR _ _) (s_aload hZ.1 dX12_weave_16 ?_)
  exact s_ifnull dX12_weave_18 (by decide) (kX12_weave_26 hZ) (s_none (pc := 21))
noncomputable def fX12_weave : List Nat → rx_H → Option (Nat × rx_H) := rx_ent 15 bX12_weave_0
theorem met_X12_weave (hZ : zO b e D A X) : rx_Met (zV b e D A X) 2 yX12_weave mX12_weave fX12_weave := rx_entry hZ.1 (kX12_weave_0 hZ) (by decide +kernel) rfl (fun h => by cases h)
theorem zy_X12_weave : rx_Y (zV b e D A X) yX12_weave mX12_weave 3 := ⟨zw2693, zw413, by decide, by decide +kernel, by decide +kernel, by decide +kernel⟩
abbrev mX13_weave : rx_M := (RX13, cX13_weave, 11, (some .int), false)
noncomputable def bX13_weave_30 : rx_K := o_const 34359738360 (o_ret1 rx_isI)
set_option maxRecDepth 20000 in
theorem kX13_weave_30 (hZ : zO b e D A X) : rx_OK (zV b e D A X) mX13_weave 2 30 bX13_weave_30 := by
  unfold bX13_weave_30
  refine s_iconst dX13_weave_30 (by decide +kernel) ?_
  exact s_iret hZ.1 rfl dX13_weave_31
noncomputable def bX13_weave_0 : rx_K := q_ld q_isR 0 (q_ld q_isI 1 (q_ld q_isI 2 (o_callV 2 13 fX13_slotAt (q_st q_isI 4 (q_ld q_isR 0 (q_ld q_isI 1 (q_ld q_isI 3 (o_callV 2 13 fX13_slotAt (q_st q_isI 5 (q_ld q_isI 4 (o_const 34359738352 (q_eq2 bX13_weave_30 o_none))))))))))))
set_option maxRecDepth 20000 in
theorem kX13_weave_0 (hZ : zO b e D A X) : rx_OK (zV b e D A X) mX13_weave 2 0 bX13_weave_0 := by
  unfold bX13_weave_0
  refine rx_by (e_ldR _ _) (s_aload_n hZ.1 dX13_weave_0 rfl ?_)
  refine rx_by (e_ldI _ _) (s_iload_n hZ.1 dX13_weave_1 rfl ?_)
  refine rx_by (e_ldI _ _) (s_iload_n hZ.1 dX13_weave_2 rfl ?_)
  refine s_callV hZ.1 (met_X13_slotAt hZ) (by decide) zy_X13_slotAt zcl13 zw3585 zw317 (Or.inl zw3583) dX13_weave_3 ?_
  refine rx_by (e_stI _ _) (s_istore hZ.1 dX13_weave_6 (Nat.le_of_ble_eq_true rfl) ?_)
  refine rx_by (e_ldR _ _) (s_aload_n hZ.1 dX13_weave_8 rfl ?_)
  refine rx_by (e_ldI _ _) (s_iload_n hZ.1 dX13_weave_9 rfl ?_)
  refine rx_by (e_ldI _ _) (s_iload_n hZ.1 dX13_weave_10 rfl ?_)
  refine s_callV hZ.1 (met_X13_slotAt hZ) (by decide) zy_X13_slotAt zcl13 zw3585 zw317 (Or.inl zw3583) dX13_weave_11 ?_
  refine rx_by (e_stI _ _) (s_istore hZ.1 dX13_weave_14 (Nat.le_of_ble_eq_true rfl) ?_)
  refine rx_by (e_ldI _ _) (s_iload hZ.1 dX13_weave_16 ?_)
  refine s_bipush dX13_weave_18 (by decide +kernel) ?_
  exact rx_by (e_eq2 _ _) (s_icmp_eq dX13_weave_20 (by decide) (kX13_weave_30 hZ) (s_none (pc := 23)))
noncomputable def fX13_weave : List Nat → rx_H → Option (Nat × rx_H) := rx_ent 11 bX13_weave_0
theorem met_X13_weave (hZ : zO b e D A X) : rx_Met (zV b e D A X) 2 yX13_weave mX13_weave fX13_weave := rx_entry hZ.1 (kX13_weave_0 hZ) (by decide +kernel) rfl (fun h => by cases h)
theorem zy_X13_weave : rx_Y (zV b e D A X) yX13_weave mX13_weave 3 := ⟨zw4071, zw431, by decide, by decide +kernel, by decide +kernel, by decide +kernel⟩
abbrev mX12_fresh : rx_M := (RX12, cX12_fresh, 3, (some .int), false)
noncomputable def bX12_fresh_43 : rx_K := q_ld q_isR 0 (q_getf 12 20 (q_ld q_isR 0 (q_getf 12 13 (o_callV 1 6 fX6_clear (q_ld q_isI 1 (o_ret1 rx_isI))))))
set_option maxRecDepth 20000 in
theorem kX12_fresh_43 (hZ : zO b e D A X) : rx_OK (zV b e D A X) mX12_fresh 3 43 bX12_fresh_43 := by
  unfold bX12_fresh_43
  refine rx_by (e_ldR _ _) (s_aload_n hZ.1 dX12_fresh_43 rfl ?_)
  refine zg12_20 dX12_fresh_44 zw1623 ?_
  refine rx_by (e_ldR _ _) (s_aload_n hZ.1 dX12_fresh_47 rfl ?_)
  refine zg12_13 dX12_fresh_48 zw1616 ?_
  refine s_callV hZ.1 (met_X6_clear hZ) (by decide) zy_X6_clear zcl6 zw1594 zw1595 (Or.inl zw1593) dX12_fresh_51 ?_
  refine rx_by (e_ldI _ _) (s_iload_n hZ.1 dX12_fresh_54 rfl ?_)
  exact s_iret hZ.1 rfl dX12_fresh_55
noncomputable def bX12_fresh_0 : rx_K := o_const 0 (q_st q_isI 1 (o_const 16 (q_st q_isI 2 (q_ld q_isI 2 (q_ld q_isR 0 (q_getf 12 13 (q_getf 11 2 (q_lt2 o_none bX12_fresh_43))))))))
set_option maxRecDepth 20000 in
theorem kX12_fresh_0 (hZ : zO b e D A X) : rx_OK (zV b e D A X) mX12_fresh 3 0 bX12_fresh_0 := by
  unfold bX12_fresh_0
  refine s_iconst dX12_fresh_0 (by decide +kernel) ?_
  refine rx_by (e_stI _ _) (s_istore_n hZ.1 dX12_fresh_1 rfl (Nat.le_of_ble_eq_true rfl) ?_)
  refine s_iconst dX12_fresh_2 (by decide +kernel) ?_
  refine rx_by (e_stI _ _) (s_istore_n hZ.1 dX12_fresh_3 rfl (Nat.le_of_ble_eq_true rfl) ?_)
  refine rx_by (e_ldI _ _) (s_iload_n hZ.1 dX12_fresh_4 rfl ?_)
  refine rx_by (e_ldR _ _) (s_aload_n hZ.1 dX12_fresh_5 rfl ?_)
  refine zg12_13 dX12_fresh_6 zw1616 ?_
  refine zg11_2 dX12_fresh_9 zw1261 ?_
  exact rx_by (e_lt2 _ _) (s_icmp_ge dX12_fresh_12 (by decide) (kX12_fresh_43 hZ) (s_none (pc := 15)))
noncomputable def fX12_fresh : List Nat → rx_H → Option (Nat × rx_H) := rx_ent 3 bX12_fresh_0
theorem met_X12_fresh (hZ : zO b e D A X) : rx_Met (zV b e D A X) 3 yX12_fresh mX12_fresh fX12_fresh := rx_entry hZ.1 (kX12_fresh_0 hZ) (by decide +kernel) rfl (fun h => by cases h)
theorem zy_X12_fresh : rx_Y (zV b e D A X) yX12_fresh mX12_fresh 0 := ⟨zw2720, zw413, by decide, by decide +kernel, by decide +kernel, by decide +kernel⟩
abbrev mX13_fresh : rx_M := (RX13, cX13_fresh, 4, (some .int), false)
noncomputable def bX13_fresh_42 : rx_K := q_ld q_isR 0 (q_getf 13 145 (q_st q_isI 2 (q_ld q_isR 0 (o_callV 0 13 fX13_settle (q_ld q_isR 0 (q_ld q_isI 2 (p_putf q_isI 13 145 (q_ld q_isI 1 (o_ret1 rx_isI)))))))))
set_option maxRecDepth 20000 in
theorem kX13_fresh_42 (hZ : zO b e D A X) : rx_OK (zV b e D A X) mX13_fresh 3 42 bX13_fresh_42 := by
  unfold bX13_fresh_42
  refine rx_by (e_ldR _ _) (s_aload_n hZ.1 dX13_fresh_42 rfl ?_)
  refine zg13_145 dX13_fresh_43 zw4265 ?_
  refine rx_by (e_stI _ _) (s_istore_n hZ.1 dX13_fresh_46 rfl (Nat.le_of_ble_eq_true rfl) ?_)
  refine rx_by (e_ldR _ _) (s_aload_n hZ.1 dX13_fresh_47 rfl ?_)
  refine s_callV hZ.1 (met_X13_settle hZ) (by decide) zy_X13_settle zcl13 zw3601 zw319 (Or.inl zw3599) dX13_fresh_48 ?_
  refine rx_by (e_ldR _ _) (s_aload_n hZ.1 dX13_fresh_51 rfl ?_)
  refine rx_by (e_ldI _ _) (s_iload_n hZ.1 dX13_fresh_52 rfl ?_)
  refine zp13_145 hZ.1 dX13_fresh_53 zw4265 ?_
  refine rx_by (e_ldI _ _) (s_iload_n hZ.1 dX13_fresh_56 rfl ?_)
  exact s_iret hZ.1 rfl dX13_fresh_57
noncomputable def bX13_fresh_0 : rx_K := o_const 0 (q_st q_isI 1 (o_const 16 (q_st q_isI 2 (q_ld q_isI 2 (q_ld q_isR 0 (q_getf 13 129 (q_lt2 o_none bX13_fresh_42)))))))
set_option maxRecDepth 20000 in
theorem kX13_fresh_0 (hZ : zO b e D A X) : rx_OK (zV b e D A X) mX13_fresh 3 0 bX13_fresh_0 := by
  unfold bX13_fresh_0
  refine s_iconst dX13_fresh_0 (by decide +kernel) ?_
  refine rx_by (e_stI _ _) (s_istore_n hZ.1 dX13_fresh_1 rfl (Nat.le_of_ble_eq_true rfl) ?_)
  refine s_iconst dX13_fresh_2 (by decide +kernel) ?_
  refine rx_by (e_stI _ _) (s_istore_n hZ.1 dX13_fresh_3 rfl (Nat.le_of_ble_eq_true rfl) ?_)
  refine rx_by (e_ldI _ _) (s_iload_n hZ.1 dX13_fresh_4 rfl ?_)
  refine rx_by (e_ldR _ _) (s_aload_n hZ.1 dX13_fresh_5 rfl ?_)
  refine zg13_129 dX13_fresh_6 zw4249 ?_
  exact rx_by (e_lt2 _ _) (s_icmp_ge dX13_fresh_9 (by decide) (kX13_fresh_42 hZ) (s_none (pc := 12)))
noncomputable def fX13_fresh : List Nat → rx_H → Option (Nat × rx_H) := rx_ent 4 bX13_fresh_0
theorem met_X13_fresh (hZ : zO b e D A X) : rx_Met (zV b e D A X) 3 yX13_fresh mX13_fresh fX13_fresh := rx_entry hZ.1 (kX13_fresh_0 hZ) (by decide +kernel) rfl (fun h => by cases h)
theorem zy_X13_fresh : rx_Y (zV b e D A X) yX13_fresh mX13_fresh 0 := ⟨zw3801, zw431, by decide, by decide +kernel, by decide +kernel, by decide +kernel⟩
end ZM10

section ZM4
variable {b : Nat} {e : Nat → Value} {D : va_G} {A : Nat → ClassId} {X : State → Prop}
abbrev mX13_numberWorld : rx_M := (RX13, cX13_numberWorld, 4, none, false)
noncomputable def bX13_numberWorld_120 (j : Nat → rx_K) : rx_K := o_ret0
set_option maxRecDepth 20000 in
theorem kX13_numberWorld_120 (hZ : zO b e D A X) (j : Nat → rx_K) (hj : ∀ k pc, [2, 44][k]? = some pc → rx_OK (zV b e D A X) mX13_numberWorld 1 pc (j k)) : rx_OK (zV b e D A X) mX13_numberWorld 1 120 (bX13_numberWorld_120 j) := by
  unfold bX13_numberWorld_120
  exact s_vret rfl dX13_numberWorld_120
noncomputable def bX13_numberWorld_114 (j : Nat → rx_K) : rx_K := q_inc 1 8 ((j 1))
set_option maxRecDepth 20000 in
theorem kX13_numberWorld_114 (hZ : zO b e D A X) (j : Nat → rx_K) (hj : ∀ k pc, [2, 44][k]? = some pc → rx_OK (zV b e D A X) mX13_numberWorld 1 pc (j k)) : rx_OK (zV b e D A X) mX13_numberWorld 1 114 (bX13_numberWorld_114 j) := by
  unfold bX13_numberWorld_114
  refine rx_by (e_inc (by decide +kernel) _) (s_iinc hZ.1 dX13_numberWorld_114 (Nat.le_of_ble_eq_true rfl) ?_)
  exact s_goto dX13_numberWorld_117 (by decide) (hj 1 44 rfl)
noncomputable def bX13_numberWorld_49 (j : Nat → rx_K) : rx_K := o_const 0 (q_st q_isI 2 (q_ld q_isR 0 (q_getf 13 90 (q_ld q_isI 1 (q_ald 0 (o_const 34359738352 (q_eq2 (bX13_numberWorld_114 j) o_none)))))))
set_option maxRecDepth 20000 in
theorem kX13_numberWorld_49 (hZ : zO b e D A X) (j : Nat → rx_K) (hj : ∀ k pc, [2, 44][k]? = some pc → rx_OK (zV b e D A X) mX13_numberWorld 1 pc (j k)) : rx_OK (zV b e D A X) mX13_numberWorld 1 49 (bX13_numberWorld_49 j) := by
  unfold bX13_numberWorld_49
  refine s_iconst dX13_numberWorld_49 (by decide +kernel) ?_
  refine rx_by (e_stI _ _) (s_istore_n hZ.1 dX13_numberWorld_50 rfl (Nat.le_of_ble_eq_true rfl) ?_)
  refine rx_by (e_ldR _ _) (s_aload_n hZ.1 dX13_numberWorld_51 rfl ?_)
  refine zg13_90 dX13_numberWorld_52 zw4211 ?_
  refine rx_by (e_ldI _ _) (s_iload_n hZ.1 dX13_numberWorld_55 rfl ?_)
  refine rx_by (e_ald _ _) (s_iald (tt := 0) rfl dX13_numberWorld_56 ?_)
  refine s_bipush dX13_numberWorld_57 (by decide +kernel) ?_
  exact rx_by (e_eq2 _ _) (s_icmp_eq dX13_numberWorld_59 (by decide) (kX13_numberWorld_114 hZ j hj) (s_none (pc := 62)))
noncomputable def bX13_numberWorld_44 (j : Nat → rx_K) : rx_K := q_ld q_isI 1 (o_const 40 (q_lt2 (bX13_numberWorld_49 j) (bX13_numberWorld_120 j)))
set_option maxRecDepth 20000 in
theorem kX13_numberWorld_44 (hZ : zO b e D A X) (j : Nat → rx_K) (hj : ∀ k pc, [2, 44][k]? = some pc → rx_OK (zV b e D A X) mX13_numberWorld 1 pc (j k)) : rx_OK (zV b e D A X) mX13_numberWorld 1 44 (bX13_numberWorld_44 j) := by
  unfold bX13_numberWorld_44
  refine rx_by (e_ldI _ _) (s_iload_n hZ.1 dX13_numberWorld_44 rfl ?_)
  refine s_iconst dX13_numberWorld_45 (by decide +kernel) ?_
  exact rx_by (e_lt2 _ _) (s_icmp_ge dX13_numberWorld_46 (by decide) (kX13_numberWorld_120 hZ j hj) (kX13_numberWorld_49 hZ j hj))
noncomputable def bX13_numberWorld_23 (j : Nat → rx_K) : rx_K := q_ld q_isR 0 (o_const 0 (p_putf q_isI 13 129 (q_ld q_isR 0 (o_const 1632 (o_callV 1 13 fX13_intoWorld (q_ld q_isR 0 (o_const 1640 (o_callV 1 13 fX13_intoWorld (o_const 0 (q_st q_isI 1 ((bX13_numberWorld_44 j))))))))))))
set_option maxRecDepth 20000 in
theorem kX13_numberWorld_23 (hZ : zO b e D A X) (j : Nat → rx_K) (hj : ∀ k pc, [2, 44][k]? = some pc → rx_OK (zV b e D A X) mX13_numberWorld 1 pc (j k)) : rx_OK (zV b e D A X) mX13_numberWorld 1 23 (bX13_numberWorld_23 j) := by
  unfold bX13_numberWorld_23
  refine rx_by (e_ldR _ _) (s_aload_n hZ.1 dX13_numberWorld_23 rfl ?_)
  refine s_iconst dX13_numberWorld_24 (by decide +kernel) ?_
  refine zp13_129 hZ.1 dX13_numberWorld_25 zw4249 ?_
  refine rx_by (e_ldR _ _) (s_aload_n hZ.1 dX13_numberWorld_28 rfl ?_)
  refine s_sipush dX13_numberWorld_29 (by decide +kernel) ?_
  refine s_callV hZ.1 (met_X13_intoWorld hZ) (by decide) zy_X13_intoWorld zcl13 zw3609 zw321 (Or.inl zw3607) dX13_numberWorld_32 ?_
  refine rx_by (e_ldR _ _) (s_aload_n hZ.1 dX13_numberWorld_35 rfl ?_)
  refine s_sipush dX13_numberWorld_36 (by decide +kernel) ?_
  refine s_callV hZ.1 (met_X13_intoWorld hZ) (by decide) zy_X13_intoWorld zcl13 zw3609 zw321 (Or.inl zw3607) dX13_numberWorld_39 ?_
  refine s_iconst dX13_numberWorld_42 (by decide +kernel) ?_
  refine rx_by (e_stI _ _) (s_istore_n hZ.1 dX13_numberWorld_43 rfl (Nat.le_of_ble_eq_true rfl) ?_)
  exact (kX13_numberWorld_44 hZ j hj)
noncomputable def bX13_numberWorld_9 (j : Nat → rx_K) : rx_K := q_ld q_isR 0 (q_getf 13 131 (q_ld q_isI 1 (o_const 34359738352 (p_ast 0 (fun v => v) q_isI (q_inc 1 8 ((j 0)))))))
set_option maxRecDepth 20000 in
theorem kX13_numberWorld_9 (hZ : zO b e D A X) (j : Nat → rx_K) (hj : ∀ k pc, [2, 44][k]? = some pc → rx_OK (zV b e D A X) mX13_numberWorld 1 pc (j k)) : rx_OK (zV b e D A X) mX13_numberWorld 1 9 (bX13_numberWorld_9 j) := by
  unfold bX13_numberWorld_9
  refine rx_by (e_ldR _ _) (s_aload_n hZ.1 dX13_numberWorld_9 rfl ?_)
  refine zg13_131 dX13_numberWorld_10 zw4251 ?_
  refine rx_by (e_ldI _ _) (s_iload_n hZ.1 dX13_numberWorld_13 rfl ?_)
  refine s_bipush dX13_numberWorld_14 (by decide +kernel) ?_
  refine rx_by2 (l_astI _ _ _) (s_iast hZ.1 (tt := 0) rfl dX13_numberWorld_16 ?_)
  refine rx_by (e_inc (by decide +kernel) _) (s_iinc hZ.1 dX13_numberWorld_17 (Nat.le_of_ble_eq_true rfl) ?_)
  exact s_goto dX13_numberWorld_20 (by decide) (hj 0 2 rfl)
noncomputable def bX13_numberWorld_2 (j : Nat → rx_K) : rx_K := q_ld q_isI 1 (o_const 1728 (q_lt2 (bX13_numberWorld_9 j) (bX13_numberWorld_23 j)))
set_option maxRecDepth 20000 in
theorem kX13_numberWorld_2 (hZ : zO b e D A X) (j : Nat → rx_K) (hj : ∀ k pc, [2, 44][k]? = some pc → rx_OK (zV b e D A X) mX13_numberWorld 1 pc (j k)) : rx_OK (zV b e D A X) mX13_numberWorld 1 2 (bX13_numberWorld_2 j) := by
  unfold bX13_numberWorld_2
  refine rx_by (e_ldI _ _) (s_iload_n hZ.1 dX13_numberWorld_2 rfl ?_)
  refine s_sipush dX13_numberWorld_3 (by decide +kernel) ?_
  exact rx_by (e_lt2 _ _) (s_icmp_ge dX13_numberWorld_6 (by decide) (kX13_numberWorld_23 hZ j hj) (kX13_numberWorld_9 hZ j hj))
noncomputable def bX13_numberWorld_0 (j : Nat → rx_K) : rx_K := o_const 0 (q_st q_isI 1 ((bX13_numberWorld_2 j)))
set_option maxRecDepth 20000 in
theorem kX13_numberWorld_0 (hZ : zO b e D A X) (j : Nat → rx_K) (hj : ∀ k pc, [2, 44][k]? = some pc → rx_OK (zV b e D A X) mX13_numberWorld 1 pc (j k)) : rx_OK (zV b e D A X) mX13_numberWorld 1 0 (bX13_numberWorld_0 j) := by
  unfold bX13_numberWorld_0
  refine s_iconst dX13_numberWorld_0 (by decide +kernel) ?_
  refine rx_by (e_stI _ _) (s_istore_n hZ.1 dX13_numberWorld_1 rfl (Nat.le_of_ble_eq_true rfl) ?_)
  exact (kX13_numberWorld_2 hZ j hj)
noncomputable def hX13_numberWorld (j : Nat → rx_K) : List rx_K := [bX13_numberWorld_2 j, bX13_numberWorld_44 j]
theorem lX13_numberWorld (hZ : zO b e D A X) : ∀ n k pc, [2, 44][k]? = some pc → rx_OK (zV b e D A X) mX13_numberWorld 1 pc (rx_J hX13_numberWorld n k) := rx_loop fun j hj k pc h => by
  match k, h with
  | 0, h =>
    have e9 := Option.some.inj (show some 2 = some pc from h)
    subst e9
    exact kX13_numberWorld_2 hZ j hj
  | 1, h =>
    have e9 := Option.some.inj (show some 44 = some pc from h)
    subst e9
    exact kX13_numberWorld_44 hZ j hj
  | _ + 2, h => exact absurd h (by simp)
noncomputable def fX13_numberWorld : List Nat → rx_H → Option (Nat × rx_H) := rx_ent 4 (bX13_numberWorld_0 (rx_J hX13_numberWorld 1000000))
theorem met_X13_numberWorld (hZ : zO b e D A X) : rx_Met (zV b e D A X) 1 yX13_numberWorld mX13_numberWorld fX13_numberWorld := rx_entry hZ.1 (kX13_numberWorld_0 hZ _ (lX13_numberWorld hZ 1000000)) (by decide +kernel) rfl (fun h => by cases h)
theorem zy_X13_numberWorld : rx_Y (zV b e D A X) yX13_numberWorld mX13_numberWorld 0 := ⟨zw3606, zw431, by decide, by decide +kernel, by decide +kernel, by decide +kernel⟩
abbrev mX13_clearSet : rx_M := (RX13, cX13_clearSet, 3, none, false)
noncomputable def bX13_clearSet_41 (j : Nat → rx_K) : rx_K := o_ret0
set_option maxRecDepth 20000 in
theorem kX13_clearSet_41 (hZ : zO b e D A X) (j : Nat → rx_K) (hj : ∀ k pc, [2][k]? = some pc → rx_OK (zV b e D A X) mX13_clearSet 0 pc (j k)) : rx_OK (zV b e D A X) mX13_clearSet 0 41 (bX13_clearSet_41 j) := by
  unfold bX13_clearSet_41
  exact s_vret rfl dX13_clearSet_41
noncomputable def bX13_clearSet_25 (j : Nat → rx_K) : rx_K := p_ast 0 (fun v => v) q_isI (q_ld q_isR 0 (q_getf 13 133 (q_ld q_isI 1 (q_ld q_isI 2 (q_bi q_Fadd (o_const 0 (p_ast 0 (fun v => v) q_isI (q_inc 2 8 ((j 0))))))))))
set_option maxRecDepth 20000 in
theorem kX13_clearSet_25 (hZ : zO b e D A X) (j : Nat → rx_K) (hj : ∀ k pc, [2][k]? = some pc → rx_OK (zV b e D A X) mX13_clearSet 0 pc (j k)) : rx_OK (zV b e D A X) mX13_clearSet 0 25 (bX13_clearSet_25 j) := by
  unfold bX13_clearSet_25
  refine rx_by2 (l_astI _ _ _) (s_iast hZ.1 (tt := 0) rfl dX13_clearSet_25 ?_)
  refine rx_by (e_ldR _ _) (s_aload_n hZ.1 dX13_clearSet_26 rfl ?_)
  refine zg13_133 dX13_clearSet_27 zw4253 ?_
  refine rx_by (e_ldI _ _) (s_iload_n hZ.1 dX13_clearSet_30 rfl ?_)
  refine rx_by (e_ldI _ _) (s_iload_n hZ.1 dX13_clearSet_31 rfl ?_)
  refine rx_by (e_add _) (s_iadd dX13_clearSet_32 ?_)
  refine s_iconst dX13_clearSet_33 (by decide +kernel) ?_
  refine rx_by2 (l_astI _ _ _) (s_iast hZ.1 (tt := 0) rfl dX13_clearSet_34 ?_)
  refine rx_by (e_inc (by decide +kernel) _) (s_iinc hZ.1 dX13_clearSet_35 (Nat.le_of_ble_eq_true rfl) ?_)
  exact s_goto dX13_clearSet_38 (by decide) (hj 0 2 rfl)
noncomputable def bX13_clearSet_24 (j : Nat → rx_K) : rx_K := o_const 0 ((bX13_clearSet_25 j))
set_option maxRecDepth 20000 in
theorem kX13_clearSet_24 (hZ : zO b e D A X) (j : Nat → rx_K) (hj : ∀ k pc, [2][k]? = some pc → rx_OK (zV b e D A X) mX13_clearSet 0 pc (j k)) : rx_OK (zV b e D A X) mX13_clearSet 0 24 (bX13_clearSet_24 j) := by
  unfold bX13_clearSet_24
  refine s_iconst dX13_clearSet_24 (by decide +kernel) ?_
  exact (kX13_clearSet_25 hZ j hj)
noncomputable def bX13_clearSet_20 (j : Nat → rx_K) : rx_K := o_const 32 ((bX13_clearSet_25 j))
set_option maxRecDepth 20000 in
theorem kX13_clearSet_20 (hZ : zO b e D A X) (j : Nat → rx_K) (hj : ∀ k pc, [2][k]? = some pc → rx_OK (zV b e D A X) mX13_clearSet 0 pc (j k)) : rx_OK (zV b e D A X) mX13_clearSet 0 20 (bX13_clearSet_20 j) := by
  unfold bX13_clearSet_20
  refine s_iconst dX13_clearSet_20 (by decide +kernel) ?_
  exact s_goto dX13_clearSet_21 (by decide) (kX13_clearSet_25 hZ j hj)
noncomputable def bX13_clearSet_8 (j : Nat → rx_K) : rx_K := q_ld q_isR 0 (q_getf 13 132 (q_ld q_isI 1 (q_ld q_isI 2 (q_bi q_Fadd (q_ld q_isI 2 (o_const 16 (q_lt2 (bX13_clearSet_20 j) (bX13_clearSet_24 j))))))))
set_option maxRecDepth 20000 in
theorem kX13_clearSet_8 (hZ : zO b e D A X) (j : Nat → rx_K) (hj : ∀ k pc, [2][k]? = some pc → rx_OK (zV b e D A X) mX13_clearSet 0 pc (j k)) : rx_OK (zV b e D A X) mX13_clearSet 0 8 (bX13_clearSet_8 j) := by
  unfold bX13_clearSet_8
  refine rx_by (e_ldR _ _) (s_aload_n hZ.1 dX13_clearSet_8 rfl ?_)
  refine zg13_132 dX13_clearSet_9 zw4252 ?_
  refine rx_by (e_ldI _ _) (s_iload_n hZ.1 dX13_clearSet_12 rfl ?_)
  refine rx_by (e_ldI _ _) (s_iload_n hZ.1 dX13_clearSet_13 rfl ?_)
  refine rx_by (e_add _) (s_iadd dX13_clearSet_14 ?_)
  refine rx_by (e_ldI _ _) (s_iload_n hZ.1 dX13_clearSet_15 rfl ?_)
  refine s_iconst dX13_clearSet_16 (by decide +kernel) ?_
  exact rx_by (e_lt2 _ _) (s_icmp_ge dX13_clearSet_17 (by decide) (kX13_clearSet_24 hZ j hj) (kX13_clearSet_20 hZ j hj))
noncomputable def bX13_clearSet_2 (j : Nat → rx_K) : rx_K := q_ld q_isI 2 (o_const 512 (q_lt2 (bX13_clearSet_8 j) (bX13_clearSet_41 j)))
set_option maxRecDepth 20000 in
theorem kX13_clearSet_2 (hZ : zO b e D A X) (j : Nat → rx_K) (hj : ∀ k pc, [2][k]? = some pc → rx_OK (zV b e D A X) mX13_clearSet 0 pc (j k)) : rx_OK (zV b e D A X) mX13_clearSet 0 2 (bX13_clearSet_2 j) := by
  unfold bX13_clearSet_2
  refine rx_by (e_ldI _ _) (s_iload_n hZ.1 dX13_clearSet_2 rfl ?_)
  refine s_bipush dX13_clearSet_3 (by decide +kernel) ?_
  exact rx_by (e_lt2 _ _) (s_icmp_ge dX13_clearSet_5 (by decide) (kX13_clearSet_41 hZ j hj) (kX13_clearSet_8 hZ j hj))
noncomputable def bX13_clearSet_0 (j : Nat → rx_K) : rx_K := o_const 0 (q_st q_isI 2 ((bX13_clearSet_2 j)))
set_option maxRecDepth 20000 in
theorem kX13_clearSet_0 (hZ : zO b e D A X) (j : Nat → rx_K) (hj : ∀ k pc, [2][k]? = some pc → rx_OK (zV b e D A X) mX13_clearSet 0 pc (j k)) : rx_OK (zV b e D A X) mX13_clearSet 0 0 (bX13_clearSet_0 j) := by
  unfold bX13_clearSet_0
  refine s_iconst dX13_clearSet_0 (by decide +kernel) ?_
  refine rx_by (e_stI _ _) (s_istore_n hZ.1 dX13_clearSet_1 rfl (Nat.le_of_ble_eq_true rfl) ?_)
  exact (kX13_clearSet_2 hZ j hj)
noncomputable def hX13_clearSet (j : Nat → rx_K) : List rx_K := [bX13_clearSet_2 j]
theorem lX13_clearSet (hZ : zO b e D A X) : ∀ n k pc, [2][k]? = some pc → rx_OK (zV b e D A X) mX13_clearSet 0 pc (rx_J hX13_clearSet n k) := rx_loop fun j hj k pc h => by
  match k, h with
  | 0, h =>
    have e9 := Option.some.inj (show some 2 = some pc from h)
    subst e9
    exact kX13_clearSet_2 hZ j hj
  | _ + 1, h => exact absurd h (by simp)
noncomputable def fX13_clearSet : List Nat → rx_H → Option (Nat × rx_H) := rx_ent 3 (bX13_clearSet_0 (rx_J hX13_clearSet 1000000))
theorem met_X13_clearSet (hZ : zO b e D A X) : rx_Met (zV b e D A X) 0 yX13_clearSet mX13_clearSet fX13_clearSet := rx_entry hZ.1 (kX13_clearSet_0 hZ _ (lX13_clearSet hZ 1000000)) (by decide +kernel) rfl (fun h => by cases h)
theorem zy_X13_clearSet : rx_Y (zV b e D A X) yX13_clearSet mX13_clearSet 1 := ⟨zw3614, zw431, by decide, by decide +kernel, by decide +kernel, by decide +kernel⟩
abbrev mX13_settle : rx_M := (RX13, cX13_settle, 2, none, false)
noncomputable def bX13_settle_51 (j : Nat → rx_K) : rx_K := o_ret0
set_option maxRecDepth 20000 in
theorem kX13_settle_51 (hZ : zO b e D A X) (j : Nat → rx_K) (hj : ∀ k pc, [31][k]? = some pc → rx_OK (zV b e D A X) mX13_settle 2 pc (j k)) : rx_OK (zV b e D A X) mX13_settle 2 51 (bX13_settle_51 j) := by
  unfold bX13_settle_51
  exact s_vret rfl dX13_settle_51
noncomputable def bX13_settle_38 (j : Nat → rx_K) : rx_K := q_ld q_isR 0 (q_getf 13 148 (q_ld q_isI 1 (o_const 0 (p_ast 0 (fun v => v) q_isI (q_inc 1 8 ((j 0)))))))
set_option maxRecDepth 20000 in
theorem kX13_settle_38 (hZ : zO b e D A X) (j : Nat → rx_K) (hj : ∀ k pc, [31][k]? = some pc → rx_OK (zV b e D A X) mX13_settle 2 pc (j k)) : rx_OK (zV b e D A X) mX13_settle 2 38 (bX13_settle_38 j) := by
  unfold bX13_settle_38
  refine rx_by (e_ldR _ _) (s_aload_n hZ.1 dX13_settle_38 rfl ?_)
  refine zg13_148 dX13_settle_39 zw4268 ?_
  refine rx_by (e_ldI _ _) (s_iload_n hZ.1 dX13_settle_42 rfl ?_)
  refine s_iconst dX13_settle_43 (by decide +kernel) ?_
  refine rx_by2 (l_astI _ _ _) (s_iast hZ.1 (tt := 0) rfl dX13_settle_44 ?_)
  refine rx_by (e_inc (by decide +kernel) _) (s_iinc hZ.1 dX13_settle_45 (Nat.le_of_ble_eq_true rfl) ?_)
  exact s_goto dX13_settle_48 (by decide) (hj 0 31 rfl)
noncomputable def bX13_settle_31 (j : Nat → rx_K) : rx_K := q_ld q_isI 1 (o_const 58752 (q_lt2 (bX13_settle_38 j) (bX13_settle_51 j)))
set_option maxRecDepth 20000 in
theorem kX13_settle_31 (hZ : zO b e D A X) (j : Nat → rx_K) (hj : ∀ k pc, [31][k]? = some pc → rx_OK (zV b e D A X) mX13_settle 2 pc (j k)) : rx_OK (zV b e D A X) mX13_settle 2 31 (bX13_settle_31 j) := by
  unfold bX13_settle_31
  refine rx_by (e_ldI _ _) (s_iload_n hZ.1 dX13_settle_31 rfl ?_)
  refine s_sipush dX13_settle_32 (by decide +kernel) ?_
  exact rx_by (e_lt2 _ _) (s_icmp_ge dX13_settle_35 (by decide) (kX13_settle_51 hZ j hj) (kX13_settle_38 hZ j hj))
noncomputable def bX13_settle_0 (j : Nat → rx_K) : rx_K := q_ld q_isR 0 (o_callV 0 13 fX13_numberWorld (q_ld q_isR 0 (o_const 0 (p_putf q_isI 13 145 (q_ld q_isR 0 (o_const 0 (o_callV 1 13 fX13_clearSet (q_ld q_isR 0 (o_const 0 (p_putf q_isI 13 136 (q_ld q_isR 0 (o_const 0 (p_putf q_isI 13 151 (q_ld q_isR 0 (o_const 0 (p_putf q_isI 13 153 (o_const 0 (q_st q_isI 1 ((bX13_settle_31 j))))))))))))))))))))
set_option maxRecDepth 20000 in
theorem kX13_settle_0 (hZ : zO b e D A X) (j : Nat → rx_K) (hj : ∀ k pc, [31][k]? = some pc → rx_OK (zV b e D A X) mX13_settle 2 pc (j k)) : rx_OK (zV b e D A X) mX13_settle 2 0 (bX13_settle_0 j) := by
  unfold bX13_settle_0
  refine rx_by (e_ldR _ _) (s_aload_n hZ.1 dX13_settle_0 rfl ?_)
  refine s_callV hZ.1 (met_X13_numberWorld hZ) (by decide) zy_X13_numberWorld zcl13 zw3605 zw320 (Or.inl zw3603) dX13_settle_1 ?_
  refine rx_by (e_ldR _ _) (s_aload_n hZ.1 dX13_settle_4 rfl ?_)
  refine s_iconst dX13_settle_5 (by decide +kernel) ?_
  refine zp13_145 hZ.1 dX13_settle_6 zw4265 ?_
  refine rx_by (e_ldR _ _) (s_aload_n hZ.1 dX13_settle_9 rfl ?_)
  refine s_iconst dX13_settle_10 (by decide +kernel) ?_
  refine s_callV hZ.1 (met_X13_clearSet hZ) (by decide) zy_X13_clearSet zcl13 zw3613 zw322 (Or.inl zw3611) dX13_settle_11 ?_
  refine rx_by (e_ldR _ _) (s_aload_n hZ.1 dX13_settle_14 rfl ?_)
  refine s_iconst dX13_settle_15 (by decide +kernel) ?_
  refine zp13_136 hZ.1 dX13_settle_16 zw4256 ?_
  refine rx_by (e_ldR _ _) (s_aload_n hZ.1 dX13_settle_19 rfl ?_)
  refine s_iconst dX13_settle_20 (by decide +kernel) ?_
  refine zp13_151 hZ.1 dX13_settle_21 zw4271 ?_
  refine rx_by (e_ldR _ _) (s_aload_n hZ.1 dX13_settle_24 rfl ?_)
  refine s_iconst dX13_settle_25 (by decide +kernel) ?_
  refine zp13_153 hZ.1 dX13_settle_26 zw4273 ?_
  refine s_iconst dX13_settle_29 (by decide +kernel) ?_
  refine rx_by (e_stI _ _) (s_istore_n hZ.1 dX13_settle_30 rfl (Nat.le_of_ble_eq_true rfl) ?_)
  exact (kX13_settle_31 hZ j hj)
noncomputable def hX13_settle (j : Nat → rx_K) : List rx_K := [bX13_settle_31 j]
theorem lX13_settle (hZ : zO b e D A X) : ∀ n k pc, [31][k]? = some pc → rx_OK (zV b e D A X) mX13_settle 2 pc (rx_J hX13_settle n k) := rx_loop fun j hj k pc h => by
  match k, h with
  | 0, h =>
    have e9 := Option.some.inj (show some 31 = some pc from h)
    subst e9
    exact kX13_settle_31 hZ j hj
  | _ + 1, h => exact absurd h (by simp)
noncomputable def fX13_settle : List Nat → rx_H → Option (Nat × rx_H) := rx_ent 2 (bX13_settle_0 (rx_J hX13_settle 1000000))
theorem met_X13_settle (hZ : zO b e D A X) : rx_Met (zV b e D A X) 2 yX13_settle mX13_settle fX13_settle := rx_entry hZ.1 (kX13_settle_0 hZ _ (lX13_settle hZ 1000000)) (by decide +kernel) rfl (fun h => by cases h)
theorem zy_X13_settle : rx_Y (zV b e D A X) yX13_settle mX13_settle 0 := ⟨zw3602, zw431, by decide, by decide +kernel, by decide +kernel, by decide +kernel⟩
end ZM4

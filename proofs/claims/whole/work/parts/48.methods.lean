section ZM8
variable {b : Nat} {e : Nat → Value} {D : va_G} {A : Nat → ClassId} {X : State → Prop}
abbrev mX13_tokenize : rx_M := (RX13, cX13_tokenize, 6, none, false)
noncomputable def bX13_tokenize_172 (j : Nat → rx_K) : rx_K := q_ld q_isR 0 (q_getf 13 16 (q_ld q_isR 0 (q_getf 13 19 (q_ld q_isI 2 (q_ast 0 (fun v => v) q_isI (o_ret0))))))
set_option maxRecDepth 20000 in
theorem kX13_tokenize_172 (hZ : zO b e D A X) (j : Nat → rx_K) (hj : ∀ k pc, [6][k]? = some pc → rx_OK (zV b e D A X) mX13_tokenize 0 pc (j k)) : rx_OK (zV b e D A X) mX13_tokenize 0 172 (bX13_tokenize_172 j) := by
  unfold bX13_tokenize_172
  refine rx_by (e_ldR _ _) (s_aload_n hZ.1 dX13_tokenize_172 rfl ?_)
  refine rx_by (e_getf _ _ _) (s_getf zcl13 (Nat.le_of_ble_eq_true rfl) dX13_tokenize_173 zw4143 ?_)
  refine rx_by (e_ldR _ _) (s_aload_n hZ.1 dX13_tokenize_176 rfl ?_)
  refine rx_by (e_getf _ _ _) (s_getf zcl13 (Nat.le_of_ble_eq_true rfl) dX13_tokenize_177 zw4146 ?_)
  refine rx_by (e_ldI _ _) (s_iload_n hZ.1 dX13_tokenize_180 rfl ?_)
  refine rx_by (e_astI _ _ _) (s_iast hZ.1 (tt := 0) rfl dX13_tokenize_181 ?_)
  exact s_vret rfl dX13_tokenize_182
noncomputable def bX13_tokenize_161 (j : Nat → rx_K) : rx_K := o_const 0 (q_st q_isI 3 (q_ld q_isI 5 (q_st q_isI 1 (q_inc 2 8 ((j 0))))))
set_option maxRecDepth 20000 in
theorem kX13_tokenize_161 (hZ : zO b e D A X) (j : Nat → rx_K) (hj : ∀ k pc, [6][k]? = some pc → rx_OK (zV b e D A X) mX13_tokenize 0 pc (j k)) : rx_OK (zV b e D A X) mX13_tokenize 0 161 (bX13_tokenize_161 j) := by
  unfold bX13_tokenize_161
  refine s_iconst dX13_tokenize_161 (by decide +kernel) ?_
  refine rx_by (e_stI _ _) (s_istore_n hZ.1 dX13_tokenize_162 rfl (Nat.le_of_ble_eq_true rfl) ?_)
  refine rx_by (e_ldI _ _) (s_iload hZ.1 dX13_tokenize_163 ?_)
  refine rx_by (e_stI _ _) (s_istore_n hZ.1 dX13_tokenize_165 rfl (Nat.le_of_ble_eq_true rfl) ?_)
  refine rx_by (e_inc (by decide +kernel) _) (s_iinc hZ.1 dX13_tokenize_166 (Nat.le_of_ble_eq_true rfl) ?_)
  exact s_goto dX13_tokenize_169 (by decide) (hj 0 6 rfl)
noncomputable def bX13_tokenize_116 (j : Nat → rx_K) : rx_K := q_ld q_isI 1 (q_st q_isI 5 (q_ld q_isR 0 (q_getf 13 13 (q_ld q_isI 4 (q_ld q_isI 5 (q_ast 0 (fun v => v) q_isI (q_ld q_isR 0 (q_getf 13 11 (q_ld q_isI 4 (q_ald 0 (q_eq1 (bX13_tokenize_161 j) o_none)))))))))))
set_option maxRecDepth 20000 in
theorem kX13_tokenize_116 (hZ : zO b e D A X) (j : Nat → rx_K) (hj : ∀ k pc, [6][k]? = some pc → rx_OK (zV b e D A X) mX13_tokenize 0 pc (j k)) : rx_OK (zV b e D A X) mX13_tokenize 0 116 (bX13_tokenize_116 j) := by
  unfold bX13_tokenize_116
  refine rx_by (e_ldI _ _) (s_iload_n hZ.1 dX13_tokenize_116 rfl ?_)
  refine rx_by (e_stI _ _) (s_istore hZ.1 dX13_tokenize_117 (Nat.le_of_ble_eq_true rfl) ?_)
  refine rx_by (e_ldR _ _) (s_aload_n hZ.1 dX13_tokenize_119 rfl ?_)
  refine rx_by (e_getf _ _ _) (s_getf zcl13 (Nat.le_of_ble_eq_true rfl) dX13_tokenize_120 zw4140 ?_)
  refine rx_by (e_ldI _ _) (s_iload hZ.1 dX13_tokenize_123 ?_)
  refine rx_by (e_ldI _ _) (s_iload hZ.1 dX13_tokenize_125 ?_)
  refine rx_by (e_astI _ _ _) (s_iast hZ.1 (tt := 0) rfl dX13_tokenize_127 ?_)
  refine rx_by (e_ldR _ _) (s_aload_n hZ.1 dX13_tokenize_128 rfl ?_)
  refine rx_by (e_getf _ _ _) (s_getf zcl13 (Nat.le_of_ble_eq_true rfl) dX13_tokenize_129 zw4138 ?_)
  refine rx_by (e_ldI _ _) (s_iload hZ.1 dX13_tokenize_132 ?_)
  refine rx_by (e_ald _ _) (s_iald (tt := 0) rfl dX13_tokenize_134 ?_)
  exact rx_by (e_eq1 _ _) (s_if_eq dX13_tokenize_135 (by decide) (kX13_tokenize_161 hZ j hj) (s_none (pc := 138)))
noncomputable def bX13_tokenize_89 (j : Nat → rx_K) : rx_K := q_ld q_isI 4 (o_const 0 (q_ast 0 (fun v => v) q_isI (q_ld q_isI 1 (q_ld q_isR 0 (q_getf 13 6 (q_ld q_isR 0 (q_getf 13 19 (q_ald 0 (q_lt2 o_none (bX13_tokenize_116 j))))))))))
set_option maxRecDepth 20000 in
theorem kX13_tokenize_89 (hZ : zO b e D A X) (j : Nat → rx_K) (hj : ∀ k pc, [6][k]? = some pc → rx_OK (zV b e D A X) mX13_tokenize 0 pc (j k)) : rx_OK (zV b e D A X) mX13_tokenize 0 89 (bX13_tokenize_89 j) := by
  unfold bX13_tokenize_89
  refine rx_by (e_ldI _ _) (s_iload hZ.1 dX13_tokenize_89 ?_)
  refine s_iconst dX13_tokenize_91 (by decide +kernel) ?_
  refine rx_by (e_astI _ _ _) (s_iast hZ.1 (tt := 0) rfl dX13_tokenize_92 ?_)
  refine rx_by (e_ldI _ _) (s_iload_n hZ.1 dX13_tokenize_93 rfl ?_)
  refine rx_by (e_ldR _ _) (s_aload_n hZ.1 dX13_tokenize_94 rfl ?_)
  refine rx_by (e_getf _ _ _) (s_getf zcl13 (Nat.le_of_ble_eq_true rfl) dX13_tokenize_95 zw4133 ?_)
  refine rx_by (e_ldR _ _) (s_aload_n hZ.1 dX13_tokenize_98 rfl ?_)
  refine rx_by (e_getf _ _ _) (s_getf zcl13 (Nat.le_of_ble_eq_true rfl) dX13_tokenize_99 zw4146 ?_)
  refine rx_by (e_ald _ _) (s_iald (tt := 0) rfl dX13_tokenize_102 ?_)
  exact rx_by (e_lt2 _ _) (s_icmp_ge dX13_tokenize_103 (by decide) (kX13_tokenize_116 hZ j hj) (s_none (pc := 106)))
noncomputable def bX13_tokenize_49 (j : Nat → rx_K) : rx_K := q_ld q_isR 0 (q_getf 13 19 (o_const 5616 (q_bi q_Fmul (q_ld q_isI 2 (q_bi q_Fadd (q_st q_isI 4 (q_ld q_isR 0 (q_getf 13 12 (q_ld q_isI 4 (q_ld q_isI 1 (q_ast 0 (fun v => v) q_isI (q_ld q_isR 0 (q_getf 13 14 (q_ld q_isI 4 (o_const 1 (q_ast 1 (fun v => v) q_isL (q_ld q_isR 0 (q_getf 13 15 (q_ld q_isI 4 (o_const 0 (q_ast 0 (fun v => v) q_isI (q_ld q_isR 0 (q_getf 13 11 ((bX13_tokenize_89 j)))))))))))))))))))))))))
set_option maxRecDepth 20000 in
theorem kX13_tokenize_49 (hZ : zO b e D A X) (j : Nat → rx_K) (hj : ∀ k pc, [6][k]? = some pc → rx_OK (zV b e D A X) mX13_tokenize 0 pc (j k)) : rx_OK (zV b e D A X) mX13_tokenize 0 49 (bX13_tokenize_49 j) := by
  unfold bX13_tokenize_49
  refine rx_by (e_ldR _ _) (s_aload_n hZ.1 dX13_tokenize_49 rfl ?_)
  refine rx_by (e_getf _ _ _) (s_getf zcl13 (Nat.le_of_ble_eq_true rfl) dX13_tokenize_50 zw4146 ?_)
  refine s_sipush dX13_tokenize_53 (by decide +kernel) ?_
  refine rx_by (e_mul _) (s_imul dX13_tokenize_56 ?_)
  refine rx_by (e_ldI _ _) (s_iload_n hZ.1 dX13_tokenize_57 rfl ?_)
  refine rx_by (e_add _) (s_iadd dX13_tokenize_58 ?_)
  refine rx_by (e_stI _ _) (s_istore hZ.1 dX13_tokenize_59 (Nat.le_of_ble_eq_true rfl) ?_)
  refine rx_by (e_ldR _ _) (s_aload_n hZ.1 dX13_tokenize_61 rfl ?_)
  refine rx_by (e_getf _ _ _) (s_getf zcl13 (Nat.le_of_ble_eq_true rfl) dX13_tokenize_62 zw4139 ?_)
  refine rx_by (e_ldI _ _) (s_iload hZ.1 dX13_tokenize_65 ?_)
  refine rx_by (e_ldI _ _) (s_iload_n hZ.1 dX13_tokenize_67 rfl ?_)
  refine rx_by (e_astI _ _ _) (s_iast hZ.1 (tt := 0) rfl dX13_tokenize_68 ?_)
  refine rx_by (e_ldR _ _) (s_aload_n hZ.1 dX13_tokenize_69 rfl ?_)
  refine rx_by (e_getf _ _ _) (s_getf zcl13 (Nat.le_of_ble_eq_true rfl) dX13_tokenize_70 zw4141 ?_)
  refine rx_by (e_ldI _ _) (s_iload hZ.1 dX13_tokenize_73 ?_)
  refine s_lconst dX13_tokenize_75 (by decide +kernel) ?_
  refine rx_by (e_ast _ _ _ _) (s_last (tt := 1) rfl dX13_tokenize_76 ?_)
  refine rx_by (e_ldR _ _) (s_aload_n hZ.1 dX13_tokenize_77 rfl ?_)
  refine rx_by (e_getf _ _ _) (s_getf zcl13 (Nat.le_of_ble_eq_true rfl) dX13_tokenize_78 zw4142 ?_)
  refine rx_by (e_ldI _ _) (s_iload hZ.1 dX13_tokenize_81 ?_)
  refine s_iconst dX13_tokenize_83 (by decide +kernel) ?_
  refine rx_by (e_astI _ _ _) (s_iast hZ.1 (tt := 0) rfl dX13_tokenize_84 ?_)
  refine rx_by (e_ldR _ _) (s_aload_n hZ.1 dX13_tokenize_85 rfl ?_)
  refine rx_by (e_getf _ _ _) (s_getf zcl13 (Nat.le_of_ble_eq_true rfl) dX13_tokenize_86 zw4138 ?_)
  exact (kX13_tokenize_89 hZ j hj)
noncomputable def bX13_tokenize_10 (j : Nat → rx_K) : rx_K := q_ld q_isI 1 (q_ld q_isR 0 (q_getf 13 6 (q_ld q_isR 0 (q_getf 13 19 (q_ald 0 (q_lt2 o_none (bX13_tokenize_49 j)))))))
set_option maxRecDepth 20000 in
theorem kX13_tokenize_10 (hZ : zO b e D A X) (j : Nat → rx_K) (hj : ∀ k pc, [6][k]? = some pc → rx_OK (zV b e D A X) mX13_tokenize 0 pc (j k)) : rx_OK (zV b e D A X) mX13_tokenize 0 10 (bX13_tokenize_10 j) := by
  unfold bX13_tokenize_10
  refine rx_by (e_ldI _ _) (s_iload_n hZ.1 dX13_tokenize_10 rfl ?_)
  refine rx_by (e_ldR _ _) (s_aload_n hZ.1 dX13_tokenize_11 rfl ?_)
  refine rx_by (e_getf _ _ _) (s_getf zcl13 (Nat.le_of_ble_eq_true rfl) dX13_tokenize_12 zw4133 ?_)
  refine rx_by (e_ldR _ _) (s_aload_n hZ.1 dX13_tokenize_15 rfl ?_)
  refine rx_by (e_getf _ _ _) (s_getf zcl13 (Nat.le_of_ble_eq_true rfl) dX13_tokenize_16 zw4146 ?_)
  refine rx_by (e_ald _ _) (s_iald (tt := 0) rfl dX13_tokenize_19 ?_)
  exact rx_by (e_lt2 _ _) (s_icmp_ge dX13_tokenize_20 (by decide) (kX13_tokenize_49 hZ j hj) (s_none (pc := 23)))
noncomputable def bX13_tokenize_6 (j : Nat → rx_K) : rx_K := q_ld q_isI 3 (q_eq1 (bX13_tokenize_172 j) (bX13_tokenize_10 j))
set_option maxRecDepth 20000 in
theorem kX13_tokenize_6 (hZ : zO b e D A X) (j : Nat → rx_K) (hj : ∀ k pc, [6][k]? = some pc → rx_OK (zV b e D A X) mX13_tokenize 0 pc (j k)) : rx_OK (zV b e D A X) mX13_tokenize 0 6 (bX13_tokenize_6 j) := by
  unfold bX13_tokenize_6
  refine rx_by (e_ldI _ _) (s_iload_n hZ.1 dX13_tokenize_6 rfl ?_)
  exact rx_by (e_eq1 _ _) (s_if_eq dX13_tokenize_7 (by decide) (kX13_tokenize_172 hZ j hj) (kX13_tokenize_10 hZ j hj))
noncomputable def bX13_tokenize_0 (j : Nat → rx_K) : rx_K := o_const 0 (q_st q_isI 1 (o_const 0 (q_st q_isI 2 (o_const 8 (q_st q_isI 3 ((bX13_tokenize_6 j)))))))
set_option maxRecDepth 20000 in
theorem kX13_tokenize_0 (hZ : zO b e D A X) (j : Nat → rx_K) (hj : ∀ k pc, [6][k]? = some pc → rx_OK (zV b e D A X) mX13_tokenize 0 pc (j k)) : rx_OK (zV b e D A X) mX13_tokenize 0 0 (bX13_tokenize_0 j) := by
  unfold bX13_tokenize_0
  refine s_iconst dX13_tokenize_0 (by decide +kernel) ?_
  refine rx_by (e_stI _ _) (s_istore_n hZ.1 dX13_tokenize_1 rfl (Nat.le_of_ble_eq_true rfl) ?_)
  refine s_iconst dX13_tokenize_2 (by decide +kernel) ?_
  refine rx_by (e_stI _ _) (s_istore_n hZ.1 dX13_tokenize_3 rfl (Nat.le_of_ble_eq_true rfl) ?_)
  refine s_iconst dX13_tokenize_4 (by decide +kernel) ?_
  refine rx_by (e_stI _ _) (s_istore_n hZ.1 dX13_tokenize_5 rfl (Nat.le_of_ble_eq_true rfl) ?_)
  exact (kX13_tokenize_6 hZ j hj)
noncomputable def hX13_tokenize (j : Nat → rx_K) : List rx_K := [bX13_tokenize_6 j]
theorem lX13_tokenize (hZ : zO b e D A X) : ∀ n k pc, [6][k]? = some pc → rx_OK (zV b e D A X) mX13_tokenize 0 pc (rx_J hX13_tokenize n k) := rx_loop fun j hj k pc h => by
  match k, h with
  | 0, h =>
    have e9 := Option.some.inj (show some 6 = some pc from h)
    subst e9
    exact kX13_tokenize_6 hZ j hj
  | _ + 1, h => exact absurd h (by simp)
noncomputable def fX13_tokenize : List Nat → rx_H → Option (Nat × rx_H) := rx_ent 6 (bX13_tokenize_0 (rx_J hX13_tokenize 1000000))
theorem met_X13_tokenize (hZ : zO b e D A X) : rx_Met (zV b e D A X) 0 yX13_tokenize mX13_tokenize fX13_tokenize := rx_entry hZ.1 (kX13_tokenize_0 hZ _ (lX13_tokenize hZ 1000000)) (by decide +kernel) rfl (fun h => by cases h)
theorem zy_X13_tokenize : rx_Y (zV b e D A X) yX13_tokenize mX13_tokenize 0 := ⟨zw2943, zw431, by decide, by decide +kernel, by decide +kernel, by decide +kernel⟩
abbrev mX13_kindAt : rx_M := (RX13, cX13_kindAt, 2, (some .int), false)
noncomputable def bX13_kindAt_0 : rx_K := q_ld q_isR 0 (q_getf 13 11 (q_ld q_isR 0 (q_getf 13 19 (o_const 5616 (q_bi q_Fmul (q_ld q_isI 1 (q_bi q_Fadd (q_ald 0 (o_ret1 rx_isI)))))))))
set_option maxRecDepth 20000 in
theorem kX13_kindAt_0 (hZ : zO b e D A X) : rx_OK (zV b e D A X) mX13_kindAt 0 0 bX13_kindAt_0 := by
  unfold bX13_kindAt_0
  refine rx_by (e_ldR _ _) (s_aload_n hZ.1 dX13_kindAt_0 rfl ?_)
  refine rx_by (e_getf _ _ _) (s_getf zcl13 (Nat.le_of_ble_eq_true rfl) dX13_kindAt_1 zw4138 ?_)
  refine rx_by (e_ldR _ _) (s_aload_n hZ.1 dX13_kindAt_4 rfl ?_)
  refine rx_by (e_getf _ _ _) (s_getf zcl13 (Nat.le_of_ble_eq_true rfl) dX13_kindAt_5 zw4146 ?_)
  refine s_sipush dX13_kindAt_8 (by decide +kernel) ?_
  refine rx_by (e_mul _) (s_imul dX13_kindAt_11 ?_)
  refine rx_by (e_ldI _ _) (s_iload_n hZ.1 dX13_kindAt_12 rfl ?_)
  refine rx_by (e_add _) (s_iadd dX13_kindAt_13 ?_)
  refine rx_by (e_ald _ _) (s_iald (tt := 0) rfl dX13_kindAt_14 ?_)
  exact s_iret hZ.1 rfl dX13_kindAt_15
noncomputable def fX13_kindAt : List Nat → rx_H → Option (Nat × rx_H) := rx_ent 2 bX13_kindAt_0
theorem met_X13_kindAt (hZ : zO b e D A X) : rx_Met (zV b e D A X) 0 yX13_kindAt mX13_kindAt fX13_kindAt := rx_entry hZ.1 (kX13_kindAt_0 hZ) (by decide +kernel) rfl (fun h => by cases h)
theorem zy_X13_kindAt : rx_Y (zV b e D A X) yX13_kindAt mX13_kindAt 1 := ⟨zw2977, zw431, by decide, by decide +kernel, by decide +kernel, by decide +kernel⟩
abbrev mX13_parse : rx_M := (RX13, cX13_parse, 1, none, false)
noncomputable def bX13_parse_55 : rx_K := o_ret0
set_option maxRecDepth 20000 in
theorem kX13_parse_55 (hZ : zO b e D A X) : rx_OK (zV b e D A X) mX13_parse 1 55 bX13_parse_55 := by
  unfold bX13_parse_55
  exact s_vret rfl dX13_parse_55
noncomputable def bX13_parse_37 : rx_K := q_ld q_isR 0 (q_ld q_isR 0 (q_getf 13 22 (o_callV 1 13 fX13_kindAt (q_eq1 bX13_parse_55 o_none))))
set_option maxRecDepth 20000 in
theorem kX13_parse_37 (hZ : zO b e D A X) : rx_OK (zV b e D A X) mX13_parse 1 37 bX13_parse_37 := by
  unfold bX13_parse_37
  refine rx_by (e_ldR _ _) (s_aload_n hZ.1 dX13_parse_37 rfl ?_)
  refine rx_by (e_ldR _ _) (s_aload_n hZ.1 dX13_parse_38 rfl ?_)
  refine rx_by (e_getf _ _ _) (s_getf zcl13 (Nat.le_of_ble_eq_true rfl) dX13_parse_39 zw4149 ?_)
  refine s_callV hZ.1 (met_X13_kindAt hZ) (by decide) zy_X13_kindAt zcl13 zw2976 zw183 (Or.inl zw2974) dX13_parse_42 ?_
  exact rx_by (e_eq1 _ _) (s_if_eq dX13_parse_45 (by decide) (kX13_parse_55 hZ) (s_none (pc := 48)))
noncomputable def bX13_parse_0 : rx_K := q_ld q_isR 0 (o_const 0 (q_putf q_isI 13 22 (q_ld q_isR 0 (o_const 0 (q_putf q_isI 13 89 (q_ld q_isR 0 (q_getf 13 23 (q_ld q_isR 0 (q_getf 13 19 (o_const 0 (q_ast 0 (fun v => v) q_isI (q_ld q_isR 0 (q_getf 13 69 (q_ld q_isR 0 (q_getf 13 19 (o_const 0 (q_ast 0 (fun v => v) q_isI (q_ld q_isR 0 (q_getf 13 20 (q_eq1 bX13_parse_37 bX13_parse_55))))))))))))))))))))
set_option maxRecDepth 20000 in
theorem kX13_parse_0 (hZ : zO b e D A X) : rx_OK (zV b e D A X) mX13_parse 1 0 bX13_parse_0 := by
  unfold bX13_parse_0
  refine rx_by (e_ldR _ _) (s_aload_n hZ.1 dX13_parse_0 rfl ?_)
  refine s_iconst dX13_parse_1 (by decide +kernel) ?_
  refine rx_by (e_putf _ _ _ _) (s_putf hZ.1 zcl13 (Nat.le_of_ble_eq_true rfl) (Or.inl rfl) dX13_parse_2 zw4149 c_int ?_)
  refine rx_by (e_ldR _ _) (s_aload_n hZ.1 dX13_parse_5 rfl ?_)
  refine s_iconst dX13_parse_6 (by decide +kernel) ?_
  refine rx_by (e_putf _ _ _ _) (s_putf hZ.1 zcl13 (Nat.le_of_ble_eq_true rfl) (Or.inl rfl) dX13_parse_7 zw4216 c_int ?_)
  refine rx_by (e_ldR _ _) (s_aload_n hZ.1 dX13_parse_10 rfl ?_)
  refine rx_by (e_getf _ _ _) (s_getf zcl13 (Nat.le_of_ble_eq_true rfl) dX13_parse_11 zw4150 ?_)
  refine rx_by (e_ldR _ _) (s_aload_n hZ.1 dX13_parse_14 rfl ?_)
  refine rx_by (e_getf _ _ _) (s_getf zcl13 (Nat.le_of_ble_eq_true rfl) dX13_parse_15 zw4146 ?_)
  refine s_iconst dX13_parse_18 (by decide +kernel) ?_
  refine rx_by (e_astI _ _ _) (s_iast hZ.1 (tt := 0) rfl dX13_parse_19 ?_)
  refine rx_by (e_ldR _ _) (s_aload_n hZ.1 dX13_parse_20 rfl ?_)
  refine rx_by (e_getf _ _ _) (s_getf zcl13 (Nat.le_of_ble_eq_true rfl) dX13_parse_21 zw4196 ?_)
  refine rx_by (e_ldR _ _) (s_aload_n hZ.1 dX13_parse_24 rfl ?_)
  refine rx_by (e_getf _ _ _) (s_getf zcl13 (Nat.le_of_ble_eq_true rfl) dX13_parse_25 zw4146 ?_)
  refine s_iconst dX13_parse_28 (by decide +kernel) ?_
  refine rx_by (e_astI _ _ _) (s_iast hZ.1 (tt := 0) rfl dX13_parse_29 ?_)
  refine rx_by (e_ldR _ _) (s_aload_n hZ.1 dX13_parse_30 rfl ?_)
  refine rx_by (e_getf _ _ _) (s_getf zcl13 (Nat.le_of_ble_eq_true rfl) dX13_parse_31 zw4147 ?_)
  exact rx_by (e_eq1 _ _) (s_if_ne dX13_parse_34 (by decide) (kX13_parse_55 hZ) (kX13_parse_37 hZ))
noncomputable def fX13_parse : List Nat → rx_H → Option (Nat × rx_H) := rx_ent 1 bX13_parse_0
theorem met_X13_parse (hZ : zO b e D A X) : rx_Met (zV b e D A X) 1 yX13_parse mX13_parse fX13_parse := rx_entry hZ.1 (kX13_parse_0 hZ) (by decide +kernel) rfl (fun h => by cases h)
theorem zy_X13_parse : rx_Y (zV b e D A X) yX13_parse mX13_parse 0 := ⟨zw2973, zw431, by decide, by decide +kernel, by decide +kernel, by decide +kernel⟩
abbrev mX13_heads : rx_M := (RX13, cX13_heads, 3, none, false)
noncomputable def bX13_heads_99 : rx_K := o_ret0
set_option maxRecDepth 20000 in
theorem kX13_heads_99 (hZ : zO b e D A X) : rx_OK (zV b e D A X) mX13_heads 0 99 bX13_heads_99 := by
  unfold bX13_heads_99
  exact s_vret rfl dX13_heads_99
noncomputable def bX13_heads_41 : rx_K := o_const 0 (q_st q_isI 1 (q_ld q_isI 1 (q_ld q_isR 0 (q_getf 13 23 (q_ld q_isR 0 (q_getf 13 19 (q_ald 0 (q_lt2 o_none bX13_heads_99))))))))
set_option maxRecDepth 20000 in
theorem kX13_heads_41 (hZ : zO b e D A X) : rx_OK (zV b e D A X) mX13_heads 0 41 bX13_heads_41 := by
  unfold bX13_heads_41
  refine s_iconst dX13_heads_41 (by decide +kernel) ?_
  refine rx_by (e_stI _ _) (s_istore_n hZ.1 dX13_heads_42 rfl (Nat.le_of_ble_eq_true rfl) ?_)
  refine rx_by (e_ldI _ _) (s_iload_n hZ.1 dX13_heads_43 rfl ?_)
  refine rx_by (e_ldR _ _) (s_aload_n hZ.1 dX13_heads_44 rfl ?_)
  refine rx_by (e_getf _ _ _) (s_getf zcl13 (Nat.le_of_ble_eq_true rfl) dX13_heads_45 zw4150 ?_)
  refine rx_by (e_ldR _ _) (s_aload_n hZ.1 dX13_heads_48 rfl ?_)
  refine rx_by (e_getf _ _ _) (s_getf zcl13 (Nat.le_of_ble_eq_true rfl) dX13_heads_49 zw4146 ?_)
  refine rx_by (e_ald _ _) (s_iald (tt := 0) rfl dX13_heads_52 ?_)
  exact rx_by (e_lt2 _ _) (s_icmp_ge dX13_heads_53 (by decide) (kX13_heads_99 hZ) (s_none (pc := 56)))
noncomputable def bX13_heads_0 : rx_K := o_const 0 (q_st q_isI 1 (q_ld q_isI 1 (q_ld q_isR 0 (q_getf 13 23 (q_ld q_isR 0 (q_getf 13 19 (q_ald 0 (q_lt2 o_none bX13_heads_41))))))))
set_option maxRecDepth 20000 in
theorem kX13_heads_0 (hZ : zO b e D A X) : rx_OK (zV b e D A X) mX13_heads 0 0 bX13_heads_0 := by
  unfold bX13_heads_0
  refine s_iconst dX13_heads_0 (by decide +kernel) ?_
  refine rx_by (e_stI _ _) (s_istore_n hZ.1 dX13_heads_1 rfl (Nat.le_of_ble_eq_true rfl) ?_)
  refine rx_by (e_ldI _ _) (s_iload_n hZ.1 dX13_heads_2 rfl ?_)
  refine rx_by (e_ldR _ _) (s_aload_n hZ.1 dX13_heads_3 rfl ?_)
  refine rx_by (e_getf _ _ _) (s_getf zcl13 (Nat.le_of_ble_eq_true rfl) dX13_heads_4 zw4150 ?_)
  refine rx_by (e_ldR _ _) (s_aload_n hZ.1 dX13_heads_7 rfl ?_)
  refine rx_by (e_getf _ _ _) (s_getf zcl13 (Nat.le_of_ble_eq_true rfl) dX13_heads_8 zw4146 ?_)
  refine rx_by (e_ald _ _) (s_iald (tt := 0) rfl dX13_heads_11 ?_)
  exact rx_by (e_lt2 _ _) (s_icmp_ge dX13_heads_12 (by decide) (kX13_heads_41 hZ) (s_none (pc := 15)))
noncomputable def fX13_heads : List Nat → rx_H → Option (Nat × rx_H) := rx_ent 3 bX13_heads_0
theorem met_X13_heads (hZ : zO b e D A X) : rx_Met (zV b e D A X) 0 yX13_heads mX13_heads fX13_heads := rx_entry hZ.1 (kX13_heads_0 hZ) (by decide +kernel) rfl (fun h => by cases h)
theorem zy_X13_heads : rx_Y (zV b e D A X) yX13_heads mX13_heads 0 := ⟨zw3173, zw431, by decide, by decide +kernel, by decide +kernel, by decide +kernel⟩
abbrev mX13_membersOf : rx_M := (RX13, cX13_membersOf, 8, none, false)
noncomputable def bX13_membersOf_320 : rx_K := o_ret0
set_option maxRecDepth 20000 in
theorem kX13_membersOf_320 (hZ : zO b e D A X) : rx_OK (zV b e D A X) mX13_membersOf 0 320 bX13_membersOf_320 := by
  unfold bX13_membersOf_320
  exact s_vret rfl dX13_membersOf_320
noncomputable def bX13_membersOf_0 : rx_K := o_const 0 (q_st q_isI 1 (q_ld q_isI 1 (q_ld q_isR 0 (q_getf 13 23 (q_ld q_isR 0 (q_getf 13 19 (q_ald 0 (q_lt2 o_none bX13_membersOf_320))))))))
set_option maxRecDepth 20000 in
theorem kX13_membersOf_0 (hZ : zO b e D A X) : rx_OK (zV b e D A X) mX13_membersOf 0 0 bX13_membersOf_0 := by
  unfold bX13_membersOf_0
  refine s_iconst dX13_membersOf_0 (by decide +kernel) ?_
  refine rx_by (e_stI _ _) (s_istore_n hZ.1 dX13_membersOf_1 rfl (Nat.le_of_ble_eq_true rfl) ?_)
  refine rx_by (e_ldI _ _) (s_iload_n hZ.1 dX13_membersOf_2 rfl ?_)
  refine rx_by (e_ldR _ _) (s_aload_n hZ.1 dX13_membersOf_3 rfl ?_)
  refine rx_by (e_getf _ _ _) (s_getf zcl13 (Nat.le_of_ble_eq_true rfl) dX13_membersOf_4 zw4150 ?_)
  refine rx_by (e_ldR _ _) (s_aload_n hZ.1 dX13_membersOf_7 rfl ?_)
  refine rx_by (e_getf _ _ _) (s_getf zcl13 (Nat.le_of_ble_eq_true rfl) dX13_membersOf_8 zw4146 ?_)
  refine rx_by (e_ald _ _) (s_iald (tt := 0) rfl dX13_membersOf_11 ?_)
  exact rx_by (e_lt2 _ _) (s_icmp_ge dX13_membersOf_12 (by decide) (kX13_membersOf_320 hZ) (s_none (pc := 15)))
noncomputable def fX13_membersOf : List Nat → rx_H → Option (Nat × rx_H) := rx_ent 8 bX13_membersOf_0
theorem met_X13_membersOf (hZ : zO b e D A X) : rx_Met (zV b e D A X) 0 yX13_membersOf mX13_membersOf fX13_membersOf := rx_entry hZ.1 (kX13_membersOf_0 hZ) (by decide +kernel) rfl (fun h => by cases h)
theorem zy_X13_membersOf : rx_Y (zV b e D A X) yX13_membersOf mX13_membersOf 0 := ⟨zw3231, zw431, by decide, by decide +kernel, by decide +kernel, by decide +kernel⟩
abbrev mX13_againstAbove : rx_M := (RX13, cX13_againstAbove, 6, none, false)
noncomputable def bX13_againstAbove_135 : rx_K := o_ret0
set_option maxRecDepth 20000 in
theorem kX13_againstAbove_135 (hZ : zO b e D A X) : rx_OK (zV b e D A X) mX13_againstAbove 0 135 bX13_againstAbove_135 := by
  unfold bX13_againstAbove_135
  exact s_vret rfl dX13_againstAbove_135
noncomputable def bX13_againstAbove_0 : rx_K := o_const 0 (q_st q_isI 1 (q_ld q_isI 1 (q_ld q_isR 0 (q_getf 13 23 (q_ld q_isR 0 (q_getf 13 19 (q_ald 0 (q_lt2 o_none bX13_againstAbove_135))))))))
set_option maxRecDepth 20000 in
theorem kX13_againstAbove_0 (hZ : zO b e D A X) : rx_OK (zV b e D A X) mX13_againstAbove 0 0 bX13_againstAbove_0 := by
  unfold bX13_againstAbove_0
  refine s_iconst dX13_againstAbove_0 (by decide +kernel) ?_
  refine rx_by (e_stI _ _) (s_istore_n hZ.1 dX13_againstAbove_1 rfl (Nat.le_of_ble_eq_true rfl) ?_)
  refine rx_by (e_ldI _ _) (s_iload_n hZ.1 dX13_againstAbove_2 rfl ?_)
  refine rx_by (e_ldR _ _) (s_aload_n hZ.1 dX13_againstAbove_3 rfl ?_)
  refine rx_by (e_getf _ _ _) (s_getf zcl13 (Nat.le_of_ble_eq_true rfl) dX13_againstAbove_4 zw4150 ?_)
  refine rx_by (e_ldR _ _) (s_aload_n hZ.1 dX13_againstAbove_7 rfl ?_)
  refine rx_by (e_getf _ _ _) (s_getf zcl13 (Nat.le_of_ble_eq_true rfl) dX13_againstAbove_8 zw4146 ?_)
  refine rx_by (e_ald _ _) (s_iald (tt := 0) rfl dX13_againstAbove_11 ?_)
  exact rx_by (e_lt2 _ _) (s_icmp_ge dX13_againstAbove_12 (by decide) (kX13_againstAbove_135 hZ) (s_none (pc := 15)))
noncomputable def fX13_againstAbove : List Nat → rx_H → Option (Nat × rx_H) := rx_ent 6 bX13_againstAbove_0
theorem met_X13_againstAbove (hZ : zO b e D A X) : rx_Met (zV b e D A X) 0 yX13_againstAbove mX13_againstAbove fX13_againstAbove := rx_entry hZ.1 (kX13_againstAbove_0 hZ) (by decide +kernel) rfl (fun h => by cases h)
theorem zy_X13_againstAbove : rx_Y (zV b e D A X) yX13_againstAbove mX13_againstAbove 0 := ⟨zw3254, zw431, by decide, by decide +kernel, by decide +kernel, by decide +kernel⟩
abbrev mX13_makersAndBridges : rx_M := (RX13, cX13_makersAndBridges, 5, none, false)
noncomputable def bX13_makersAndBridges_223 : rx_K := o_ret0
set_option maxRecDepth 20000 in
theorem kX13_makersAndBridges_223 (hZ : zO b e D A X) : rx_OK (zV b e D A X) mX13_makersAndBridges 0 223 bX13_makersAndBridges_223 := by
  unfold bX13_makersAndBridges_223
  exact s_vret rfl dX13_makersAndBridges_223
noncomputable def bX13_makersAndBridges_182 : rx_K := o_const 0 (q_st q_isI 1 (q_ld q_isI 1 (q_ld q_isR 0 (q_getf 13 23 (q_ld q_isR 0 (q_getf 13 19 (q_ald 0 (q_lt2 o_none bX13_makersAndBridges_223))))))))
set_option maxRecDepth 20000 in
theorem kX13_makersAndBridges_182 (hZ : zO b e D A X) : rx_OK (zV b e D A X) mX13_makersAndBridges 0 182 bX13_makersAndBridges_182 := by
  unfold bX13_makersAndBridges_182
  refine s_iconst dX13_makersAndBridges_182 (by decide +kernel) ?_
  refine rx_by (e_stI _ _) (s_istore_n hZ.1 dX13_makersAndBridges_183 rfl (Nat.le_of_ble_eq_true rfl) ?_)
  refine rx_by (e_ldI _ _) (s_iload_n hZ.1 dX13_makersAndBridges_184 rfl ?_)
  refine rx_by (e_ldR _ _) (s_aload_n hZ.1 dX13_makersAndBridges_185 rfl ?_)
  refine rx_by (e_getf _ _ _) (s_getf zcl13 (Nat.le_of_ble_eq_true rfl) dX13_makersAndBridges_186 zw4150 ?_)
  refine rx_by (e_ldR _ _) (s_aload_n hZ.1 dX13_makersAndBridges_189 rfl ?_)
  refine rx_by (e_getf _ _ _) (s_getf zcl13 (Nat.le_of_ble_eq_true rfl) dX13_makersAndBridges_190 zw4146 ?_)
  refine rx_by (e_ald _ _) (s_iald (tt := 0) rfl dX13_makersAndBridges_193 ?_)
  exact rx_by (e_lt2 _ _) (s_icmp_ge dX13_makersAndBridges_194 (by decide) (kX13_makersAndBridges_223 hZ) (s_none (pc := 197)))
noncomputable def bX13_makersAndBridges_0 : rx_K := o_const 0 (q_st q_isI 1 (q_ld q_isI 1 (q_ld q_isR 0 (q_getf 13 23 (q_ld q_isR 0 (q_getf 13 19 (q_ald 0 (q_lt2 o_none bX13_makersAndBridges_182))))))))
set_option maxRecDepth 20000 in
theorem kX13_makersAndBridges_0 (hZ : zO b e D A X) : rx_OK (zV b e D A X) mX13_makersAndBridges 0 0 bX13_makersAndBridges_0 := by
  unfold bX13_makersAndBridges_0
  refine s_iconst dX13_makersAndBridges_0 (by decide +kernel) ?_
  refine rx_by (e_stI _ _) (s_istore_n hZ.1 dX13_makersAndBridges_1 rfl (Nat.le_of_ble_eq_true rfl) ?_)
  refine rx_by (e_ldI _ _) (s_iload_n hZ.1 dX13_makersAndBridges_2 rfl ?_)
  refine rx_by (e_ldR _ _) (s_aload_n hZ.1 dX13_makersAndBridges_3 rfl ?_)
  refine rx_by (e_getf _ _ _) (s_getf zcl13 (Nat.le_of_ble_eq_true rfl) dX13_makersAndBridges_4 zw4150 ?_)
  refine rx_by (e_ldR _ _) (s_aload_n hZ.1 dX13_makersAndBridges_7 rfl ?_)
  refine rx_by (e_getf _ _ _) (s_getf zcl13 (Nat.le_of_ble_eq_true rfl) dX13_makersAndBridges_8 zw4146 ?_)
  refine rx_by (e_ald _ _) (s_iald (tt := 0) rfl dX13_makersAndBridges_11 ?_)
  exact rx_by (e_lt2 _ _) (s_icmp_ge dX13_makersAndBridges_12 (by decide) (kX13_makersAndBridges_182 hZ) (s_none (pc := 15)))
noncomputable def fX13_makersAndBridges : List Nat → rx_H → Option (Nat × rx_H) := rx_ent 5 bX13_makersAndBridges_0
theorem met_X13_makersAndBridges (hZ : zO b e D A X) : rx_Met (zV b e D A X) 0 yX13_makersAndBridges mX13_makersAndBridges fX13_makersAndBridges := rx_entry hZ.1 (kX13_makersAndBridges_0 hZ) (by decide +kernel) rfl (fun h => by cases h)
theorem zy_X13_makersAndBridges : rx_Y (zV b e D A X) yX13_makersAndBridges mX13_makersAndBridges 0 := ⟨zw3290, zw431, by decide, by decide +kernel, by decide +kernel, by decide +kernel⟩
abbrev mX13_lacking : rx_M := (RX13, cX13_lacking, 6, none, false)
noncomputable def bX13_lacking_135 : rx_K := o_ret0
set_option maxRecDepth 20000 in
theorem kX13_lacking_135 (hZ : zO b e D A X) : rx_OK (zV b e D A X) mX13_lacking 0 135 bX13_lacking_135 := by
  unfold bX13_lacking_135
  exact s_vret rfl dX13_lacking_135
noncomputable def bX13_lacking_0 : rx_K := o_const 0 (q_st q_isI 1 (q_ld q_isI 1 (q_ld q_isR 0 (q_getf 13 23 (q_ld q_isR 0 (q_getf 13 19 (q_ald 0 (q_lt2 o_none bX13_lacking_135))))))))
set_option maxRecDepth 20000 in
theorem kX13_lacking_0 (hZ : zO b e D A X) : rx_OK (zV b e D A X) mX13_lacking 0 0 bX13_lacking_0 := by
  unfold bX13_lacking_0
  refine s_iconst dX13_lacking_0 (by decide +kernel) ?_
  refine rx_by (e_stI _ _) (s_istore_n hZ.1 dX13_lacking_1 rfl (Nat.le_of_ble_eq_true rfl) ?_)
  refine rx_by (e_ldI _ _) (s_iload_n hZ.1 dX13_lacking_2 rfl ?_)
  refine rx_by (e_ldR _ _) (s_aload_n hZ.1 dX13_lacking_3 rfl ?_)
  refine rx_by (e_getf _ _ _) (s_getf zcl13 (Nat.le_of_ble_eq_true rfl) dX13_lacking_4 zw4150 ?_)
  refine rx_by (e_ldR _ _) (s_aload_n hZ.1 dX13_lacking_7 rfl ?_)
  refine rx_by (e_getf _ _ _) (s_getf zcl13 (Nat.le_of_ble_eq_true rfl) dX13_lacking_8 zw4146 ?_)
  refine rx_by (e_ald _ _) (s_iald (tt := 0) rfl dX13_lacking_11 ?_)
  exact rx_by (e_lt2 _ _) (s_icmp_ge dX13_lacking_12 (by decide) (kX13_lacking_135 hZ) (s_none (pc := 15)))
noncomputable def fX13_lacking : List Nat → rx_H → Option (Nat × rx_H) := rx_ent 6 bX13_lacking_0
theorem met_X13_lacking (hZ : zO b e D A X) : rx_Met (zV b e D A X) 0 yX13_lacking mX13_lacking fX13_lacking := rx_entry hZ.1 (kX13_lacking_0 hZ) (by decide +kernel) rfl (fun h => by cases h)
theorem zy_X13_lacking : rx_Y (zV b e D A X) yX13_lacking mX13_lacking 0 := ⟨zw3314, zw431, by decide, by decide +kernel, by decide +kernel, by decide +kernel⟩
abbrev mX13_constants : rx_M := (RX13, cX13_constants, 7, none, false)
noncomputable def bX13_constants_176 : rx_K := o_ret0
set_option maxRecDepth 20000 in
theorem kX13_constants_176 (hZ : zO b e D A X) : rx_OK (zV b e D A X) mX13_constants 0 176 bX13_constants_176 := by
  unfold bX13_constants_176
  exact s_vret rfl dX13_constants_176
noncomputable def bX13_constants_0 : rx_K := o_const 0 (q_st q_isI 1 (q_ld q_isI 1 (q_ld q_isR 0 (q_getf 13 23 (q_ld q_isR 0 (q_getf 13 19 (q_ald 0 (q_lt2 o_none bX13_constants_176))))))))
set_option maxRecDepth 20000 in
theorem kX13_constants_0 (hZ : zO b e D A X) : rx_OK (zV b e D A X) mX13_constants 0 0 bX13_constants_0 := by
  unfold bX13_constants_0
  refine s_iconst dX13_constants_0 (by decide +kernel) ?_
  refine rx_by (e_stI _ _) (s_istore_n hZ.1 dX13_constants_1 rfl (Nat.le_of_ble_eq_true rfl) ?_)
  refine rx_by (e_ldI _ _) (s_iload_n hZ.1 dX13_constants_2 rfl ?_)
  refine rx_by (e_ldR _ _) (s_aload_n hZ.1 dX13_constants_3 rfl ?_)
  refine rx_by (e_getf _ _ _) (s_getf zcl13 (Nat.le_of_ble_eq_true rfl) dX13_constants_4 zw4150 ?_)
  refine rx_by (e_ldR _ _) (s_aload_n hZ.1 dX13_constants_7 rfl ?_)
  refine rx_by (e_getf _ _ _) (s_getf zcl13 (Nat.le_of_ble_eq_true rfl) dX13_constants_8 zw4146 ?_)
  refine rx_by (e_ald _ _) (s_iald (tt := 0) rfl dX13_constants_11 ?_)
  exact rx_by (e_lt2 _ _) (s_icmp_ge dX13_constants_12 (by decide) (kX13_constants_176 hZ) (s_none (pc := 15)))
noncomputable def fX13_constants : List Nat → rx_H → Option (Nat × rx_H) := rx_ent 7 bX13_constants_0
theorem met_X13_constants (hZ : zO b e D A X) : rx_Met (zV b e D A X) 0 yX13_constants mX13_constants fX13_constants := rx_entry hZ.1 (kX13_constants_0 hZ) (by decide +kernel) rfl (fun h => by cases h)
theorem zy_X13_constants : rx_Y (zV b e D A X) yX13_constants mX13_constants 0 := ⟨zw3338, zw431, by decide, by decide +kernel, by decide +kernel, by decide +kernel⟩
abbrev mX13_bodies : rx_M := (RX13, cX13_bodies, 4, none, false)
noncomputable def bX13_bodies_88 : rx_K := o_ret0
set_option maxRecDepth 20000 in
theorem kX13_bodies_88 (hZ : zO b e D A X) : rx_OK (zV b e D A X) mX13_bodies 0 88 bX13_bodies_88 := by
  unfold bX13_bodies_88
  exact s_vret rfl dX13_bodies_88
noncomputable def bX13_bodies_0 : rx_K := o_const 0 (q_st q_isI 1 (q_ld q_isI 1 (q_ld q_isR 0 (q_getf 13 23 (q_ld q_isR 0 (q_getf 13 19 (q_ald 0 (q_lt2 o_none bX13_bodies_88))))))))
set_option maxRecDepth 20000 in
theorem kX13_bodies_0 (hZ : zO b e D A X) : rx_OK (zV b e D A X) mX13_bodies 0 0 bX13_bodies_0 := by
  unfold bX13_bodies_0
  refine s_iconst dX13_bodies_0 (by decide +kernel) ?_
  refine rx_by (e_stI _ _) (s_istore_n hZ.1 dX13_bodies_1 rfl (Nat.le_of_ble_eq_true rfl) ?_)
  refine rx_by (e_ldI _ _) (s_iload_n hZ.1 dX13_bodies_2 rfl ?_)
  refine rx_by (e_ldR _ _) (s_aload_n hZ.1 dX13_bodies_3 rfl ?_)
  refine rx_by (e_getf _ _ _) (s_getf zcl13 (Nat.le_of_ble_eq_true rfl) dX13_bodies_4 zw4150 ?_)
  refine rx_by (e_ldR _ _) (s_aload_n hZ.1 dX13_bodies_7 rfl ?_)
  refine rx_by (e_getf _ _ _) (s_getf zcl13 (Nat.le_of_ble_eq_true rfl) dX13_bodies_8 zw4146 ?_)
  refine rx_by (e_ald _ _) (s_iald (tt := 0) rfl dX13_bodies_11 ?_)
  exact rx_by (e_lt2 _ _) (s_icmp_ge dX13_bodies_12 (by decide) (kX13_bodies_88 hZ) (s_none (pc := 15)))
noncomputable def fX13_bodies : List Nat → rx_H → Option (Nat × rx_H) := rx_ent 4 bX13_bodies_0
theorem met_X13_bodies (hZ : zO b e D A X) : rx_Met (zV b e D A X) 0 yX13_bodies mX13_bodies fX13_bodies := rx_entry hZ.1 (kX13_bodies_0 hZ) (by decide +kernel) rfl (fun h => by cases h)
theorem zy_X13_bodies : rx_Y (zV b e D A X) yX13_bodies mX13_bodies 0 := ⟨zw3397, zw431, by decide, by decide +kernel, by decide +kernel, by decide +kernel⟩
abbrev mX13_usesOfAll : rx_M := (RX13, cX13_usesOfAll, 2, none, false)
noncomputable def bX13_usesOfAll_44 : rx_K := o_ret0
set_option maxRecDepth 20000 in
theorem kX13_usesOfAll_44 (hZ : zO b e D A X) : rx_OK (zV b e D A X) mX13_usesOfAll 0 44 bX13_usesOfAll_44 := by
  unfold bX13_usesOfAll_44
  exact s_vret rfl dX13_usesOfAll_44
noncomputable def bX13_usesOfAll_0 : rx_K := q_ld q_isR 0 (q_getf 13 118 (q_ld q_isR 0 (q_getf 13 19 (o_const 0 (q_ast 0 (fun v => v) q_isI (o_const 0 (q_st q_isI 1 (q_ld q_isI 1 (q_ld q_isR 0 (q_getf 13 23 (q_ld q_isR 0 (q_getf 13 19 (q_ald 0 (q_lt2 o_none bX13_usesOfAll_44))))))))))))))
set_option maxRecDepth 20000 in
theorem kX13_usesOfAll_0 (hZ : zO b e D A X) : rx_OK (zV b e D A X) mX13_usesOfAll 0 0 bX13_usesOfAll_0 := by
  unfold bX13_usesOfAll_0
  refine rx_by (e_ldR _ _) (s_aload_n hZ.1 dX13_usesOfAll_0 rfl ?_)
  refine rx_by (e_getf _ _ _) (s_getf zcl13 (Nat.le_of_ble_eq_true rfl) dX13_usesOfAll_1 zw4244 ?_)
  refine rx_by (e_ldR _ _) (s_aload_n hZ.1 dX13_usesOfAll_4 rfl ?_)
  refine rx_by (e_getf _ _ _) (s_getf zcl13 (Nat.le_of_ble_eq_true rfl) dX13_usesOfAll_5 zw4146 ?_)
  refine s_iconst dX13_usesOfAll_8 (by decide +kernel) ?_
  refine rx_by (e_astI _ _ _) (s_iast hZ.1 (tt := 0) rfl dX13_usesOfAll_9 ?_)
  refine s_iconst dX13_usesOfAll_10 (by decide +kernel) ?_
  refine rx_by (e_stI _ _) (s_istore_n hZ.1 dX13_usesOfAll_11 rfl (Nat.le_of_ble_eq_true rfl) ?_)
  refine rx_by (e_ldI _ _) (s_iload_n hZ.1 dX13_usesOfAll_12 rfl ?_)
  refine rx_by (e_ldR _ _) (s_aload_n hZ.1 dX13_usesOfAll_13 rfl ?_)
  refine rx_by (e_getf _ _ _) (s_getf zcl13 (Nat.le_of_ble_eq_true rfl) dX13_usesOfAll_14 zw4150 ?_)
  refine rx_by (e_ldR _ _) (s_aload_n hZ.1 dX13_usesOfAll_17 rfl ?_)
  refine rx_by (e_getf _ _ _) (s_getf zcl13 (Nat.le_of_ble_eq_true rfl) dX13_usesOfAll_18 zw4146 ?_)
  refine rx_by (e_ald _ _) (s_iald (tt := 0) rfl dX13_usesOfAll_21 ?_)
  exact rx_by (e_lt2 _ _) (s_icmp_ge dX13_usesOfAll_22 (by decide) (kX13_usesOfAll_44 hZ) (s_none (pc := 25)))
noncomputable def fX13_usesOfAll : List Nat → rx_H → Option (Nat × rx_H) := rx_ent 2 bX13_usesOfAll_0
theorem met_X13_usesOfAll (hZ : zO b e D A X) : rx_Met (zV b e D A X) 0 yX13_usesOfAll mX13_usesOfAll fX13_usesOfAll := rx_entry hZ.1 (kX13_usesOfAll_0 hZ) (by decide +kernel) rfl (fun h => by cases h)
theorem zy_X13_usesOfAll : rx_Y (zV b e D A X) yX13_usesOfAll mX13_usesOfAll 0 := ⟨zw3512, zw431, by decide, by decide +kernel, by decide +kernel, by decide +kernel⟩
abbrev mX13_judgeAll : rx_M := (RX13, cX13_judgeAll, 1, none, false)
noncomputable def bX13_judgeAll_82 : rx_K := q_ld q_isR 0 (o_const 34359738352 (q_putf q_isI 13 91 (o_ret0)))
set_option maxRecDepth 20000 in
theorem kX13_judgeAll_82 (hZ : zO b e D A X) : rx_OK (zV b e D A X) mX13_judgeAll 1 82 bX13_judgeAll_82 := by
  unfold bX13_judgeAll_82
  refine rx_by (e_ldR _ _) (s_aload_n hZ.1 dX13_judgeAll_82 rfl ?_)
  refine s_bipush dX13_judgeAll_83 (by decide +kernel) ?_
  refine rx_by (e_putf _ _ _ _) (s_putf hZ.1 zcl13 (Nat.le_of_ble_eq_true rfl) (Or.inl rfl) dX13_judgeAll_85 zw4218 c_int ?_)
  exact s_vret rfl dX13_judgeAll_88
noncomputable def bX13_judgeAll_78 : rx_K := q_ld q_isR 0 (o_callV 0 13 fX13_usesOfAll (bX13_judgeAll_82))
set_option maxRecDepth 20000 in
theorem kX13_judgeAll_78 (hZ : zO b e D A X) : rx_OK (zV b e D A X) mX13_judgeAll 1 78 bX13_judgeAll_78 := by
  unfold bX13_judgeAll_78
  refine rx_by (e_ldR _ _) (s_aload_n hZ.1 dX13_judgeAll_78 rfl ?_)
  refine s_callV hZ.1 (met_X13_usesOfAll hZ) (by decide) zy_X13_usesOfAll zcl13 zw3511 zw300 (Or.inl zw3509) dX13_judgeAll_79 ?_
  exact (kX13_judgeAll_82 hZ)
noncomputable def bX13_judgeAll_71 : rx_K := q_ld q_isR 0 (q_getf 13 20 (q_eq1 bX13_judgeAll_78 bX13_judgeAll_82))
set_option maxRecDepth 20000 in
theorem kX13_judgeAll_71 (hZ : zO b e D A X) : rx_OK (zV b e D A X) mX13_judgeAll 1 71 bX13_judgeAll_71 := by
  unfold bX13_judgeAll_71
  refine rx_by (e_ldR _ _) (s_aload_n hZ.1 dX13_judgeAll_71 rfl ?_)
  refine rx_by (e_getf _ _ _) (s_getf zcl13 (Nat.le_of_ble_eq_true rfl) dX13_judgeAll_72 zw4147 ?_)
  exact rx_by (e_eq1 _ _) (s_if_ne dX13_judgeAll_75 (by decide) (kX13_judgeAll_82 hZ) (kX13_judgeAll_78 hZ))
noncomputable def bX13_judgeAll_63 : rx_K := q_ld q_isR 0 (o_callV 0 13 fX13_constants (q_ld q_isR 0 (o_callV 0 13 fX13_bodies (bX13_judgeAll_71))))
set_option maxRecDepth 20000 in
theorem kX13_judgeAll_63 (hZ : zO b e D A X) : rx_OK (zV b e D A X) mX13_judgeAll 1 63 bX13_judgeAll_63 := by
  unfold bX13_judgeAll_63
  refine rx_by (e_ldR _ _) (s_aload_n hZ.1 dX13_judgeAll_63 rfl ?_)
  refine s_callV hZ.1 (met_X13_constants hZ) (by decide) zy_X13_constants zcl13 zw3337 zw259 (Or.inl zw3335) dX13_judgeAll_64 ?_
  refine rx_by (e_ldR _ _) (s_aload_n hZ.1 dX13_judgeAll_67 rfl ?_)
  refine s_callV hZ.1 (met_X13_bodies hZ) (by decide) zy_X13_bodies zcl13 zw3396 zw272 (Or.inl zw3394) dX13_judgeAll_68 ?_
  exact (kX13_judgeAll_71 hZ)
noncomputable def bX13_judgeAll_56 : rx_K := q_ld q_isR 0 (q_getf 13 20 (q_eq1 bX13_judgeAll_63 bX13_judgeAll_71))
set_option maxRecDepth 20000 in
theorem kX13_judgeAll_56 (hZ : zO b e D A X) : rx_OK (zV b e D A X) mX13_judgeAll 1 56 bX13_judgeAll_56 := by
  unfold bX13_judgeAll_56
  refine rx_by (e_ldR _ _) (s_aload_n hZ.1 dX13_judgeAll_56 rfl ?_)
  refine rx_by (e_getf _ _ _) (s_getf zcl13 (Nat.le_of_ble_eq_true rfl) dX13_judgeAll_57 zw4147 ?_)
  exact rx_by (e_eq1 _ _) (s_if_ne dX13_judgeAll_60 (by decide) (kX13_judgeAll_71 hZ) (kX13_judgeAll_63 hZ))
noncomputable def bX13_judgeAll_52 : rx_K := q_ld q_isR 0 (o_callV 0 13 fX13_lacking (bX13_judgeAll_56))
set_option maxRecDepth 20000 in
theorem kX13_judgeAll_52 (hZ : zO b e D A X) : rx_OK (zV b e D A X) mX13_judgeAll 1 52 bX13_judgeAll_52 := by
  unfold bX13_judgeAll_52
  refine rx_by (e_ldR _ _) (s_aload_n hZ.1 dX13_judgeAll_52 rfl ?_)
  refine s_callV hZ.1 (met_X13_lacking hZ) (by decide) zy_X13_lacking zcl13 zw3313 zw253 (Or.inl zw3311) dX13_judgeAll_53 ?_
  exact (kX13_judgeAll_56 hZ)
noncomputable def bX13_judgeAll_45 : rx_K := q_ld q_isR 0 (q_getf 13 20 (q_eq1 bX13_judgeAll_52 bX13_judgeAll_56))
set_option maxRecDepth 20000 in
theorem kX13_judgeAll_45 (hZ : zO b e D A X) : rx_OK (zV b e D A X) mX13_judgeAll 1 45 bX13_judgeAll_45 := by
  unfold bX13_judgeAll_45
  refine rx_by (e_ldR _ _) (s_aload_n hZ.1 dX13_judgeAll_45 rfl ?_)
  refine rx_by (e_getf _ _ _) (s_getf zcl13 (Nat.le_of_ble_eq_true rfl) dX13_judgeAll_46 zw4147 ?_)
  exact rx_by (e_eq1 _ _) (s_if_ne dX13_judgeAll_49 (by decide) (kX13_judgeAll_56 hZ) (kX13_judgeAll_52 hZ))
noncomputable def bX13_judgeAll_41 : rx_K := q_ld q_isR 0 (o_callV 0 13 fX13_makersAndBridges (bX13_judgeAll_45))
set_option maxRecDepth 20000 in
theorem kX13_judgeAll_41 (hZ : zO b e D A X) : rx_OK (zV b e D A X) mX13_judgeAll 1 41 bX13_judgeAll_41 := by
  unfold bX13_judgeAll_41
  refine rx_by (e_ldR _ _) (s_aload_n hZ.1 dX13_judgeAll_41 rfl ?_)
  refine s_callV hZ.1 (met_X13_makersAndBridges hZ) (by decide) zy_X13_makersAndBridges zcl13 zw3289 zw247 (Or.inl zw3287) dX13_judgeAll_42 ?_
  exact (kX13_judgeAll_45 hZ)
noncomputable def bX13_judgeAll_34 : rx_K := q_ld q_isR 0 (q_getf 13 20 (q_eq1 bX13_judgeAll_41 bX13_judgeAll_45))
set_option maxRecDepth 20000 in
theorem kX13_judgeAll_34 (hZ : zO b e D A X) : rx_OK (zV b e D A X) mX13_judgeAll 1 34 bX13_judgeAll_34 := by
  unfold bX13_judgeAll_34
  refine rx_by (e_ldR _ _) (s_aload_n hZ.1 dX13_judgeAll_34 rfl ?_)
  refine rx_by (e_getf _ _ _) (s_getf zcl13 (Nat.le_of_ble_eq_true rfl) dX13_judgeAll_35 zw4147 ?_)
  exact rx_by (e_eq1 _ _) (s_if_ne dX13_judgeAll_38 (by decide) (kX13_judgeAll_45 hZ) (kX13_judgeAll_41 hZ))
noncomputable def bX13_judgeAll_30 : rx_K := q_ld q_isR 0 (o_callV 0 13 fX13_againstAbove (bX13_judgeAll_34))
set_option maxRecDepth 20000 in
theorem kX13_judgeAll_30 (hZ : zO b e D A X) : rx_OK (zV b e D A X) mX13_judgeAll 1 30 bX13_judgeAll_30 := by
  unfold bX13_judgeAll_30
  refine rx_by (e_ldR _ _) (s_aload_n hZ.1 dX13_judgeAll_30 rfl ?_)
  refine s_callV hZ.1 (met_X13_againstAbove hZ) (by decide) zy_X13_againstAbove zcl13 zw3253 zw239 (Or.inl zw3251) dX13_judgeAll_31 ?_
  exact (kX13_judgeAll_34 hZ)
noncomputable def bX13_judgeAll_23 : rx_K := q_ld q_isR 0 (q_getf 13 20 (q_eq1 bX13_judgeAll_30 bX13_judgeAll_34))
set_option maxRecDepth 20000 in
theorem kX13_judgeAll_23 (hZ : zO b e D A X) : rx_OK (zV b e D A X) mX13_judgeAll 1 23 bX13_judgeAll_23 := by
  unfold bX13_judgeAll_23
  refine rx_by (e_ldR _ _) (s_aload_n hZ.1 dX13_judgeAll_23 rfl ?_)
  refine rx_by (e_getf _ _ _) (s_getf zcl13 (Nat.le_of_ble_eq_true rfl) dX13_judgeAll_24 zw4147 ?_)
  exact rx_by (e_eq1 _ _) (s_if_ne dX13_judgeAll_27 (by decide) (kX13_judgeAll_34 hZ) (kX13_judgeAll_30 hZ))
noncomputable def bX13_judgeAll_19 : rx_K := q_ld q_isR 0 (o_callV 0 13 fX13_membersOf (bX13_judgeAll_23))
set_option maxRecDepth 20000 in
theorem kX13_judgeAll_19 (hZ : zO b e D A X) : rx_OK (zV b e D A X) mX13_judgeAll 1 19 bX13_judgeAll_19 := by
  unfold bX13_judgeAll_19
  refine rx_by (e_ldR _ _) (s_aload_n hZ.1 dX13_judgeAll_19 rfl ?_)
  refine s_callV hZ.1 (met_X13_membersOf hZ) (by decide) zy_X13_membersOf zcl13 zw3230 zw234 (Or.inl zw3228) dX13_judgeAll_20 ?_
  exact (kX13_judgeAll_23 hZ)
noncomputable def bX13_judgeAll_0 : rx_K := q_ld q_isR 0 (q_ld q_isR 0 (q_getf 13 19 (q_putf q_isI 13 91 (q_ld q_isR 0 (o_callV 0 13 fX13_heads (q_ld q_isR 0 (q_getf 13 20 (q_eq1 bX13_judgeAll_19 bX13_judgeAll_23))))))))
set_option maxRecDepth 20000 in
theorem kX13_judgeAll_0 (hZ : zO b e D A X) : rx_OK (zV b e D A X) mX13_judgeAll 1 0 bX13_judgeAll_0 := by
  unfold bX13_judgeAll_0
  refine rx_by (e_ldR _ _) (s_aload_n hZ.1 dX13_judgeAll_0 rfl ?_)
  refine rx_by (e_ldR _ _) (s_aload_n hZ.1 dX13_judgeAll_1 rfl ?_)
  refine rx_by (e_getf _ _ _) (s_getf zcl13 (Nat.le_of_ble_eq_true rfl) dX13_judgeAll_2 zw4146 ?_)
  refine rx_by (e_putf _ _ _ _) (s_putf hZ.1 zcl13 (Nat.le_of_ble_eq_true rfl) (Or.inl rfl) dX13_judgeAll_5 zw4218 c_int ?_)
  refine rx_by (e_ldR _ _) (s_aload_n hZ.1 dX13_judgeAll_8 rfl ?_)
  refine s_callV hZ.1 (met_X13_heads hZ) (by decide) zy_X13_heads zcl13 zw3172 zw223 (Or.inl zw3170) dX13_judgeAll_9 ?_
  refine rx_by (e_ldR _ _) (s_aload_n hZ.1 dX13_judgeAll_12 rfl ?_)
  refine rx_by (e_getf _ _ _) (s_getf zcl13 (Nat.le_of_ble_eq_true rfl) dX13_judgeAll_13 zw4147 ?_)
  exact rx_by (e_eq1 _ _) (s_if_ne dX13_judgeAll_16 (by decide) (kX13_judgeAll_23 hZ) (kX13_judgeAll_19 hZ))
noncomputable def fX13_judgeAll : List Nat → rx_H → Option (Nat × rx_H) := rx_ent 1 bX13_judgeAll_0
theorem met_X13_judgeAll (hZ : zO b e D A X) : rx_Met (zV b e D A X) 1 yX13_judgeAll mX13_judgeAll fX13_judgeAll := rx_entry hZ.1 (kX13_judgeAll_0 hZ) (by decide +kernel) rfl (fun h => by cases h)
theorem zy_X13_judgeAll : rx_Y (zV b e D A X) yX13_judgeAll mX13_judgeAll 0 := ⟨zw3169, zw431, by decide, by decide +kernel, by decide +kernel, by decide +kernel⟩
abbrev mX13_make : rx_M := (RX13, cX13_make, 3, (some .int), false)
noncomputable def bX13_make_207 : rx_K := o_const 8 (q_bi q_Fadd (q_putf q_isI 13 10 (q_ld q_isR 0 (q_getf 13 9 (q_ld q_isI 1 (q_ald 0 (o_const 8 (q_bi q_Fsub (o_ret1 rx_isI)))))))))
set_option maxRecDepth 20000 in
theorem kX13_make_207 (hZ : zO b e D A X) : rx_OK (zV b e D A X) mX13_make 2 207 bX13_make_207 := by
  unfold bX13_make_207
  refine s_iconst dX13_make_207 (by decide +kernel) ?_
  refine rx_by (e_add _) (s_iadd dX13_make_208 ?_)
  refine rx_by (e_putf _ _ _ _) (s_putf hZ.1 zcl13 (Nat.le_of_ble_eq_true rfl) (Or.inl rfl) dX13_make_209 zw4137 c_int ?_)
  refine rx_by (e_ldR _ _) (s_aload_n hZ.1 dX13_make_212 rfl ?_)
  refine rx_by (e_getf _ _ _) (s_getf zcl13 (Nat.le_of_ble_eq_true rfl) dX13_make_213 zw4136 ?_)
  refine rx_by (e_ldI _ _) (s_iload_n hZ.1 dX13_make_216 rfl ?_)
  refine rx_by (e_ald _ _) (s_iald (tt := 0) rfl dX13_make_217 ?_)
  refine s_iconst dX13_make_218 (by decide +kernel) ?_
  refine rx_by (e_sub _) (s_isub dX13_make_219 ?_)
  exact s_iret hZ.1 rfl dX13_make_220
noncomputable def bX13_make_172 : rx_K := q_ld q_isR 0 (q_getf 13 8 (o_const 64 (q_ld q_isI 1 (q_bi q_Fmul (q_ld q_isR 0 (q_getf 13 9 (q_ld q_isI 1 (q_ald 0 (q_bi q_Fadd (q_ld q_isR 0 (q_getf 13 19 (q_ast 0 (fun v => v) q_isI (q_ld q_isR 0 (q_getf 13 9 (q_ld q_isI 1 (o_dup2 (q_ald 0 (o_const 8 (q_bi q_Fadd (q_ast 0 (fun v => v) q_isI (q_ld q_isR 0 (q_dup (q_getf 13 10 (bX13_make_207))))))))))))))))))))))))
set_option maxRecDepth 20000 in
theorem kX13_make_172 (hZ : zO b e D A X) : rx_OK (zV b e D A X) mX13_make 2 172 bX13_make_172 := by
  unfold bX13_make_172
  refine rx_by (e_ldR _ _) (s_aload_n hZ.1 dX13_make_172 rfl ?_)
  refine rx_by (e_getf _ _ _) (s_getf zcl13 (Nat.le_of_ble_eq_true rfl) dX13_make_173 zw4135 ?_)
  refine s_bipush dX13_make_176 (by decide +kernel) ?_
  refine rx_by (e_ldI _ _) (s_iload_n hZ.1 dX13_make_178 rfl ?_)
  refine rx_by (e_mul _) (s_imul dX13_make_179 ?_)
  refine rx_by (e_ldR _ _) (s_aload_n hZ.1 dX13_make_180 rfl ?_)
  refine rx_by (e_getf _ _ _) (s_getf zcl13 (Nat.le_of_ble_eq_true rfl) dX13_make_181 zw4136 ?_)
  refine rx_by (e_ldI _ _) (s_iload_n hZ.1 dX13_make_184 rfl ?_)
  refine rx_by (e_ald _ _) (s_iald (tt := 0) rfl dX13_make_185 ?_)
  refine rx_by (e_add _) (s_iadd dX13_make_186 ?_)
  refine rx_by (e_ldR _ _) (s_aload_n hZ.1 dX13_make_187 rfl ?_)
  refine rx_by (e_getf _ _ _) (s_getf zcl13 (Nat.le_of_ble_eq_true rfl) dX13_make_188 zw4146 ?_)
  refine rx_by (e_astI _ _ _) (s_iast hZ.1 (tt := 0) rfl dX13_make_191 ?_)
  refine rx_by (e_ldR _ _) (s_aload_n hZ.1 dX13_make_192 rfl ?_)
  refine rx_by (e_getf _ _ _) (s_getf zcl13 (Nat.le_of_ble_eq_true rfl) dX13_make_193 zw4136 ?_)
  refine rx_by (e_ldI _ _) (s_iload_n hZ.1 dX13_make_196 rfl ?_)
  refine s_dup2 hZ.1 dX13_make_197 ?_
  refine rx_by (e_ald _ _) (s_iald (tt := 0) rfl dX13_make_198 ?_)
  refine s_iconst dX13_make_199 (by decide +kernel) ?_
  refine rx_by (e_add _) (s_iadd dX13_make_200 ?_)
  refine rx_by (e_astI _ _ _) (s_iast hZ.1 (tt := 0) rfl dX13_make_201 ?_)
  refine rx_by (e_ldR _ _) (s_aload_n hZ.1 dX13_make_202 rfl ?_)
  refine rx_by (e_dup _) (s_dup hZ.1 dX13_make_203 ?_)
  refine rx_by (e_getf _ _ _) (s_getf zcl13 (Nat.le_of_ble_eq_true rfl) dX13_make_204 zw4137 ?_)
  exact (kX13_make_207 hZ)
noncomputable def bX13_make_154 : rx_K := q_putf q_isI 13 128 (q_ld q_isR 0 (q_getf 13 20 (q_eq1 bX13_make_172 o_none)))
set_option maxRecDepth 20000 in
theorem kX13_make_154 (hZ : zO b e D A X) : rx_OK (zV b e D A X) mX13_make 2 154 bX13_make_154 := by
  unfold bX13_make_154
  refine rx_by (e_putf _ _ _ _) (s_putf hZ.1 zcl13 (Nat.le_of_ble_eq_true rfl) (Or.inl rfl) dX13_make_154 zw4254 c_int ?_)
  refine rx_by (e_ldR _ _) (s_aload_n hZ.1 dX13_make_157 rfl ?_)
  refine rx_by (e_getf _ _ _) (s_getf zcl13 (Nat.le_of_ble_eq_true rfl) dX13_make_158 zw4147 ?_)
  exact rx_by (e_eq1 _ _) (s_if_eq dX13_make_161 (by decide) (kX13_make_172 hZ) (s_none (pc := 164)))
noncomputable def bX13_make_145 : rx_K := o_const 34359738352 (bX13_make_154)
set_option maxRecDepth 20000 in
theorem kX13_make_145 (hZ : zO b e D A X) : rx_OK (zV b e D A X) mX13_make 2 145 bX13_make_145 := by
  unfold bX13_make_145
  refine s_bipush dX13_make_145 (by decide +kernel) ?_
  exact s_goto dX13_make_147 (by decide) (kX13_make_154 hZ)
noncomputable def bX13_make_137 : rx_K := q_ld q_isR 0 (q_ld q_isR 0 (q_getf 13 20 (q_eq1 bX13_make_145 o_none)))
set_option maxRecDepth 20000 in
theorem kX13_make_137 (hZ : zO b e D A X) : rx_OK (zV b e D A X) mX13_make 2 137 bX13_make_137 := by
  unfold bX13_make_137
  refine rx_by (e_ldR _ _) (s_aload_n hZ.1 dX13_make_137 rfl ?_)
  refine rx_by (e_ldR _ _) (s_aload_n hZ.1 dX13_make_138 rfl ?_)
  refine rx_by (e_getf _ _ _) (s_getf zcl13 (Nat.le_of_ble_eq_true rfl) dX13_make_139 zw4147 ?_)
  exact rx_by (e_eq1 _ _) (s_if_ne dX13_make_142 (by decide) (s_none (pc := 150)) (kX13_make_145 hZ))
noncomputable def bX13_make_133 : rx_K := q_ld q_isR 0 (o_callV 0 13 fX13_judgeAll (bX13_make_137))
set_option maxRecDepth 20000 in
theorem kX13_make_133 (hZ : zO b e D A X) : rx_OK (zV b e D A X) mX13_make 2 133 bX13_make_133 := by
  unfold bX13_make_133
  refine rx_by (e_ldR _ _) (s_aload_n hZ.1 dX13_make_133 rfl ?_)
  refine s_callV hZ.1 (met_X13_judgeAll hZ) (by decide) zy_X13_judgeAll zcl13 zw3168 zw222 (Or.inl zw3166) dX13_make_134 ?_
  exact (kX13_make_137 hZ)
noncomputable def bX13_make_122 : rx_K := q_ld q_isR 0 (o_callV 0 13 fX13_parse (q_ld q_isR 0 (q_getf 13 20 (q_eq1 bX13_make_133 bX13_make_137))))
set_option maxRecDepth 20000 in
theorem kX13_make_122 (hZ : zO b e D A X) : rx_OK (zV b e D A X) mX13_make 2 122 bX13_make_122 := by
  unfold bX13_make_122
  refine rx_by (e_ldR _ _) (s_aload_n hZ.1 dX13_make_122 rfl ?_)
  refine s_callV hZ.1 (met_X13_parse hZ) (by decide) zy_X13_parse zcl13 zw2972 zw182 (Or.inl zw2970) dX13_make_123 ?_
  refine rx_by (e_ldR _ _) (s_aload_n hZ.1 dX13_make_126 rfl ?_)
  refine rx_by (e_getf _ _ _) (s_getf zcl13 (Nat.le_of_ble_eq_true rfl) dX13_make_127 zw4147 ?_)
  exact rx_by (e_eq1 _ _) (s_if_ne dX13_make_130 (by decide) (kX13_make_137 hZ) (kX13_make_133 hZ))
noncomputable def bX13_make_79 : rx_K := q_ld q_isR 0 (q_getf 13 6 (q_ld q_isR 0 (q_getf 13 19 (q_ld q_isR 0 (q_getf 13 1 (q_ast 0 (fun v => v) q_isI (q_ld q_isR 0 (q_getf 13 7 (q_ld q_isR 0 (q_getf 13 19 (q_ld q_isI 1 (q_ast 0 (fun v => v) q_isI (q_ld q_isR 0 (o_const 0 (q_putf q_isI 13 1 (q_ld q_isR 0 (o_const 0 (q_putf q_isI 13 20 (q_ld q_isR 0 (o_const 34359738352 (q_putf q_isI 13 21 (q_ld q_isR 0 (o_callV 0 13 fX13_tokenize (bX13_make_122))))))))))))))))))))))))
set_option maxRecDepth 20000 in
theorem kX13_make_79 (hZ : zO b e D A X) : rx_OK (zV b e D A X) mX13_make 2 79 bX13_make_79 := by
  unfold bX13_make_79
  refine rx_by (e_ldR _ _) (s_aload_n hZ.1 dX13_make_79 rfl ?_)
  refine rx_by (e_getf _ _ _) (s_getf zcl13 (Nat.le_of_ble_eq_true rfl) dX13_make_80 zw4133 ?_)
  refine rx_by (e_ldR _ _) (s_aload_n hZ.1 dX13_make_83 rfl ?_)
  refine rx_by (e_getf _ _ _) (s_getf zcl13 (Nat.le_of_ble_eq_true rfl) dX13_make_84 zw4146 ?_)
  refine rx_by (e_ldR _ _) (s_aload_n hZ.1 dX13_make_87 rfl ?_)
  refine rx_by (e_getf _ _ _) (s_getf zcl13 (Nat.le_of_ble_eq_true rfl) dX13_make_88 zw4128 ?_)
  refine rx_by (e_astI _ _ _) (s_iast hZ.1 (tt := 0) rfl dX13_make_91 ?_)
  refine rx_by (e_ldR _ _) (s_aload_n hZ.1 dX13_make_92 rfl ?_)
  refine rx_by (e_getf _ _ _) (s_getf zcl13 (Nat.le_of_ble_eq_true rfl) dX13_make_93 zw4134 ?_)
  refine rx_by (e_ldR _ _) (s_aload_n hZ.1 dX13_make_96 rfl ?_)
  refine rx_by (e_getf _ _ _) (s_getf zcl13 (Nat.le_of_ble_eq_true rfl) dX13_make_97 zw4146 ?_)
  refine rx_by (e_ldI _ _) (s_iload_n hZ.1 dX13_make_100 rfl ?_)
  refine rx_by (e_astI _ _ _) (s_iast hZ.1 (tt := 0) rfl dX13_make_101 ?_)
  refine rx_by (e_ldR _ _) (s_aload_n hZ.1 dX13_make_102 rfl ?_)
  refine s_iconst dX13_make_103 (by decide +kernel) ?_
  refine rx_by (e_putf _ _ _ _) (s_putf hZ.1 zcl13 (Nat.le_of_ble_eq_true rfl) (Or.inl rfl) dX13_make_104 zw4128 c_int ?_)
  refine rx_by (e_ldR _ _) (s_aload_n hZ.1 dX13_make_107 rfl ?_)
  refine s_iconst dX13_make_108 (by decide +kernel) ?_
  refine rx_by (e_putf _ _ _ _) (s_putf hZ.1 zcl13 (Nat.le_of_ble_eq_true rfl) (Or.inl rfl) dX13_make_109 zw4147 c_int ?_)
  refine rx_by (e_ldR _ _) (s_aload_n hZ.1 dX13_make_112 rfl ?_)
  refine s_bipush dX13_make_113 (by decide +kernel) ?_
  refine rx_by (e_putf _ _ _ _) (s_putf hZ.1 zcl13 (Nat.le_of_ble_eq_true rfl) (Or.inl rfl) dX13_make_115 zw4148 c_int ?_)
  refine rx_by (e_ldR _ _) (s_aload_n hZ.1 dX13_make_118 rfl ?_)
  refine s_callV hZ.1 (met_X13_tokenize hZ) (by decide) zy_X13_tokenize zcl13 zw2942 zw177 (Or.inl zw2940) dX13_make_119 ?_
  exact (kX13_make_122 hZ)
noncomputable def bX13_make_33 : rx_K := q_ld q_isR 0 (q_ld q_isR 0 (q_getf 13 10 (q_putf q_isI 13 19 (o_const 0 (q_st q_isI 2 (q_ld q_isI 2 (q_ld q_isR 0 (q_getf 13 1 (q_lt2 o_none bX13_make_79)))))))))
set_option maxRecDepth 20000 in
theorem kX13_make_33 (hZ : zO b e D A X) : rx_OK (zV b e D A X) mX13_make 2 33 bX13_make_33 := by
  unfold bX13_make_33
  refine rx_by (e_ldR _ _) (s_aload_n hZ.1 dX13_make_33 rfl ?_)
  refine rx_by (e_ldR _ _) (s_aload_n hZ.1 dX13_make_34 rfl ?_)
  refine rx_by (e_getf _ _ _) (s_getf zcl13 (Nat.le_of_ble_eq_true rfl) dX13_make_35 zw4137 ?_)
  refine rx_by (e_putf _ _ _ _) (s_putf hZ.1 zcl13 (Nat.le_of_ble_eq_true rfl) (Or.inl rfl) dX13_make_38 zw4146 c_int ?_)
  refine s_iconst dX13_make_41 (by decide +kernel) ?_
  refine rx_by (e_stI _ _) (s_istore_n hZ.1 dX13_make_42 rfl (Nat.le_of_ble_eq_true rfl) ?_)
  refine rx_by (e_ldI _ _) (s_iload_n hZ.1 dX13_make_43 rfl ?_)
  refine rx_by (e_ldR _ _) (s_aload_n hZ.1 dX13_make_44 rfl ?_)
  refine rx_by (e_getf _ _ _) (s_getf zcl13 (Nat.le_of_ble_eq_true rfl) dX13_make_45 zw4128 ?_)
  exact rx_by (e_lt2 _ _) (s_icmp_ge dX13_make_48 (by decide) (kX13_make_79 hZ) (s_none (pc := 51)))
noncomputable def bX13_make_21 : rx_K := q_ld q_isR 0 (q_getf 13 10 (o_const 128 (q_eq2 o_none bX13_make_33)))
set_option maxRecDepth 20000 in
theorem kX13_make_21 (hZ : zO b e D A X) : rx_OK (zV b e D A X) mX13_make 2 21 bX13_make_21 := by
  unfold bX13_make_21
  refine rx_by (e_ldR _ _) (s_aload_n hZ.1 dX13_make_21 rfl ?_)
  refine rx_by (e_getf _ _ _) (s_getf zcl13 (Nat.le_of_ble_eq_true rfl) dX13_make_22 zw4137 ?_)
  refine s_bipush dX13_make_25 (by decide +kernel) ?_
  exact rx_by (e_eq2 _ _) (s_icmp_ne dX13_make_27 (by decide) (kX13_make_33 hZ) (s_none (pc := 30)))
noncomputable def bX13_make_10 : rx_K := q_ld q_isR 0 (q_getf 13 9 (q_ld q_isI 1 (q_ald 0 (o_const 64 (q_eq2 o_none bX13_make_21)))))
set_option maxRecDepth 20000 in
theorem kX13_make_10 (hZ : zO b e D A X) : rx_OK (zV b e D A X) mX13_make 2 10 bX13_make_10 := by
  unfold bX13_make_10
  refine rx_by (e_ldR _ _) (s_aload_n hZ.1 dX13_make_10 rfl ?_)
  refine rx_by (e_getf _ _ _) (s_getf zcl13 (Nat.le_of_ble_eq_true rfl) dX13_make_11 zw4136 ?_)
  refine rx_by (e_ldI _ _) (s_iload_n hZ.1 dX13_make_14 rfl ?_)
  refine rx_by (e_ald _ _) (s_iald (tt := 0) rfl dX13_make_15 ?_)
  refine s_bipush dX13_make_16 (by decide +kernel) ?_
  exact rx_by (e_eq2 _ _) (s_icmp_eq dX13_make_18 (by decide) (s_none (pc := 30)) (kX13_make_21 hZ))
noncomputable def bX13_make_8 : rx_K := o_const 34359738360 (o_ret1 rx_isI)
set_option maxRecDepth 20000 in
theorem kX13_make_8 (hZ : zO b e D A X) : rx_OK (zV b e D A X) mX13_make 2 8 bX13_make_8 := by
  unfold bX13_make_8
  refine s_iconst dX13_make_8 (by decide +kernel) ?_
  exact s_iret hZ.1 rfl dX13_make_9
noncomputable def bX13_make_0 : rx_K := q_ld q_isR 0 (q_ld q_isI 1 (o_callV 1 13 fX13_isLib (q_eq1 bX13_make_8 bX13_make_10)))
set_option maxRecDepth 20000 in
theorem kX13_make_0 (hZ : zO b e D A X) : rx_OK (zV b e D A X) mX13_make 2 0 bX13_make_0 := by
  unfold bX13_make_0
  refine rx_by (e_ldR _ _) (s_aload_n hZ.1 dX13_make_0 rfl ?_)
  refine rx_by (e_ldI _ _) (s_iload_n hZ.1 dX13_make_1 rfl ?_)
  refine s_callV hZ.1 (met_X13_isLib hZ) (by decide) zy_X13_isLib zcl13 zw2938 zw176 (Or.inl zw2936) dX13_make_2 ?_
  exact rx_by (e_eq1 _ _) (s_if_ne dX13_make_5 (by decide) (kX13_make_10 hZ) (kX13_make_8 hZ))
noncomputable def fX13_make : List Nat → rx_H → Option (Nat × rx_H) := rx_ent 3 bX13_make_0
theorem met_X13_make (hZ : zO b e D A X) : rx_Met (zV b e D A X) 2 yX13_make mX13_make fX13_make := rx_entry hZ.1 (kX13_make_0 hZ) (by decide +kernel) rfl (fun h => by cases h)
theorem zy_X13_make : rx_Y (zV b e D A X) yX13_make mX13_make 1 := ⟨zw2935, zw431, by decide, by decide +kernel, by decide +kernel, by decide +kernel⟩
abbrev mX12_place : rx_M := (RX12, cX12_place, 1, (some .int), false)
noncomputable def bX12_place_0 : rx_K := q_ld q_isR 0 (q_getf 12 12 (o_ret1 rx_isI))
set_option maxRecDepth 20000 in
theorem kX12_place_0 (hZ : zO b e D A X) : rx_OK (zV b e D A X) mX12_place 0 0 bX12_place_0 := by
  unfold bX12_place_0
  refine rx_by (e_ldR _ _) (s_aload_n hZ.1 dX12_place_0 rfl ?_)
  refine rx_by (e_getf _ _ _) (s_getf zcl12 (Nat.le_of_ble_eq_true rfl) dX12_place_1 zw1621 ?_)
  exact s_iret hZ.1 rfl dX12_place_4
noncomputable def fX12_place : List Nat → rx_H → Option (Nat × rx_H) := rx_ent 1 bX12_place_0
theorem met_X12_place (hZ : zO b e D A X) : rx_Met (zV b e D A X) 0 yX12_place mX12_place fX12_place := rx_entry hZ.1 (kX12_place_0 hZ) (by decide +kernel) rfl (fun h => by cases h)
theorem zy_X12_place : rx_Y (zV b e D A X) yX12_place mX12_place 0 := ⟨zw2349, zw413, by decide, by decide +kernel, by decide +kernel, by decide +kernel⟩
abbrev mX13_place : rx_M := (RX13, cX13_place, 1, (some .int), false)
noncomputable def bX13_place_0 : rx_K := q_ld q_isR 0 (q_getf 13 128 (o_ret1 rx_isI))
set_option maxRecDepth 20000 in
theorem kX13_place_0 (hZ : zO b e D A X) : rx_OK (zV b e D A X) mX13_place 0 0 bX13_place_0 := by
  unfold bX13_place_0
  refine rx_by (e_ldR _ _) (s_aload_n hZ.1 dX13_place_0 rfl ?_)
  refine rx_by (e_getf _ _ _) (s_getf zcl13 (Nat.le_of_ble_eq_true rfl) dX13_place_1 zw4254 ?_)
  exact s_iret hZ.1 rfl dX13_place_4
noncomputable def fX13_place : List Nat → rx_H → Option (Nat × rx_H) := rx_ent 1 bX13_place_0
theorem met_X13_place (hZ : zO b e D A X) : rx_Met (zV b e D A X) 0 yX13_place mX13_place fX13_place := rx_entry hZ.1 (kX13_place_0 hZ) (by decide +kernel) rfl (fun h => by cases h)
theorem zy_X13_place : rx_Y (zV b e D A X) yX13_place mX13_place 0 := ⟨zw3580, zw431, by decide, by decide +kernel, by decide +kernel, by decide +kernel⟩
abbrev mX12_builds : rx_M := (RX12, cX12_builds, 2, (some .int), false)
noncomputable def bX12_builds_17 : rx_K := o_ret1 rx_isI
set_option maxRecDepth 20000 in
theorem kX12_builds_17 (hZ : zO b e D A X) : rx_OK (zV b e D A X) mX12_builds 1 17 bX12_builds_17 := by
  unfold bX12_builds_17
  exact s_iret hZ.1 rfl dX12_builds_17
noncomputable def bX12_builds_16 : rx_K := o_const 34359738360 (bX12_builds_17)
set_option maxRecDepth 20000 in
theorem kX12_builds_16 (hZ : zO b e D A X) : rx_OK (zV b e D A X) mX12_builds 1 16 bX12_builds_16 := by
  unfold bX12_builds_16
  refine s_iconst dX12_builds_16 (by decide +kernel) ?_
  exact (kX12_builds_17 hZ)
noncomputable def bX12_builds_7 : rx_K := q_ld q_isR 0 (q_getf 12 5 (q_ld q_isI 1 (q_ald 0 (bX12_builds_17))))
set_option maxRecDepth 20000 in
theorem kX12_builds_7 (hZ : zO b e D A X) : rx_OK (zV b e D A X) mX12_builds 1 7 bX12_builds_7 := by
  unfold bX12_builds_7
  refine rx_by (e_ldR _ _) (s_aload_n hZ.1 dX12_builds_7 rfl ?_)
  refine rx_by (e_getf _ _ _) (s_getf zcl12 (Nat.le_of_ble_eq_true rfl) dX12_builds_8 zw1614 ?_)
  refine rx_by (e_ldI _ _) (s_iload_n hZ.1 dX12_builds_11 rfl ?_)
  refine rx_by (e_ald _ _) (s_iald (tt := 0) rfl dX12_builds_12 ?_)
  exact s_goto dX12_builds_13 (by decide) (kX12_builds_17 hZ)
noncomputable def bX12_builds_0 : rx_K := q_ld q_isI 1 (o_callS 1 fX12_isLibrary (q_eq1 bX12_builds_16 bX12_builds_7))
set_option maxRecDepth 20000 in
theorem kX12_builds_0 (hZ : zO b e D A X) : rx_OK (zV b e D A X) mX12_builds 1 0 bX12_builds_0 := by
  unfold bX12_builds_0
  refine rx_by (e_ldI _ _) (s_iload_n hZ.1 dX12_builds_0 rfl ?_)
  refine s_callS hZ.1 (met_X12_isLibrary hZ) (by decide) zy_X12_isLibrary zw1716 (Or.inl zw1715) dX12_builds_1 ?_
  exact rx_by (e_eq1 _ _) (s_if_eq dX12_builds_4 (by decide) (kX12_builds_16 hZ) (kX12_builds_7 hZ))
noncomputable def fX12_builds : List Nat → rx_H → Option (Nat × rx_H) := rx_ent 2 bX12_builds_0
theorem met_X12_builds (hZ : zO b e D A X) : rx_Met (zV b e D A X) 1 yX12_builds mX12_builds fX12_builds := rx_entry hZ.1 (kX12_builds_0 hZ) (by decide +kernel) rfl (fun h => by cases h)
theorem zy_X12_builds : rx_Y (zV b e D A X) yX12_builds mX12_builds 1 := ⟨zw2353, zw413, by decide, by decide +kernel, by decide +kernel, by decide +kernel⟩
end ZM8

section ZQ1
variable {b : Nat} {e : Nat → Value} {D : va_G} {A : Nat → ClassId} {X : State → Prop}
noncomputable def bX11_init_241 : rx_K := q_ld q_isR 2 (q_ld q_isR 0 (q_getf 11 0 (o_callV 0 1 fX1_newMember (o_callS 1 fX11_openMaker (o_callV 1 10 fX10_add (o_ret0))))))
set_option maxRecDepth 20000 in
theorem kX11_init_241 (hZ : zO b e D A X) : rx_OK (zV b e D A X) mX11_init 3 241 bX11_init_241 := by
  unfold bX11_init_241
  refine rx_by (e_ldR _ _) (s_aload_n hZ.1 dX11_init_241 rfl ?_)
  refine rx_by (e_ldR _ _) (s_aload_n hZ.1 dX11_init_242 rfl ?_)
  refine zg11_0 dX11_init_243 zw1250 ?_
  refine s_callV hZ.1 (met_X1_newMember hZ) (by decide) zy_X1_newMember zcl1 zw1228 zw1229 (Or.inl zw1227) dX11_init_246 ?_
  refine s_callS hZ.1 (met_X11_openMaker hZ) (by decide) zy_X11_openMaker zw1241 (Or.inl zw1240) dX11_init_249 ?_
  refine s_callV hZ.1 (met_X10_add hZ) (by decide) zy_X10_add zcl10 zw1244 zw1245 (Or.inl zw1243) dX11_init_252 ?_
  exact s_vret rfl dX11_init_255
noncomputable def bX11_init_195 : rx_K := o_const 8 (p_putf rx_isZ 10 3 (q_ld q_isR 2 (o_const 8 (p_putf rx_isZ 10 7 (q_ld q_isR 2 (o_const 8 (p_putf q_isI 10 20 (q_ld q_isR 0 (q_getf 11 0 (o_callV 0 1 fX1_newMember (q_st q_isR 3 (q_ld q_isR 3 (o_const 24 (p_putf q_isI 7 1 (q_ld q_isR 3 (o_const 322150859624415233 (p_putf q_isL 7 7 (q_ld q_isR 3 (o_const 147573952589676412921 (p_putf q_isL 7 8 (q_ld q_isR 2 (q_ld q_isR 3 (o_callV 1 10 fX10_add (bX11_init_241))))))))))))))))))))))))
set_option maxRecDepth 20000 in
theorem kX11_init_195 (hZ : zO b e D A X) : rx_OK (zV b e D A X) mX11_init 3 195 bX11_init_195 := by
  unfold bX11_init_195
  refine s_iconst dX11_init_195 (by decide +kernel) ?_
  refine zp10_3 hZ.1 dX11_init_196 zw783 ?_
  refine rx_by (e_ldR _ _) (s_aload_n hZ.1 dX11_init_199 rfl ?_)
  refine s_iconst dX11_init_200 (by decide +kernel) ?_
  refine zp10_7 hZ.1 dX11_init_201 zw815 ?_
  refine rx_by (e_ldR _ _) (s_aload_n hZ.1 dX11_init_204 rfl ?_)
  refine s_iconst dX11_init_205 (by decide +kernel) ?_
  refine zp10_20 hZ.1 dX11_init_206 zw889 ?_
  refine rx_by (e_ldR _ _) (s_aload_n hZ.1 dX11_init_209 rfl ?_)
  refine zg11_0 dX11_init_210 zw1250 ?_
  refine s_callV hZ.1 (met_X1_newMember hZ) (by decide) zy_X1_newMember zcl1 zw1228 zw1229 (Or.inl zw1227) dX11_init_213 ?_
  refine rx_by (e_stR _ _) (s_astore_n hZ.1 dX11_init_216 rfl (Nat.le_of_ble_eq_true rfl) ?_)
  refine rx_by (e_ldR _ _) (s_aload_n hZ.1 dX11_init_217 rfl ?_)
  refine s_iconst dX11_init_218 (by decide +kernel) ?_
  refine zp7_1 hZ.1 dX11_init_219 zw953 ?_
  refine rx_by (e_ldR _ _) (s_aload_n hZ.1 dX11_init_222 rfl ?_)
  refine s_ldc2 dX11_init_223 zw1248 (by decide +kernel) ?_
  refine zp7_7 hZ.1 dX11_init_226 zw1002 ?_
  refine rx_by (e_ldR _ _) (s_aload_n hZ.1 dX11_init_229 rfl ?_)
  refine s_ldc2 dX11_init_230 zw1249 (by decide +kernel) ?_
  refine zp7_8 hZ.1 dX11_init_233 zw1011 ?_
  refine rx_by (e_ldR _ _) (s_aload_n hZ.1 dX11_init_236 rfl ?_)
  refine rx_by (e_ldR _ _) (s_aload_n hZ.1 dX11_init_237 rfl ?_)
  refine s_callV hZ.1 (met_X10_add hZ) (by decide) zy_X10_add zcl10 zw1244 zw1245 (Or.inl zw1243) dX11_init_238 ?_
  exact (kX11_init_241 hZ)
noncomputable def bX11_init_145 : rx_K := q_st q_isR 1 (q_ld q_isR 0 (q_getf 11 0 (o_callV 0 1 fX1_newRow (q_st q_isR 2 (q_ld q_isR 1 (o_const 115324555267378511873 (p_putf q_isL 10 1 (q_ld q_isR 1 (o_const 8 (p_putf rx_isZ 10 3 (q_ld q_isR 1 (o_const 147573952589676412897 (p_putf q_isL 10 8 (q_ld q_isR 1 (q_ld q_isR 0 (q_getf 11 0 (o_callV 0 1 fX1_newMember (o_callS 1 fX11_openMaker (o_callV 1 10 fX10_add (q_ld q_isR 2 (o_const 116472515775520833537 (p_putf q_isL 10 1 (q_ld q_isR 2 (bX11_init_195))))))))))))))))))))))))
set_option maxRecDepth 20000 in
theorem kX11_init_145 (hZ : zO b e D A X) : rx_OK (zV b e D A X) mX11_init 3 145 bX11_init_145 := by
  unfold bX11_init_145
  refine rx_by (e_stR _ _) (s_astore_n hZ.1 dX11_init_145 rfl (Nat.le_of_ble_eq_true rfl) ?_)
  refine rx_by (e_ldR _ _) (s_aload_n hZ.1 dX11_init_146 rfl ?_)
  refine zg11_0 dX11_init_147 zw1250 ?_
  refine s_callV hZ.1 (met_X1_newRow hZ) (by decide) zy_X1_newRow zcl1 zw1213 zw1214 (Or.inl zw1212) dX11_init_150 ?_
  refine rx_by (e_stR _ _) (s_astore_n hZ.1 dX11_init_153 rfl (Nat.le_of_ble_eq_true rfl) ?_)
  refine rx_by (e_ldR _ _) (s_aload_n hZ.1 dX11_init_154 rfl ?_)
  refine s_ldc2 dX11_init_155 zw1225 (by decide +kernel) ?_
  refine zp10_1 hZ.1 dX11_init_158 zw768 ?_
  refine rx_by (e_ldR _ _) (s_aload_n hZ.1 dX11_init_161 rfl ?_)
  refine s_iconst dX11_init_162 (by decide +kernel) ?_
  refine zp10_3 hZ.1 dX11_init_163 zw783 ?_
  refine rx_by (e_ldR _ _) (s_aload_n hZ.1 dX11_init_166 rfl ?_)
  refine s_ldc2 dX11_init_167 zw1226 (by decide +kernel) ?_
  refine zp10_8 hZ.1 dX11_init_170 zw821 ?_
  refine rx_by (e_ldR _ _) (s_aload_n hZ.1 dX11_init_173 rfl ?_)
  refine rx_by (e_ldR _ _) (s_aload_n hZ.1 dX11_init_174 rfl ?_)
  refine zg11_0 dX11_init_175 zw1250 ?_
  refine s_callV hZ.1 (met_X1_newMember hZ) (by decide) zy_X1_newMember zcl1 zw1228 zw1229 (Or.inl zw1227) dX11_init_178 ?_
  refine s_callS hZ.1 (met_X11_openMaker hZ) (by decide) zy_X11_openMaker zw1241 (Or.inl zw1240) dX11_init_181 ?_
  refine s_callV hZ.1 (met_X10_add hZ) (by decide) zy_X10_add zcl10 zw1244 zw1245 (Or.inl zw1243) dX11_init_184 ?_
  refine rx_by (e_ldR _ _) (s_aload_n hZ.1 dX11_init_187 rfl ?_)
  refine s_ldc2 dX11_init_188 zw1247 (by decide +kernel) ?_
  refine zp10_1 hZ.1 dX11_init_191 zw768 ?_
  refine rx_by (e_ldR _ _) (s_aload_n hZ.1 dX11_init_194 rfl ?_)
  exact (kX11_init_195 hZ)
noncomputable def bX11_init_99 : rx_K := p_newa 0 0 (p_putf q_isR 11 13 (q_ld q_isR 0 (o_const 512 (p_newa 0 0 (p_putf q_isR 11 14 (q_ld q_isR 0 (o_const 512 (p_newa 5 3 (p_putf q_isR 11 16 (q_ld q_isR 0 (p_new 1 18 zfs1 (q_dup (o_const 16 (o_const 24 (o_const 0 (o_const 0 (o_const 0 (o_const 0 (o_callI 6 fX1_init (p_putf q_isR 11 0 (q_ld q_isR 0 (q_getf 11 0 (o_callV 0 1 fX1_newRow (bX11_init_145))))))))))))))))))))))))
set_option maxRecDepth 20000 in
theorem kX11_init_99 (hZ : zO b e D A X) : rx_OK (zV b e D A X) mX11_init 3 99 bX11_init_99 := by
  unfold bX11_init_99
  refine rx_by2 (l_newa _ _ _) (s_newa (tt := 0) (ty := .int) rfl rfl rfl rfl rfl (by decide) zw527 dX11_init_99 ?_)
  refine zp11_13 hZ.1 rfl rfl dX11_init_101 zw1288 ?_
  refine rx_by (e_ldR _ _) (s_aload_n hZ.1 dX11_init_104 rfl ?_)
  refine s_bipush dX11_init_105 (by decide +kernel) ?_
  refine rx_by2 (l_newa _ _ _) (s_newa (tt := 0) (ty := .int) rfl rfl rfl rfl rfl (by decide) zw527 dX11_init_107 ?_)
  refine zp11_14 hZ.1 rfl rfl dX11_init_109 zw1289 ?_
  refine rx_by (e_ldR _ _) (s_aload_n hZ.1 dX11_init_112 rfl ?_)
  refine s_bipush dX11_init_113 (by decide +kernel) ?_
  refine rx_by2 (l_newa _ _ _) (s_anewa (tt := 5) rfl zw751 (zo_W5 hZ) dX11_init_115 ?_)
  refine zp11_16 hZ.1 rfl rfl dX11_init_118 zw1293 ?_
  refine rx_by (e_ldR _ _) (s_aload_n hZ.1 dX11_init_121 rfl ?_)
  refine rx_by2 (l_new _ _ _ _) (s_new zcl1 zfk1 dX11_init_122 zw752 zw753 zw424 ?_)
  refine rx_by (e_dup _) (s_dup hZ.1 dX11_init_125 ?_)
  refine s_iconst dX11_init_126 (by decide +kernel) ?_
  refine s_iconst dX11_init_127 (by decide +kernel) ?_
  refine s_iconst dX11_init_128 (by decide +kernel) ?_
  refine s_iconst dX11_init_129 (by decide +kernel) ?_
  refine s_iconst dX11_init_130 (by decide +kernel) ?_
  refine s_iconst dX11_init_131 (by decide +kernel) ?_
  refine s_callI hZ.1 (met_X1_init hZ) (by decide) zy_X1_init rfl rfl zw755 (Or.inl zw754) dX11_init_132 ?_
  refine zp11_0 hZ.1 rfl rfl dX11_init_135 zw1250 ?_
  refine rx_by (e_ldR _ _) (s_aload_n hZ.1 dX11_init_138 rfl ?_)
  refine zg11_0 dX11_init_139 zw1250 ?_
  refine s_callV hZ.1 (met_X1_newRow hZ) (by decide) zy_X1_newRow zcl1 zw1213 zw1214 (Or.inl zw1212) dX11_init_142 ?_
  exact (kX11_init_145 hZ)
noncomputable def bX11_init_50 : rx_K := p_newa 0 0 (p_putf q_isR 11 7 (q_ld q_isR 0 (o_const 512 (p_newa 0 0 (p_putf q_isR 11 8 (q_ld q_isR 0 (o_const 512 (p_newa 1 1 (p_putf q_isR 11 9 (q_ld q_isR 0 (o_const 32768 (p_newa 0 0 (p_putf q_isR 11 10 (q_ld q_isR 0 (o_const 512 (p_newa 0 0 (p_putf q_isR 11 11 (q_ld q_isR 0 (o_const 528 (p_newa 0 0 (p_putf q_isR 11 12 (q_ld q_isR 0 (o_const 528 (bX11_init_99))))))))))))))))))))))))
set_option maxRecDepth 20000 in
theorem kX11_init_50 (hZ : zO b e D A X) : rx_OK (zV b e D A X) mX11_init 3 50 bX11_init_50 := by
  unfold bX11_init_50
  refine rx_by2 (l_newa _ _ _) (s_newa (tt := 0) (ty := .int) rfl rfl rfl rfl rfl (by decide) zw527 dX11_init_50 ?_)
  refine zp11_7 hZ.1 rfl rfl dX11_init_52 zw1277 ?_
  refine rx_by (e_ldR _ _) (s_aload_n hZ.1 dX11_init_55 rfl ?_)
  refine s_bipush dX11_init_56 (by decide +kernel) ?_
  refine rx_by2 (l_newa _ _ _) (s_newa (tt := 0) (ty := .int) rfl rfl rfl rfl rfl (by decide) zw527 dX11_init_58 ?_)
  refine zp11_8 hZ.1 rfl rfl dX11_init_60 zw1279 ?_
  refine rx_by (e_ldR _ _) (s_aload_n hZ.1 dX11_init_63 rfl ?_)
  refine s_bipush dX11_init_64 (by decide +kernel) ?_
  refine rx_by2 (l_newa _ _ _) (s_newa (tt := 1) (ty := .long) rfl rfl rfl rfl rfl (by decide) zw528 dX11_init_66 ?_)
  refine zp11_9 hZ.1 rfl rfl dX11_init_68 zw1281 ?_
  refine rx_by (e_ldR _ _) (s_aload_n hZ.1 dX11_init_71 rfl ?_)
  refine s_sipush dX11_init_72 (by decide +kernel) ?_
  refine rx_by2 (l_newa _ _ _) (s_newa (tt := 0) (ty := .int) rfl rfl rfl rfl rfl (by decide) zw527 dX11_init_75 ?_)
  refine zp11_10 hZ.1 rfl rfl dX11_init_77 zw1282 ?_
  refine rx_by (e_ldR _ _) (s_aload_n hZ.1 dX11_init_80 rfl ?_)
  refine s_bipush dX11_init_81 (by decide +kernel) ?_
  refine rx_by2 (l_newa _ _ _) (s_newa (tt := 0) (ty := .int) rfl rfl rfl rfl rfl (by decide) zw527 dX11_init_83 ?_)
  refine zp11_11 hZ.1 rfl rfl dX11_init_85 zw1286 ?_
  refine rx_by (e_ldR _ _) (s_aload_n hZ.1 dX11_init_88 rfl ?_)
  refine s_bipush dX11_init_89 (by decide +kernel) ?_
  refine rx_by2 (l_newa _ _ _) (s_newa (tt := 0) (ty := .int) rfl rfl rfl rfl rfl (by decide) zw527 dX11_init_91 ?_)
  refine zp11_12 hZ.1 rfl rfl dX11_init_93 zw1287 ?_
  refine rx_by (e_ldR _ _) (s_aload_n hZ.1 dX11_init_96 rfl ?_)
  refine s_bipush dX11_init_97 (by decide +kernel) ?_
  exact (kX11_init_99 hZ)
noncomputable def bX11_init_0 : rx_K := q_ld q_isR 0 (q_obj (q_ld q_isR 0 (o_const 512 (p_newa 4 3 (p_putf q_isR 11 1 (q_ld q_isR 0 (o_const 512 (p_newa 0 0 (p_putf q_isR 11 3 (q_ld q_isR 0 (o_const 512 (p_newa 0 0 (p_putf q_isR 11 4 (q_ld q_isR 0 (o_const 2048 (p_newa 0 0 (p_putf q_isR 11 5 (q_ld q_isR 0 (o_const 2560 (p_newa 0 0 (p_putf q_isR 11 6 (q_ld q_isR 0 (o_const 512 (bX11_init_50))))))))))))))))))))))))
set_option maxRecDepth 20000 in
theorem kX11_init_0 (hZ : zO b e D A X) : rx_OK (zV b e D A X) mX11_init 3 0 bX11_init_0 := by
  unfold bX11_init_0
  refine rx_by (e_ldR _ _) (s_aload_n hZ.1 dX11_init_0 rfl ?_)
  refine rx_by (e_obj _) (s_obj hZ.1 (by decide) zw748 zw440 zw441 dX11_init_1 ?_)
  refine rx_by (e_ldR _ _) (s_aload_n hZ.1 dX11_init_4 rfl ?_)
  refine s_bipush dX11_init_5 (by decide +kernel) ?_
  refine rx_by2 (l_newa _ _ _) (s_anewa (tt := 4) rfl zw749 (zo_W4 hZ) dX11_init_7 ?_)
  refine zp11_1 hZ.1 rfl rfl dX11_init_10 zw1252 ?_
  refine rx_by (e_ldR _ _) (s_aload_n hZ.1 dX11_init_13 rfl ?_)
  refine s_bipush dX11_init_14 (by decide +kernel) ?_
  refine rx_by2 (l_newa _ _ _) (s_newa (tt := 0) (ty := .int) rfl rfl rfl rfl rfl (by decide) zw527 dX11_init_16 ?_)
  refine zp11_3 hZ.1 rfl rfl dX11_init_18 zw1262 ?_
  refine rx_by (e_ldR _ _) (s_aload_n hZ.1 dX11_init_21 rfl ?_)
  refine s_bipush dX11_init_22 (by decide +kernel) ?_
  refine rx_by2 (l_newa _ _ _) (s_newa (tt := 0) (ty := .int) rfl rfl rfl rfl rfl (by decide) zw527 dX11_init_24 ?_)
  refine zp11_4 hZ.1 rfl rfl dX11_init_26 zw1267 ?_
  refine rx_by (e_ldR _ _) (s_aload_n hZ.1 dX11_init_29 rfl ?_)
  refine s_sipush dX11_init_30 (by decide +kernel) ?_
  refine rx_by2 (l_newa _ _ _) (s_newa (tt := 0) (ty := .int) rfl rfl rfl rfl rfl (by decide) zw527 dX11_init_33 ?_)
  refine zp11_5 hZ.1 rfl rfl dX11_init_35 zw1272 ?_
  refine rx_by (e_ldR _ _) (s_aload_n hZ.1 dX11_init_38 rfl ?_)
  refine s_sipush dX11_init_39 (by decide +kernel) ?_
  refine rx_by2 (l_newa _ _ _) (s_newa (tt := 0) (ty := .int) rfl rfl rfl rfl rfl (by decide) zw527 dX11_init_42 ?_)
  refine zp11_6 hZ.1 rfl rfl dX11_init_44 zw1275 ?_
  refine rx_by (e_ldR _ _) (s_aload_n hZ.1 dX11_init_47 rfl ?_)
  refine s_bipush dX11_init_48 (by decide +kernel) ?_
  exact (kX11_init_50 hZ)
noncomputable def fX11_init : List Nat → rx_H → Option (Nat × rx_H) := rx_ent 4 bX11_init_0
theorem met_X11_init (hZ : zO b e D A X) : rx_Met (zV b e D A X) 3 yX11_init mX11_init fX11_init := rx_entry hZ.1 (kX11_init_0 hZ) (by decide +kernel) rfl (fun _ => rfl)
theorem zy_X11_init : rx_Y (zV b e D A X) yX11_init mX11_init 0 := ⟨zw747, zw423, by decide, by decide +kernel, by decide +kernel, by decide +kernel⟩
noncomputable def bX5_init_95 : rx_K := p_newa 5 3 (p_putf q_isR 5 19 (o_ret0))
set_option maxRecDepth 20000 in
theorem kX5_init_95 (hZ : zO b e D A X) : rx_OK (zV b e D A X) mX5_init 1 95 bX5_init_95 := by
  unfold bX5_init_95
  refine rx_by2 (l_newa _ _ _) (s_anewa (tt := 5) rfl zw1349 (zo_W5 hZ) dX5_init_95 ?_)
  refine zp5_19 hZ.1 rfl rfl dX5_init_98 zw1381 ?_
  exact s_vret rfl dX5_init_101
noncomputable def bX5_init_48 : rx_K := p_newa 0 0 (p_putf q_isR 5 8 (q_ld q_isR 0 (o_const 528 (p_newa 0 0 (p_putf q_isR 5 9 (q_ld q_isR 0 (o_const 528 (p_newa 0 0 (p_putf q_isR 5 10 (q_ld q_isR 0 (o_const 1040 (p_newa 0 0 (p_putf q_isR 5 15 (q_ld q_isR 0 (o_const 520 (p_newa 0 0 (p_putf q_isR 5 17 (q_ld q_isR 0 (q_ld q_isI 1 (p_newa 0 0 (p_putf q_isR 5 18 (q_ld q_isR 0 (q_ld q_isI 1 (bX5_init_95))))))))))))))))))))))))
set_option maxRecDepth 20000 in
theorem kX5_init_48 (hZ : zO b e D A X) : rx_OK (zV b e D A X) mX5_init 1 48 bX5_init_48 := by
  unfold bX5_init_48
  refine rx_by2 (l_newa _ _ _) (s_newa (tt := 0) (ty := .int) rfl rfl rfl rfl rfl (by decide) zw527 dX5_init_48 ?_)
  refine zp5_8 hZ.1 rfl rfl dX5_init_50 zw1363 ?_
  refine rx_by (e_ldR _ _) (s_aload_n hZ.1 dX5_init_53 rfl ?_)
  refine s_bipush dX5_init_54 (by decide +kernel) ?_
  refine rx_by2 (l_newa _ _ _) (s_newa (tt := 0) (ty := .int) rfl rfl rfl rfl rfl (by decide) zw527 dX5_init_56 ?_)
  refine zp5_9 hZ.1 rfl rfl dX5_init_58 zw1364 ?_
  refine rx_by (e_ldR _ _) (s_aload_n hZ.1 dX5_init_61 rfl ?_)
  refine s_bipush dX5_init_62 (by decide +kernel) ?_
  refine rx_by2 (l_newa _ _ _) (s_newa (tt := 0) (ty := .int) rfl rfl rfl rfl rfl (by decide) zw527 dX5_init_64 ?_)
  refine zp5_10 hZ.1 rfl rfl dX5_init_66 zw1365 ?_
  refine rx_by (e_ldR _ _) (s_aload_n hZ.1 dX5_init_69 rfl ?_)
  refine s_sipush dX5_init_70 (by decide +kernel) ?_
  refine rx_by2 (l_newa _ _ _) (s_newa (tt := 0) (ty := .int) rfl rfl rfl rfl rfl (by decide) zw527 dX5_init_73 ?_)
  refine zp5_15 hZ.1 rfl rfl dX5_init_75 zw1375 ?_
  refine rx_by (e_ldR _ _) (s_aload_n hZ.1 dX5_init_78 rfl ?_)
  refine s_bipush dX5_init_79 (by decide +kernel) ?_
  refine rx_by2 (l_newa _ _ _) (s_newa (tt := 0) (ty := .int) rfl rfl rfl rfl rfl (by decide) zw527 dX5_init_81 ?_)
  refine zp5_17 hZ.1 rfl rfl dX5_init_83 zw1379 ?_
  refine rx_by (e_ldR _ _) (s_aload_n hZ.1 dX5_init_86 rfl ?_)
  refine rx_by (e_ldI _ _) (s_iload_n hZ.1 dX5_init_87 rfl ?_)
  refine rx_by2 (l_newa _ _ _) (s_newa (tt := 0) (ty := .int) rfl rfl rfl rfl rfl (by decide) zw527 dX5_init_88 ?_)
  refine zp5_18 hZ.1 rfl rfl dX5_init_90 zw1380 ?_
  refine rx_by (e_ldR _ _) (s_aload_n hZ.1 dX5_init_93 rfl ?_)
  refine rx_by (e_ldI _ _) (s_iload_n hZ.1 dX5_init_94 rfl ?_)
  exact (kX5_init_95 hZ)
noncomputable def bX5_init_0 : rx_K := q_ld q_isR 0 (q_obj (q_ld q_isR 0 (o_const 512 (p_newa 0 0 (p_putf q_isR 5 1 (q_ld q_isR 0 (o_const 512 (p_newa 0 0 (p_putf q_isR 5 2 (q_ld q_isR 0 (o_const 2560 (p_newa 0 0 (p_putf q_isR 5 3 (q_ld q_isR 0 (o_const 512 (p_newa 0 0 (p_putf q_isR 5 5 (q_ld q_isR 0 (o_const 528 (p_newa 0 0 (p_putf q_isR 5 7 (q_ld q_isR 0 (o_const 528 (bX5_init_48))))))))))))))))))))))))
set_option maxRecDepth 20000 in
theorem kX5_init_0 (hZ : zO b e D A X) : rx_OK (zV b e D A X) mX5_init 1 0 bX5_init_0 := by
  unfold bX5_init_0
  refine rx_by (e_ldR _ _) (s_aload_n hZ.1 dX5_init_0 rfl ?_)
  refine rx_by (e_obj _) (s_obj hZ.1 (by decide) zw1348 zw440 zw441 dX5_init_1 ?_)
  refine rx_by (e_ldR _ _) (s_aload_n hZ.1 dX5_init_4 rfl ?_)
  refine s_bipush dX5_init_5 (by decide +kernel) ?_
  refine rx_by2 (l_newa _ _ _) (s_newa (tt := 0) (ty := .int) rfl rfl rfl rfl rfl (by decide) zw527 dX5_init_7 ?_)
  refine zp5_1 hZ.1 rfl rfl dX5_init_9 zw1351 ?_
  refine rx_by (e_ldR _ _) (s_aload_n hZ.1 dX5_init_12 rfl ?_)
  refine s_bipush dX5_init_13 (by decide +kernel) ?_
  refine rx_by2 (l_newa _ _ _) (s_newa (tt := 0) (ty := .int) rfl rfl rfl rfl rfl (by decide) zw527 dX5_init_15 ?_)
  refine zp5_2 hZ.1 rfl rfl dX5_init_17 zw1354 ?_
  refine rx_by (e_ldR _ _) (s_aload_n hZ.1 dX5_init_20 rfl ?_)
  refine s_sipush dX5_init_21 (by decide +kernel) ?_
  refine rx_by2 (l_newa _ _ _) (s_newa (tt := 0) (ty := .int) rfl rfl rfl rfl rfl (by decide) zw527 dX5_init_24 ?_)
  refine zp5_3 hZ.1 rfl rfl dX5_init_26 zw1355 ?_
  refine rx_by (e_ldR _ _) (s_aload_n hZ.1 dX5_init_29 rfl ?_)
  refine s_bipush dX5_init_30 (by decide +kernel) ?_
  refine rx_by2 (l_newa _ _ _) (s_newa (tt := 0) (ty := .int) rfl rfl rfl rfl rfl (by decide) zw527 dX5_init_32 ?_)
  refine zp5_5 hZ.1 rfl rfl dX5_init_34 zw1359 ?_
  refine rx_by (e_ldR _ _) (s_aload_n hZ.1 dX5_init_37 rfl ?_)
  refine s_bipush dX5_init_38 (by decide +kernel) ?_
  refine rx_by2 (l_newa _ _ _) (s_newa (tt := 0) (ty := .int) rfl rfl rfl rfl rfl (by decide) zw527 dX5_init_40 ?_)
  refine zp5_7 hZ.1 rfl rfl dX5_init_42 zw1362 ?_
  refine rx_by (e_ldR _ _) (s_aload_n hZ.1 dX5_init_45 rfl ?_)
  refine s_bipush dX5_init_46 (by decide +kernel) ?_
  exact (kX5_init_48 hZ)
noncomputable def fX5_init : List Nat → rx_H → Option (Nat × rx_H) := rx_ent 2 bX5_init_0
theorem met_X5_init (hZ : zO b e D A X) : rx_Met (zV b e D A X) 1 yX5_init mX5_init fX5_init := rx_entry hZ.1 (kX5_init_0 hZ) (by decide +kernel) rfl (fun _ => rfl)
theorem zy_X5_init : rx_Y (zV b e D A X) yX5_init mX5_init 1 := ⟨zw1347, zw428, by decide, by decide +kernel, by decide +kernel, by decide +kernel⟩
noncomputable def bX2_init_0 : rx_K := q_ld q_isR 0 (q_obj (q_ld q_isR 0 (o_const 64000 (p_newa 0 0 (p_putf q_isR 2 3 (q_ld q_isR 0 (o_const 5600 (p_newa 0 0 (p_putf q_isR 2 8 (q_ld q_isR 0 (o_const 5600 (p_newa 0 0 (p_putf q_isR 2 9 (o_ret0))))))))))))))
set_option maxRecDepth 20000 in
theorem kX2_init_0 (hZ : zO b e D A X) : rx_OK (zV b e D A X) mX2_init 1 0 bX2_init_0 := by
  unfold bX2_init_0
  refine rx_by (e_ldR _ _) (s_aload_n hZ.1 dX2_init_0 rfl ?_)
  refine rx_by (e_obj _) (s_obj hZ.1 (by decide) zw1428 zw440 zw441 dX2_init_1 ?_)
  refine rx_by (e_ldR _ _) (s_aload_n hZ.1 dX2_init_4 rfl ?_)
  refine s_sipush dX2_init_5 (by decide +kernel) ?_
  refine rx_by2 (l_newa _ _ _) (s_newa (tt := 0) (ty := .int) rfl rfl rfl rfl rfl (by decide) zw527 dX2_init_8 ?_)
  refine zp2_3 hZ.1 rfl rfl dX2_init_10 zw1432 ?_
  refine rx_by (e_ldR _ _) (s_aload_n hZ.1 dX2_init_13 rfl ?_)
  refine s_sipush dX2_init_14 (by decide +kernel) ?_
  refine rx_by2 (l_newa _ _ _) (s_newa (tt := 0) (ty := .int) rfl rfl rfl rfl rfl (by decide) zw527 dX2_init_17 ?_)
  refine zp2_8 hZ.1 rfl rfl dX2_init_19 zw1440 ?_
  refine rx_by (e_ldR _ _) (s_aload_n hZ.1 dX2_init_22 rfl ?_)
  refine s_sipush dX2_init_23 (by decide +kernel) ?_
  refine rx_by2 (l_newa _ _ _) (s_newa (tt := 0) (ty := .int) rfl rfl rfl rfl rfl (by decide) zw527 dX2_init_26 ?_)
  refine zp2_9 hZ.1 rfl rfl dX2_init_28 zw1441 ?_
  exact s_vret rfl dX2_init_31
noncomputable def fX2_init : List Nat → rx_H → Option (Nat × rx_H) := rx_ent 1 bX2_init_0
theorem met_X2_init (hZ : zO b e D A X) : rx_Met (zV b e D A X) 1 yX2_init mX2_init fX2_init := rx_entry hZ.1 (kX2_init_0 hZ) (by decide +kernel) rfl (fun _ => rfl)
theorem zy_X2_init : rx_Y (zV b e D A X) yX2_init mX2_init 0 := ⟨zw1427, zw429, by decide, by decide +kernel, by decide +kernel, by decide +kernel⟩
noncomputable def bX6_init_54 : rx_K := p_putf q_isR 6 8 (q_ld q_isR 0 (o_const 1616 (p_newa 0 0 (p_putf q_isR 6 9 (q_ld q_isR 0 (o_const 16000 (p_newa 0 0 (p_putf q_isR 6 11 (q_ld q_isR 0 (o_const 10240 (p_newa 0 0 (p_putf q_isR 6 13 (q_ld q_isR 0 (o_const 800 (p_newa 0 0 (p_putf q_isR 6 15 (o_ret0)))))))))))))))))
set_option maxRecDepth 20000 in
theorem kX6_init_54 (hZ : zO b e D A X) : rx_OK (zV b e D A X) mX6_init 2 54 bX6_init_54 := by
  unfold bX6_init_54
  refine zp6_8 hZ.1 rfl rfl dX6_init_54 zw1483 ?_
  refine rx_by (e_ldR _ _) (s_aload_n hZ.1 dX6_init_57 rfl ?_)
  refine s_sipush dX6_init_58 (by decide +kernel) ?_
  refine rx_by2 (l_newa _ _ _) (s_newa (tt := 0) (ty := .int) rfl rfl rfl rfl rfl (by decide) zw527 dX6_init_61 ?_)
  refine zp6_9 hZ.1 rfl rfl dX6_init_63 zw1485 ?_
  refine rx_by (e_ldR _ _) (s_aload_n hZ.1 dX6_init_66 rfl ?_)
  refine s_sipush dX6_init_67 (by decide +kernel) ?_
  refine rx_by2 (l_newa _ _ _) (s_newa (tt := 0) (ty := .int) rfl rfl rfl rfl rfl (by decide) zw527 dX6_init_70 ?_)
  refine zp6_11 hZ.1 rfl rfl dX6_init_72 zw1489 ?_
  refine rx_by (e_ldR _ _) (s_aload_n hZ.1 dX6_init_75 rfl ?_)
  refine s_sipush dX6_init_76 (by decide +kernel) ?_
  refine rx_by2 (l_newa _ _ _) (s_newa (tt := 0) (ty := .int) rfl rfl rfl rfl rfl (by decide) zw527 dX6_init_79 ?_)
  refine zp6_13 hZ.1 rfl rfl dX6_init_81 zw1493 ?_
  refine rx_by (e_ldR _ _) (s_aload_n hZ.1 dX6_init_84 rfl ?_)
  refine s_bipush dX6_init_85 (by decide +kernel) ?_
  refine rx_by2 (l_newa _ _ _) (s_newa (tt := 0) (ty := .int) rfl rfl rfl rfl rfl (by decide) zw527 dX6_init_87 ?_)
  refine zp6_15 hZ.1 rfl rfl dX6_init_89 zw1496 ?_
  exact s_vret rfl dX6_init_92
noncomputable def bX6_init_0 : rx_K := q_ld q_isR 0 (q_obj (q_ld q_isR 0 (p_new 5 20 zfs5 (q_dup (o_const 39520 (o_callI 1 fX5_init (p_putf q_isR 6 1 (q_ld q_isR 0 (o_const 192000 (p_newa 0 0 (p_putf q_isR 6 2 (q_ld q_isR 0 (o_const 200 (o_const 56 (o_mna 8 0 0 (p_putf q_isR 6 4 (q_ld q_isR 0 (o_const 9216 (p_newa 0 0 (p_putf q_isR 6 6 (q_ld q_isR 0 (o_const 1616 (p_newa 0 0 (bX6_init_54))))))))))))))))))))))))
set_option maxRecDepth 20000 in
theorem kX6_init_0 (hZ : zO b e D A X) : rx_OK (zV b e D A X) mX6_init 2 0 bX6_init_0 := by
  unfold bX6_init_0
  refine rx_by (e_ldR _ _) (s_aload_n hZ.1 dX6_init_0 rfl ?_)
  refine rx_by (e_obj _) (s_obj hZ.1 (by decide) zw1468 zw440 zw441 dX6_init_1 ?_)
  refine rx_by (e_ldR _ _) (s_aload_n hZ.1 dX6_init_4 rfl ?_)
  refine rx_by2 (l_new _ _ _ _) (s_new zcl5 zfk5 dX6_init_5 zw1469 zw1344 zw428 ?_)
  refine rx_by (e_dup _) (s_dup hZ.1 dX6_init_8 ?_)
  refine s_sipush dX6_init_9 (by decide +kernel) ?_
  refine s_callI hZ.1 (met_X5_init hZ) (by decide) zy_X5_init rfl rfl zw1346 (Or.inl zw1470) dX6_init_12 ?_
  refine zp6_1 hZ.1 rfl rfl dX6_init_15 zw1474 ?_
  refine rx_by (e_ldR _ _) (s_aload_n hZ.1 dX6_init_18 rfl ?_)
  refine s_sipush dX6_init_19 (by decide +kernel) ?_
  refine rx_by2 (l_newa _ _ _) (s_newa (tt := 0) (ty := .int) rfl rfl rfl rfl rfl (by decide) zw527 dX6_init_22 ?_)
  refine zp6_2 hZ.1 rfl rfl dX6_init_24 zw1476 ?_
  refine rx_by (e_ldR _ _) (s_aload_n hZ.1 dX6_init_27 rfl ?_)
  refine s_bipush dX6_init_28 (by decide +kernel) ?_
  refine s_bipush dX6_init_30 (by decide +kernel) ?_
  refine s_mna (to := 8) (ti := 0) rfl rfl rfl (by decide +kernel) rfl rfl (by decide) (by decide +kernel) (by decide +kernel) (zo_A hZ) zw1471 zw527 dX6_init_32 ?_
  refine zp6_4 hZ.1 rfl rfl dX6_init_36 zw1478 ?_
  refine rx_by (e_ldR _ _) (s_aload_n hZ.1 dX6_init_39 rfl ?_)
  refine s_sipush dX6_init_40 (by decide +kernel) ?_
  refine rx_by2 (l_newa _ _ _) (s_newa (tt := 0) (ty := .int) rfl rfl rfl rfl rfl (by decide) zw527 dX6_init_43 ?_)
  refine zp6_6 hZ.1 rfl rfl dX6_init_45 zw1481 ?_
  refine rx_by (e_ldR _ _) (s_aload_n hZ.1 dX6_init_48 rfl ?_)
  refine s_sipush dX6_init_49 (by decide +kernel) ?_
  refine rx_by2 (l_newa _ _ _) (s_newa (tt := 0) (ty := .int) rfl rfl rfl rfl rfl (by decide) zw527 dX6_init_52 ?_)
  exact (kX6_init_54 hZ)
noncomputable def fX6_init : List Nat → rx_H → Option (Nat × rx_H) := rx_ent 1 bX6_init_0
theorem met_X6_init (hZ : zO b e D A X) : rx_Met (zV b e D A X) 2 yX6_init mX6_init fX6_init := rx_entry hZ.1 (kX6_init_0 hZ) (by decide +kernel) rfl (fun _ => rfl)
theorem zy_X6_init : rx_Y (zV b e D A X) yX6_init mX6_init 0 := ⟨zw1467, zw430, by decide, by decide +kernel, by decide +kernel, by decide +kernel⟩
noncomputable def bX11_clear_0 : rx_K := q_ld q_isR 0 (o_const 16 (p_putf q_isI 11 2 (q_ld q_isR 0 (q_getf 11 1 (o_const 0 (q_ld q_isR 0 (q_getf 11 0 (q_getf 1 2 (o_const 0 (q_ald 4 (p_aast 4 10 (q_ld q_isR 0 (q_getf 11 1 (o_const 8 (q_ld q_isR 0 (q_getf 11 0 (q_getf 1 2 (o_const 8 (q_ald 4 (p_aast 4 10 (o_ret0)))))))))))))))))))))
set_option maxRecDepth 20000 in
theorem kX11_clear_0 (hZ : zO b e D A X) : rx_OK (zV b e D A X) mX11_clear 0 0 bX11_clear_0 := by
  unfold bX11_clear_0
  refine rx_by (e_ldR _ _) (s_aload_n hZ.1 dX11_clear_0 rfl ?_)
  refine s_iconst dX11_clear_1 (by decide +kernel) ?_
  refine zp11_2 hZ.1 dX11_clear_2 zw1260 ?_
  refine rx_by (e_ldR _ _) (s_aload_n hZ.1 dX11_clear_5 rfl ?_)
  refine zg11_1 dX11_clear_6 zw1252 ?_
  refine s_iconst dX11_clear_9 (by decide +kernel) ?_
  refine rx_by (e_ldR _ _) (s_aload_n hZ.1 dX11_clear_10 rfl ?_)
  refine zg11_0 dX11_clear_11 zw1250 ?_
  refine zg1_2 dX11_clear_14 zw1116 ?_
  refine s_iconst dX11_clear_17 (by decide +kernel) ?_
  refine rx_by (e_ald _ _) (s_aald (tt := 4) rfl rfl dX11_clear_18 ?_)
  refine rx_by2 (l_aast _ _ _) (s_aast (tt := 4) rfl zaa10 dX11_clear_19 ?_)
  refine rx_by (e_ldR _ _) (s_aload_n hZ.1 dX11_clear_20 rfl ?_)
  refine zg11_1 dX11_clear_21 zw1252 ?_
  refine s_iconst dX11_clear_24 (by decide +kernel) ?_
  refine rx_by (e_ldR _ _) (s_aload_n hZ.1 dX11_clear_25 rfl ?_)
  refine zg11_0 dX11_clear_26 zw1250 ?_
  refine zg1_2 dX11_clear_29 zw1116 ?_
  refine s_iconst dX11_clear_32 (by decide +kernel) ?_
  refine rx_by (e_ald _ _) (s_aald (tt := 4) rfl rfl dX11_clear_33 ?_)
  refine rx_by2 (l_aast _ _ _) (s_aast (tt := 4) rfl zaa10 dX11_clear_34 ?_)
  exact s_vret rfl dX11_clear_35
noncomputable def fX11_clear : List Nat → rx_H → Option (Nat × rx_H) := rx_ent 1 bX11_clear_0
theorem met_X11_clear (hZ : zO b e D A X) : rx_Met (zV b e D A X) 0 yX11_clear mX11_clear fX11_clear := rx_entry hZ.1 (kX11_clear_0 hZ) (by decide +kernel) rfl (fun h => by cases h)
theorem zy_X11_clear : rx_Y (zV b e D A X) yX11_clear mX11_clear 0 := ⟨zw1556, zw423, by decide, by decide +kernel, by decide +kernel, by decide +kernel⟩
noncomputable def bX12_allBuilt_24 (j : Nat → rx_K) : rx_K := q_ld q_isI 1 (o_ret1 rx_isI)
set_option maxRecDepth 20000 in
theorem kX12_allBuilt_24 (hZ : zO b e D A X) (j : Nat → rx_K) (hj : ∀ k pc, [4][k]? = some pc → rx_OK (zV b e D A X) mX12_allBuilt 0 pc (j k)) : rx_OK (zV b e D A X) mX12_allBuilt 0 24 (bX12_allBuilt_24 j) := by
  unfold bX12_allBuilt_24
  refine rx_by (e_ldI _ _) (s_iload_n hZ.1 dX12_allBuilt_24 rfl ?_)
  exact s_iret hZ.1 rfl dX12_allBuilt_25
noncomputable def bX12_allBuilt_9 (j : Nat → rx_K) : rx_K := q_ld q_isI 1 (q_ld q_isR 0 (q_getf 12 5 (q_ld q_isI 2 (q_ald 0 (q_bi q_Fadd (q_st q_isI 1 (q_inc 2 8 ((j 0)))))))))
set_option maxRecDepth 20000 in
theorem kX12_allBuilt_9 (hZ : zO b e D A X) (j : Nat → rx_K) (hj : ∀ k pc, [4][k]? = some pc → rx_OK (zV b e D A X) mX12_allBuilt 0 pc (j k)) : rx_OK (zV b e D A X) mX12_allBuilt 0 9 (bX12_allBuilt_9 j) := by
  unfold bX12_allBuilt_9
  refine rx_by (e_ldI _ _) (s_iload_n hZ.1 dX12_allBuilt_9 rfl ?_)
  refine rx_by (e_ldR _ _) (s_aload_n hZ.1 dX12_allBuilt_10 rfl ?_)
  refine zg12_5 dX12_allBuilt_11 zw1608 ?_
  refine rx_by (e_ldI _ _) (s_iload_n hZ.1 dX12_allBuilt_14 rfl ?_)
  refine rx_by (e_ald _ _) (s_iald (tt := 0) rfl dX12_allBuilt_15 ?_)
  refine rx_by (e_add _) (s_iadd dX12_allBuilt_16 ?_)
  refine rx_by (e_stI _ _) (s_istore_n hZ.1 dX12_allBuilt_17 rfl (Nat.le_of_ble_eq_true rfl) ?_)
  refine rx_by (e_inc (by decide +kernel) _) (s_iinc hZ.1 dX12_allBuilt_18 (Nat.le_of_ble_eq_true rfl) ?_)
  exact s_goto dX12_allBuilt_21 (by decide) (hj 0 4 rfl)
noncomputable def bX12_allBuilt_4 (j : Nat → rx_K) : rx_K := q_ld q_isI 2 (o_const 40 (q_lt2 (bX12_allBuilt_9 j) (bX12_allBuilt_24 j)))
set_option maxRecDepth 20000 in
theorem kX12_allBuilt_4 (hZ : zO b e D A X) (j : Nat → rx_K) (hj : ∀ k pc, [4][k]? = some pc → rx_OK (zV b e D A X) mX12_allBuilt 0 pc (j k)) : rx_OK (zV b e D A X) mX12_allBuilt 0 4 (bX12_allBuilt_4 j) := by
  unfold bX12_allBuilt_4
  refine rx_by (e_ldI _ _) (s_iload_n hZ.1 dX12_allBuilt_4 rfl ?_)
  refine s_iconst dX12_allBuilt_5 (by decide +kernel) ?_
  exact rx_by (e_lt2 _ _) (s_icmp_ge dX12_allBuilt_6 (by decide) (kX12_allBuilt_24 hZ j hj) (kX12_allBuilt_9 hZ j hj))
noncomputable def bX12_allBuilt_0 (j : Nat → rx_K) : rx_K := o_const 0 (q_st q_isI 1 (o_const 0 (q_st q_isI 2 ((bX12_allBuilt_4 j)))))
set_option maxRecDepth 20000 in
theorem kX12_allBuilt_0 (hZ : zO b e D A X) (j : Nat → rx_K) (hj : ∀ k pc, [4][k]? = some pc → rx_OK (zV b e D A X) mX12_allBuilt 0 pc (j k)) : rx_OK (zV b e D A X) mX12_allBuilt 0 0 (bX12_allBuilt_0 j) := by
  unfold bX12_allBuilt_0
  refine s_iconst dX12_allBuilt_0 (by decide +kernel) ?_
  refine rx_by (e_stI _ _) (s_istore_n hZ.1 dX12_allBuilt_1 rfl (Nat.le_of_ble_eq_true rfl) ?_)
  refine s_iconst dX12_allBuilt_2 (by decide +kernel) ?_
  refine rx_by (e_stI _ _) (s_istore_n hZ.1 dX12_allBuilt_3 rfl (Nat.le_of_ble_eq_true rfl) ?_)
  exact (kX12_allBuilt_4 hZ j hj)
noncomputable def hX12_allBuilt (j : Nat → rx_K) : List rx_K := [bX12_allBuilt_4 j]
theorem lX12_allBuilt (hZ : zO b e D A X) : ∀ n k pc, [4][k]? = some pc → rx_OK (zV b e D A X) mX12_allBuilt 0 pc (rx_J hX12_allBuilt n k) := rx_loop fun j hj k pc h => by
  match k, h with
  | 0, h =>
    have e9 := Option.some.inj (show some 4 = some pc from h)
    subst e9
    exact kX12_allBuilt_4 hZ j hj
  | _ + 1, h => exact absurd h (by simp)
noncomputable def fX12_allBuilt : List Nat → rx_H → Option (Nat × rx_H) := rx_ent 3 (bX12_allBuilt_0 (rx_J hX12_allBuilt 1000000))
theorem met_X12_allBuilt (hZ : zO b e D A X) : rx_Met (zV b e D A X) 0 yX12_allBuilt mX12_allBuilt fX12_allBuilt := rx_entry hZ.1 (kX12_allBuilt_0 hZ _ (lX12_allBuilt hZ 1000000)) (by decide +kernel) rfl (fun h => by cases h)
theorem zy_X12_allBuilt : rx_Y (zV b e D A X) yX12_allBuilt mX12_allBuilt 0 := ⟨zw1564, zw413, by decide, by decide +kernel, by decide +kernel, by decide +kernel⟩
noncomputable def bX12_buildOf_56 : rx_K := o_const 3 (o_ret1 rx_isR)
set_option maxRecDepth 20000 in
theorem kX12_buildOf_56 (hZ : zO b e D A X) : rx_OK (zV b e D A X) mX12_buildOf 1 56 bX12_buildOf_56 := by
  unfold bX12_buildOf_56
  refine s_null dX12_buildOf_56 ?_
  exact s_aret hZ.1 rfl (Or.inl ⟨_, rfl⟩) dX12_buildOf_57
noncomputable def bX12_buildOf_0 : rx_K := q_ld q_isR 0 (o_callV 0 12 fX12_allBuilt (q_st q_isI 3 (o_const 0 (q_st q_isI 4 (q_ld q_isI 4 (q_ld q_isI 3 (q_lt2 o_none bX12_buildOf_56)))))))
set_option maxRecDepth 20000 in
theorem kX12_buildOf_0 (hZ : zO b e D A X) : rx_OK (zV b e D A X) mX12_buildOf 1 0 bX12_buildOf_0 := by
  unfold bX12_buildOf_0
  refine rx_by (e_ldR _ _) (s_aload_n hZ.1 dX12_buildOf_0 rfl ?_)
  refine s_callV hZ.1 (met_X12_allBuilt hZ) (by decide) zy_X12_allBuilt zcl12 zw1563 zw2 (Or.inl zw1561) dX12_buildOf_1 ?_
  refine rx_by (e_stI _ _) (s_istore_n hZ.1 dX12_buildOf_4 rfl (Nat.le_of_ble_eq_true rfl) ?_)
  refine s_iconst dX12_buildOf_5 (by decide +kernel) ?_
  refine rx_by (e_stI _ _) (s_istore hZ.1 dX12_buildOf_6 (Nat.le_of_ble_eq_true rfl) ?_)
  refine rx_by (e_ldI _ _) (s_iload hZ.1 dX12_buildOf_8 ?_)
  refine rx_by (e_ldI _ _) (s_iload_n hZ.1 dX12_buildOf_10 rfl ?_)
  exact rx_by (e_lt2 _ _) (s_icmp_ge dX12_buildOf_11 (by decide) (kX12_buildOf_56 hZ) (s_none (pc := 14)))
noncomputable def fX12_buildOf : List Nat → rx_H → Option (Nat × rx_H) := rx_ent 5 bX12_buildOf_0
theorem met_X12_buildOf (hZ : zO b e D A X) : rx_Met (zV b e D A X) 1 yX12_buildOf mX12_buildOf fX12_buildOf := rx_entry hZ.1 (kX12_buildOf_0 hZ) (by decide +kernel) rfl (fun h => by cases h)
theorem zy_X12_buildOf : rx_Y (zV b e D A X) yX12_buildOf mX12_buildOf 2 := ⟨zw1560, zw413, by decide, by decide +kernel, by decide +kernel, by decide +kernel⟩
noncomputable def bX11_enter_115 : rx_K := o_ret0
set_option maxRecDepth 20000 in
theorem kX11_enter_115 (hZ : zO b e D A X) : rx_OK (zV b e D A X) mX11_enter 0 115 bX11_enter_115 := by
  unfold bX11_enter_115
  exact s_vret rfl dX11_enter_115
noncomputable def bX11_enter_0 : rx_K := o_const 0 (q_st q_isI 2 (q_ld q_isR 1 (o_nul bX11_enter_115 o_none)))
set_option maxRecDepth 20000 in
theorem kX11_enter_0 (hZ : zO b e D A X) : rx_OK (zV b e D A X) mX11_enter 0 0 bX11_enter_0 := by
  unfold bX11_enter_0
  refine s_iconst dX11_enter_0 (by decide +kernel) ?_
  refine rx_by (e_stI _ _) (s_istore_n hZ.1 dX11_enter_1 rfl (Nat.le_of_ble_eq_true rfl) ?_)
  refine rx_by (e_ldR _ _) (s_aload_n hZ.1 dX11_enter_2 rfl ?_)
  exact s_ifnull dX11_enter_3 (by decide) (kX11_enter_115 hZ) (s_none (pc := 6))
noncomputable def fX11_enter : List Nat → rx_H → Option (Nat × rx_H) := rx_ent 5 bX11_enter_0
theorem met_X11_enter (hZ : zO b e D A X) : rx_Met (zV b e D A X) 0 yX11_enter mX11_enter fX11_enter := rx_entry hZ.1 (kX11_enter_0 hZ) (by decide +kernel) rfl (fun h => by cases h)
theorem zy_X11_enter : rx_Y (zV b e D A X) yX11_enter mX11_enter 1 := ⟨zw1568, zw423, by decide, by decide +kernel, by decide +kernel, by decide +kernel⟩
noncomputable def bX11_find_58 : rx_K := o_ret1 rx_isI
set_option maxRecDepth 20000 in
theorem kX11_find_58 (hZ : zO b e D A X) : rx_OK (zV b e D A X) mX11_find 0 58 bX11_find_58 := by
  unfold bX11_find_58
  exact s_iret hZ.1 rfl dX11_find_58
noncomputable def bX11_find_40 : rx_K := o_const 0 (bX11_find_58)
set_option maxRecDepth 20000 in
theorem kX11_find_40 (hZ : zO b e D A X) : rx_OK (zV b e D A X) mX11_find 0 40 bX11_find_40 := by
  unfold bX11_find_40
  refine s_iconst dX11_find_40 (by decide +kernel) ?_
  exact s_goto dX11_find_41 (by decide) (kX11_find_58 hZ)
noncomputable def bX11_find_32 : rx_K := q_ld q_isL 1 (o_const 115324555267378511873 (o_bc (fun x y => lg_cmp x y) (q_eq1 bX11_find_40 o_none)))
set_option maxRecDepth 20000 in
theorem kX11_find_32 (hZ : zO b e D A X) : rx_OK (zV b e D A X) mX11_find 0 32 bX11_find_32 := by
  unfold bX11_find_32
  refine rx_by (e_ld _ _ _) (s_lload_n hZ.1 dX11_find_32 rfl ?_)
  refine s_ldc2 dX11_find_33 zw1225 (by decide +kernel) ?_
  refine s_lcmp dX11_find_36 ?_
  exact rx_by (e_eq1 _ _) (s_if_ne dX11_find_37 (by decide) (s_none (pc := 44)) (kX11_find_40 hZ))
noncomputable def bX11_find_0 : rx_K := o_const 16 (q_st q_isI 3 (q_ld q_isI 3 (q_ld q_isR 0 (q_getf 11 2 (q_lt2 o_none bX11_find_32)))))
set_option maxRecDepth 20000 in
theorem kX11_find_0 (hZ : zO b e D A X) : rx_OK (zV b e D A X) mX11_find 0 0 bX11_find_0 := by
  unfold bX11_find_0
  refine s_iconst dX11_find_0 (by decide +kernel) ?_
  refine rx_by (e_stI _ _) (s_istore_n hZ.1 dX11_find_1 rfl (Nat.le_of_ble_eq_true rfl) ?_)
  refine rx_by (e_ldI _ _) (s_iload_n hZ.1 dX11_find_2 rfl ?_)
  refine rx_by (e_ldR _ _) (s_aload_n hZ.1 dX11_find_3 rfl ?_)
  refine zg11_2 dX11_find_4 zw1260 ?_
  exact rx_by (e_lt2 _ _) (s_icmp_ge dX11_find_7 (by decide) (kX11_find_32 hZ) (s_none (pc := 10)))
noncomputable def fX11_find : List Nat → rx_H → Option (Nat × rx_H) := rx_ent 4 bX11_find_0
theorem met_X11_find (hZ : zO b e D A X) : rx_Met (zV b e D A X) 0 yX11_find mX11_find fX11_find := rx_entry hZ.1 (kX11_find_0 hZ) (by decide +kernel) rfl (fun h => by cases h)
theorem zy_X11_find : rx_Y (zV b e D A X) yX11_find mX11_find 1 := ⟨zw1576, zw423, by decide, by decide +kernel, by decide +kernel, by decide +kernel⟩
noncomputable def bX11_bars_93 : rx_K := o_const 0 (o_ret1 rx_isI)
set_option maxRecDepth 20000 in
theorem kX11_bars_93 (hZ : zO b e D A X) : rx_OK (zV b e D A X) mX11_bars 0 93 bX11_bars_93 := by
  unfold bX11_bars_93
  refine s_iconst dX11_bars_93 (by decide +kernel) ?_
  exact s_iret hZ.1 rfl dX11_bars_94
noncomputable def bX11_bars_66 : rx_K := q_ld q_isR 4 (q_getf 10 11 (o_const 16 (q_ald 0 (q_gt1 o_none bX11_bars_93))))
set_option maxRecDepth 20000 in
theorem kX11_bars_66 (hZ : zO b e D A X) : rx_OK (zV b e D A X) mX11_bars 0 66 bX11_bars_66 := by
  unfold bX11_bars_66
  refine rx_by (e_ldR _ _) (s_aload hZ.1 dX11_bars_66 ?_)
  refine zg10_11 dX11_bars_68 zw841 ?_
  refine s_iconst dX11_bars_71 (by decide +kernel) ?_
  refine rx_by (e_ald _ _) (s_iald (tt := 0) rfl dX11_bars_72 ?_)
  exact rx_by (e_gt1 _ _) (s_if_le dX11_bars_73 (by decide) (kX11_bars_93 hZ) (s_none (pc := 76)))
noncomputable def bX11_bars_58 : rx_K := q_ld q_isR 4 (q_getf 10 5 (q_eq1 bX11_bars_66 o_none))
set_option maxRecDepth 20000 in
theorem kX11_bars_58 (hZ : zO b e D A X) : rx_OK (zV b e D A X) mX11_bars 0 58 bX11_bars_58 := by
  unfold bX11_bars_58
  refine rx_by (e_ldR _ _) (s_aload hZ.1 dX11_bars_58 ?_)
  refine zg10_5 dX11_bars_60 zw803 ?_
  exact rx_by (e_eq1 _ _) (s_if_ne dX11_bars_63 (by decide) (s_none (pc := 89)) (kX11_bars_66 hZ))
noncomputable def bX11_bars_54 : rx_K := q_ld q_isI 3 (q_eq1 bX11_bars_66 bX11_bars_58)
set_option maxRecDepth 20000 in
theorem kX11_bars_54 (hZ : zO b e D A X) : rx_OK (zV b e D A X) mX11_bars 0 54 bX11_bars_54 := by
  unfold bX11_bars_54
  refine rx_by (e_ldI _ _) (s_iload_n hZ.1 dX11_bars_54 rfl ?_)
  exact rx_by (e_eq1 _ _) (s_if_eq dX11_bars_55 (by decide) (kX11_bars_66 hZ) (kX11_bars_58 hZ))
noncomputable def bX11_bars_25 : rx_K := q_ld q_isR 4 (q_getf 10 3 (q_eq1 o_none bX11_bars_54))
set_option maxRecDepth 20000 in
theorem kX11_bars_25 (hZ : zO b e D A X) : rx_OK (zV b e D A X) mX11_bars 0 25 bX11_bars_25 := by
  unfold bX11_bars_25
  refine rx_by (e_ldR _ _) (s_aload hZ.1 dX11_bars_25 ?_)
  refine zg10_3 dX11_bars_27 zw783 ?_
  exact rx_by (e_eq1 _ _) (s_if_ne dX11_bars_30 (by decide) (kX11_bars_54 hZ) (s_none (pc := 33)))
noncomputable def bX11_bars_6 : rx_K := q_ld q_isR 0 (q_getf 11 1 (q_ld q_isI 2 (q_ald 4 (q_st q_isR 4 (q_ld q_isR 4 (q_getf 10 4 (q_ld q_isI 3 (q_eq2 o_none bX11_bars_25))))))))
set_option maxRecDepth 20000 in
theorem kX11_bars_6 (hZ : zO b e D A X) : rx_OK (zV b e D A X) mX11_bars 0 6 bX11_bars_6 := by
  unfold bX11_bars_6
  refine rx_by (e_ldR _ _) (s_aload_n hZ.1 dX11_bars_6 rfl ?_)
  refine zg11_1 dX11_bars_7 zw1252 ?_
  refine rx_by (e_ldI _ _) (s_iload_n hZ.1 dX11_bars_10 rfl ?_)
  refine rx_by (e_ald _ _) (s_aald (tt := 4) rfl rfl dX11_bars_11 ?_)
  refine rx_by (e_stR _ _) (s_astore hZ.1 dX11_bars_12 (Nat.le_of_ble_eq_true rfl) ?_)
  refine rx_by (e_ldR _ _) (s_aload hZ.1 dX11_bars_14 ?_)
  refine zg10_4 dX11_bars_16 zw793 ?_
  refine rx_by (e_ldI _ _) (s_iload_n hZ.1 dX11_bars_19 rfl ?_)
  exact rx_by (e_eq2 _ _) (s_icmp_ne dX11_bars_20 (by decide) (kX11_bars_25 hZ) (s_none (pc := 23)))
noncomputable def bX11_bars_4 : rx_K := o_const 8 (o_ret1 rx_isI)
set_option maxRecDepth 20000 in
theorem kX11_bars_4 (hZ : zO b e D A X) : rx_OK (zV b e D A X) mX11_bars 0 4 bX11_bars_4 := by
  unfold bX11_bars_4
  refine s_iconst dX11_bars_4 (by decide +kernel) ?_
  exact s_iret hZ.1 rfl dX11_bars_5
noncomputable def bX11_bars_0 : rx_K := q_ld q_isI 2 (q_lt1 bX11_bars_4 bX11_bars_6)
set_option maxRecDepth 20000 in
theorem kX11_bars_0 (hZ : zO b e D A X) : rx_OK (zV b e D A X) mX11_bars 0 0 bX11_bars_0 := by
  unfold bX11_bars_0
  refine rx_by (e_ldI _ _) (s_iload_n hZ.1 dX11_bars_0 rfl ?_)
  exact rx_by (e_lt1 _ _) (s_if_ge dX11_bars_1 (by decide) (kX11_bars_6 hZ) (kX11_bars_4 hZ))
noncomputable def fX11_bars : List Nat → rx_H → Option (Nat × rx_H) := rx_ent 5 bX11_bars_0
theorem met_X11_bars (hZ : zO b e D A X) : rx_Met (zV b e D A X) 0 yX11_bars mX11_bars fX11_bars := rx_entry hZ.1 (kX11_bars_0 hZ) (by decide +kernel) rfl (fun h => by cases h)
theorem zy_X11_bars : rx_Y (zV b e D A X) yX11_bars mX11_bars 3 := ⟨zw1584, zw423, by decide, by decide +kernel, by decide +kernel, by decide +kernel⟩
noncomputable def bX11_close_267 (j : Nat → rx_K) : rx_K := o_ret0
set_option maxRecDepth 20000 in
theorem kX11_close_267 (hZ : zO b e D A X) (j : Nat → rx_K) (hj : ∀ k pc, [4, 18, 81, 176, 204][k]? = some pc → rx_OK (zV b e D A X) mX11_close 0 pc (j k)) : rx_OK (zV b e D A X) mX11_close 0 267 (bX11_close_267 j) := by
  unfold bX11_close_267
  exact s_vret rfl dX11_close_267
noncomputable def bX11_close_261 (j : Nat → rx_K) : rx_K := q_inc 2 8 ((j 3))
set_option maxRecDepth 20000 in
theorem kX11_close_261 (hZ : zO b e D A X) (j : Nat → rx_K) (hj : ∀ k pc, [4, 18, 81, 176, 204][k]? = some pc → rx_OK (zV b e D A X) mX11_close 0 pc (j k)) : rx_OK (zV b e D A X) mX11_close 0 261 (bX11_close_261 j) := by
  unfold bX11_close_261
  refine rx_by (e_inc (by decide +kernel) _) (s_iinc hZ.1 dX11_close_261 (Nat.le_of_ble_eq_true rfl) ?_)
  exact s_goto dX11_close_264 (by decide) (hj 3 176 rfl)
noncomputable def bX11_close_229 (j : Nat → rx_K) : rx_K := q_ld q_isL 3 (o_const 9 (q_ld q_isI 5 (o_bs (fun x y => x <<< (y.toInt64 &&& 63)) (o_bl (fun x y => x ||| y) (o_stL 3 (q_ld q_isR 0 (q_getf 11 4 (q_ld q_isI 2 (o_dup2 (q_ald 0 (o_const 8 (q_bi q_Fadd (p_ast 0 (fun v => v) q_isI (q_ld q_isR 0 (q_getf 11 3 (q_ld q_isI 5 (q_ald 0 (q_st q_isI 5 (q_inc 6 8 ((j 4)))))))))))))))))))))
set_option maxRecDepth 20000 in
theorem kX11_close_229 (hZ : zO b e D A X) (j : Nat → rx_K) (hj : ∀ k pc, [4, 18, 81, 176, 204][k]? = some pc → rx_OK (zV b e D A X) mX11_close 0 pc (j k)) : rx_OK (zV b e D A X) mX11_close 0 229 (bX11_close_229 j) := by
  unfold bX11_close_229
  refine rx_by (e_ld _ _ _) (s_lload_n hZ.1 dX11_close_229 rfl ?_)
  refine s_lconst dX11_close_230 (by decide +kernel) ?_
  refine rx_by (e_ldI _ _) (s_iload hZ.1 dX11_close_231 ?_)
  refine s_lshl dX11_close_233 ?_
  refine s_lor dX11_close_234 ?_
  refine s_lstore_n hZ.1 dX11_close_235 rfl (Nat.le_of_ble_eq_true rfl) ?_
  refine rx_by (e_ldR _ _) (s_aload_n hZ.1 dX11_close_236 rfl ?_)
  refine zg11_4 dX11_close_237 zw1267 ?_
  refine rx_by (e_ldI _ _) (s_iload_n hZ.1 dX11_close_240 rfl ?_)
  refine s_dup2 hZ.1 dX11_close_241 ?_
  refine rx_by (e_ald _ _) (s_iald (tt := 0) rfl dX11_close_242 ?_)
  refine s_iconst dX11_close_243 (by decide +kernel) ?_
  refine rx_by (e_add _) (s_iadd dX11_close_244 ?_)
  refine rx_by2 (l_astI _ _ _) (s_iast hZ.1 (tt := 0) rfl dX11_close_245 ?_)
  refine rx_by (e_ldR _ _) (s_aload_n hZ.1 dX11_close_246 rfl ?_)
  refine zg11_3 dX11_close_247 zw1262 ?_
  refine rx_by (e_ldI _ _) (s_iload hZ.1 dX11_close_250 ?_)
  refine rx_by (e_ald _ _) (s_iald (tt := 0) rfl dX11_close_252 ?_)
  refine rx_by (e_stI _ _) (s_istore hZ.1 dX11_close_253 (Nat.le_of_ble_eq_true rfl) ?_)
  refine rx_by (e_inc (by decide +kernel) _) (s_iinc hZ.1 dX11_close_255 (Nat.le_of_ble_eq_true rfl) ?_)
  exact s_goto dX11_close_258 (by decide) (hj 4 204 rfl)
noncomputable def bX11_close_218 (j : Nat → rx_K) : rx_K := q_ld q_isL 3 (q_ld q_isI 5 (o_bs (fun x y => (x.toUInt64 >>> (y.toInt64.toUInt64 &&& Int64.toUInt64 63)).toInt64) (o_const 9 (o_bl (fun x y => x &&& y) (o_const 1 (o_bc (fun x y => lg_cmp x y) (q_eq1 (bX11_close_229 j) (bX11_close_261 j))))))))
set_option maxRecDepth 20000 in
theorem kX11_close_218 (hZ : zO b e D A X) (j : Nat → rx_K) (hj : ∀ k pc, [4, 18, 81, 176, 204][k]? = some pc → rx_OK (zV b e D A X) mX11_close 0 pc (j k)) : rx_OK (zV b e D A X) mX11_close 0 218 (bX11_close_218 j) := by
  unfold bX11_close_218
  refine rx_by (e_ld _ _ _) (s_lload_n hZ.1 dX11_close_218 rfl ?_)
  refine rx_by (e_ldI _ _) (s_iload hZ.1 dX11_close_219 ?_)
  refine s_lushr dX11_close_221 ?_
  refine s_lconst dX11_close_222 (by decide +kernel) ?_
  refine s_land dX11_close_223 ?_
  refine s_lconst dX11_close_224 (by decide +kernel) ?_
  refine s_lcmp dX11_close_225 ?_
  exact rx_by (e_eq1 _ _) (s_if_ne dX11_close_226 (by decide) (kX11_close_261 hZ j hj) (kX11_close_229 hZ j hj))
noncomputable def bX11_close_213 (j : Nat → rx_K) : rx_K := q_ld q_isI 5 (q_lt1 (bX11_close_261 j) (bX11_close_218 j))
set_option maxRecDepth 20000 in
theorem kX11_close_213 (hZ : zO b e D A X) (j : Nat → rx_K) (hj : ∀ k pc, [4, 18, 81, 176, 204][k]? = some pc → rx_OK (zV b e D A X) mX11_close 0 pc (j k)) : rx_OK (zV b e D A X) mX11_close 0 213 (bX11_close_213 j) := by
  unfold bX11_close_213
  refine rx_by (e_ldI _ _) (s_iload hZ.1 dX11_close_213 ?_)
  exact rx_by (e_lt1 _ _) (s_if_lt dX11_close_215 (by decide) (kX11_close_261 hZ j hj) (kX11_close_218 hZ j hj))
noncomputable def bX11_close_204 (j : Nat → rx_K) : rx_K := q_ld q_isI 6 (q_ld q_isR 0 (q_getf 11 2 (q_lt2 (bX11_close_213 j) (bX11_close_261 j))))
set_option maxRecDepth 20000 in
theorem kX11_close_204 (hZ : zO b e D A X) (j : Nat → rx_K) (hj : ∀ k pc, [4, 18, 81, 176, 204][k]? = some pc → rx_OK (zV b e D A X) mX11_close 0 pc (j k)) : rx_OK (zV b e D A X) mX11_close 0 204 (bX11_close_204 j) := by
  unfold bX11_close_204
  refine rx_by (e_ldI _ _) (s_iload hZ.1 dX11_close_204 ?_)
  refine rx_by (e_ldR _ _) (s_aload_n hZ.1 dX11_close_206 rfl ?_)
  refine zg11_2 dX11_close_207 zw1260 ?_
  exact rx_by (e_lt2 _ _) (s_icmp_ge dX11_close_210 (by decide) (kX11_close_261 hZ j hj) (kX11_close_213 hZ j hj))
noncomputable def bX11_close_184 (j : Nat → rx_K) : rx_K := q_ld q_isR 0 (q_getf 11 4 (q_ld q_isI 2 (o_const 0 (p_ast 0 (fun v => v) q_isI (o_const 1 (o_stL 3 (q_ld q_isR 0 (q_getf 11 3 (q_ld q_isI 2 (q_ald 0 (q_st q_isI 5 (o_const 0 (q_st q_isI 6 ((bX11_close_204 j)))))))))))))))
set_option maxRecDepth 20000 in
theorem kX11_close_184 (hZ : zO b e D A X) (j : Nat → rx_K) (hj : ∀ k pc, [4, 18, 81, 176, 204][k]? = some pc → rx_OK (zV b e D A X) mX11_close 0 pc (j k)) : rx_OK (zV b e D A X) mX11_close 0 184 (bX11_close_184 j) := by
  unfold bX11_close_184
  refine rx_by (e_ldR _ _) (s_aload_n hZ.1 dX11_close_184 rfl ?_)
  refine zg11_4 dX11_close_185 zw1267 ?_
  refine rx_by (e_ldI _ _) (s_iload_n hZ.1 dX11_close_188 rfl ?_)
  refine s_iconst dX11_close_189 (by decide +kernel) ?_
  refine rx_by2 (l_astI _ _ _) (s_iast hZ.1 (tt := 0) rfl dX11_close_190 ?_)
  refine s_lconst dX11_close_191 (by decide +kernel) ?_
  refine s_lstore_n hZ.1 dX11_close_192 rfl (Nat.le_of_ble_eq_true rfl) ?_
  refine rx_by (e_ldR _ _) (s_aload_n hZ.1 dX11_close_193 rfl ?_)
  refine zg11_3 dX11_close_194 zw1262 ?_
  refine rx_by (e_ldI _ _) (s_iload_n hZ.1 dX11_close_197 rfl ?_)
  refine rx_by (e_ald _ _) (s_iald (tt := 0) rfl dX11_close_198 ?_)
  refine rx_by (e_stI _ _) (s_istore hZ.1 dX11_close_199 (Nat.le_of_ble_eq_true rfl) ?_)
  refine s_iconst dX11_close_201 (by decide +kernel) ?_
  refine rx_by (e_stI _ _) (s_istore hZ.1 dX11_close_202 (Nat.le_of_ble_eq_true rfl) ?_)
  exact (kX11_close_204 hZ j hj)
noncomputable def bX11_close_176 (j : Nat → rx_K) : rx_K := q_ld q_isI 2 (q_ld q_isR 0 (q_getf 11 2 (q_lt2 (bX11_close_184 j) (bX11_close_267 j))))
set_option maxRecDepth 20000 in
theorem kX11_close_176 (hZ : zO b e D A X) (j : Nat → rx_K) (hj : ∀ k pc, [4, 18, 81, 176, 204][k]? = some pc → rx_OK (zV b e D A X) mX11_close 0 pc (j k)) : rx_OK (zV b e D A X) mX11_close 0 176 (bX11_close_176 j) := by
  unfold bX11_close_176
  refine rx_by (e_ldI _ _) (s_iload_n hZ.1 dX11_close_176 rfl ?_)
  refine rx_by (e_ldR _ _) (s_aload_n hZ.1 dX11_close_177 rfl ?_)
  refine zg11_2 dX11_close_178 zw1260 ?_
  exact rx_by (e_lt2 _ _) (s_icmp_ge dX11_close_181 (by decide) (kX11_close_267 hZ j hj) (kX11_close_184 hZ j hj))
noncomputable def bX11_close_174 (j : Nat → rx_K) : rx_K := o_const 0 (q_st q_isI 2 ((bX11_close_176 j)))
set_option maxRecDepth 20000 in
theorem kX11_close_174 (hZ : zO b e D A X) (j : Nat → rx_K) (hj : ∀ k pc, [4, 18, 81, 176, 204][k]? = some pc → rx_OK (zV b e D A X) mX11_close 0 pc (j k)) : rx_OK (zV b e D A X) mX11_close 0 174 (bX11_close_174 j) := by
  unfold bX11_close_174
  refine s_iconst dX11_close_174 (by decide +kernel) ?_
  refine rx_by (e_stI _ _) (s_istore_n hZ.1 dX11_close_175 rfl (Nat.le_of_ble_eq_true rfl) ?_)
  exact (kX11_close_176 hZ j hj)
noncomputable def bX11_close_168 (j : Nat → rx_K) : rx_K := q_inc 2 8 ((j 0))
set_option maxRecDepth 20000 in
theorem kX11_close_168 (hZ : zO b e D A X) (j : Nat → rx_K) (hj : ∀ k pc, [4, 18, 81, 176, 204][k]? = some pc → rx_OK (zV b e D A X) mX11_close 0 pc (j k)) : rx_OK (zV b e D A X) mX11_close 0 168 (bX11_close_168 j) := by
  unfold bX11_close_168
  refine rx_by (e_inc (by decide +kernel) _) (s_iinc hZ.1 dX11_close_168 (Nat.le_of_ble_eq_true rfl) ?_)
  exact s_goto dX11_close_171 (by decide) (hj 0 4 rfl)
noncomputable def bX11_close_160 (j : Nat → rx_K) : rx_K := o_bi (fun x y => x ||| y) (q_st q_isI 1 (q_inc 3 8 ((j 1))))
set_option maxRecDepth 20000 in
theorem kX11_close_160 (hZ : zO b e D A X) (j : Nat → rx_K) (hj : ∀ k pc, [4, 18, 81, 176, 204][k]? = some pc → rx_OK (zV b e D A X) mX11_close 0 pc (j k)) : rx_OK (zV b e D A X) mX11_close 0 160 (bX11_close_160 j) := by
  unfold bX11_close_160
  refine s_ior dX11_close_160 ?_
  refine rx_by (e_stI _ _) (s_istore_n hZ.1 dX11_close_161 rfl (Nat.le_of_ble_eq_true rfl) ?_)
  refine rx_by (e_inc (by decide +kernel) _) (s_iinc hZ.1 dX11_close_162 (Nat.le_of_ble_eq_true rfl) ?_)
  exact s_goto dX11_close_165 (by decide) (hj 1 18 rfl)
noncomputable def bX11_close_159 (j : Nat → rx_K) : rx_K := o_const 0 ((bX11_close_160 j))
set_option maxRecDepth 20000 in
theorem kX11_close_159 (hZ : zO b e D A X) (j : Nat → rx_K) (hj : ∀ k pc, [4, 18, 81, 176, 204][k]? = some pc → rx_OK (zV b e D A X) mX11_close 0 pc (j k)) : rx_OK (zV b e D A X) mX11_close 0 159 (bX11_close_159 j) := by
  unfold bX11_close_159
  refine s_iconst dX11_close_159 (by decide +kernel) ?_
  exact (kX11_close_160 hZ j hj)
noncomputable def bX11_close_155 (j : Nat → rx_K) : rx_K := o_const 8 ((bX11_close_160 j))
set_option maxRecDepth 20000 in
theorem kX11_close_155 (hZ : zO b e D A X) (j : Nat → rx_K) (hj : ∀ k pc, [4, 18, 81, 176, 204][k]? = some pc → rx_OK (zV b e D A X) mX11_close 0 pc (j k)) : rx_OK (zV b e D A X) mX11_close 0 155 (bX11_close_155 j) := by
  unfold bX11_close_155
  refine s_iconst dX11_close_155 (by decide +kernel) ?_
  exact s_goto dX11_close_156 (by decide) (kX11_close_160 hZ j hj)
noncomputable def bX11_close_142 (j : Nat → rx_K) : rx_K := q_ld q_isI 1 (q_ld q_isR 0 (q_getf 11 9 (q_ld q_isI 3 (q_ald 1 (q_ld q_isL 4 (o_bc (fun x y => lg_cmp x y) (q_eq1 (bX11_close_159 j) (bX11_close_155 j))))))))
set_option maxRecDepth 20000 in
theorem kX11_close_142 (hZ : zO b e D A X) (j : Nat → rx_K) (hj : ∀ k pc, [4, 18, 81, 176, 204][k]? = some pc → rx_OK (zV b e D A X) mX11_close 0 pc (j k)) : rx_OK (zV b e D A X) mX11_close 0 142 (bX11_close_142 j) := by
  unfold bX11_close_142
  refine rx_by (e_ldI _ _) (s_iload_n hZ.1 dX11_close_142 rfl ?_)
  refine rx_by (e_ldR _ _) (s_aload_n hZ.1 dX11_close_143 rfl ?_)
  refine zg11_9 dX11_close_144 zw1281 ?_
  refine rx_by (e_ldI _ _) (s_iload_n hZ.1 dX11_close_147 rfl ?_)
  refine rx_by (e_ald _ _) (s_lald (tt := 1) rfl dX11_close_148 ?_)
  refine rx_by (e_ld _ _ _) (s_lload hZ.1 dX11_close_149 ?_)
  refine s_lcmp dX11_close_151 ?_
  exact rx_by (e_eq1 _ _) (s_if_eq dX11_close_152 (by decide) (kX11_close_159 hZ j hj) (kX11_close_155 hZ j hj))
noncomputable def bX11_close_134 (j : Nat → rx_K) : rx_K := o_bl (fun x y => x ||| y) (p_ast 1 (fun v => v) q_isL (q_inc 6 8 ((j 2))))
set_option maxRecDepth 20000 in
theorem kX11_close_134 (hZ : zO b e D A X) (j : Nat → rx_K) (hj : ∀ k pc, [4, 18, 81, 176, 204][k]? = some pc → rx_OK (zV b e D A X) mX11_close 0 pc (j k)) : rx_OK (zV b e D A X) mX11_close 0 134 (bX11_close_134 j) := by
  unfold bX11_close_134
  refine s_lor dX11_close_134 ?_
  refine rx_by2 (l_ast _ _ _ _) (s_last (tt := 1) rfl dX11_close_135 ?_)
  refine rx_by (e_inc (by decide +kernel) _) (s_iinc hZ.1 dX11_close_136 (Nat.le_of_ble_eq_true rfl) ?_)
  exact s_goto dX11_close_139 (by decide) (hj 2 81 rfl)
noncomputable def bX11_close_108 (j : Nat → rx_K) : rx_K := o_const 1 ((bX11_close_134 j))
set_option maxRecDepth 20000 in
theorem kX11_close_108 (hZ : zO b e D A X) (j : Nat → rx_K) (hj : ∀ k pc, [4, 18, 81, 176, 204][k]? = some pc → rx_OK (zV b e D A X) mX11_close 0 pc (j k)) : rx_OK (zV b e D A X) mX11_close 0 108 (bX11_close_108 j) := by
  unfold bX11_close_108
  refine s_lconst dX11_close_108 (by decide +kernel) ?_
  exact s_goto dX11_close_109 (by decide) (kX11_close_134 hZ j hj)
noncomputable def bX11_close_91 (j : Nat → rx_K) : rx_K := q_ld q_isR 0 (q_getf 11 9 (q_ld q_isI 3 (o_dup2 (q_ald 1 (q_ld q_isR 0 (q_getf 11 5 (q_ld q_isI 6 (q_ald 0 (q_lt1 (bX11_close_108 j) o_none)))))))))
set_option maxRecDepth 20000 in
theorem kX11_close_91 (hZ : zO b e D A X) (j : Nat → rx_K) (hj : ∀ k pc, [4, 18, 81, 176, 204][k]? = some pc → rx_OK (zV b e D A X) mX11_close 0 pc (j k)) : rx_OK (zV b e D A X) mX11_close 0 91 (bX11_close_91 j) := by
  unfold bX11_close_91
  refine rx_by (e_ldR _ _) (s_aload_n hZ.1 dX11_close_91 rfl ?_)
  refine zg11_9 dX11_close_92 zw1281 ?_
  refine rx_by (e_ldI _ _) (s_iload_n hZ.1 dX11_close_95 rfl ?_)
  refine s_dup2 hZ.1 dX11_close_96 ?_
  refine rx_by (e_ald _ _) (s_lald (tt := 1) rfl dX11_close_97 ?_)
  refine rx_by (e_ldR _ _) (s_aload_n hZ.1 dX11_close_98 rfl ?_)
  refine zg11_5 dX11_close_99 zw1272 ?_
  refine rx_by (e_ldI _ _) (s_iload hZ.1 dX11_close_102 ?_)
  refine rx_by (e_ald _ _) (s_iald (tt := 0) rfl dX11_close_104 ?_)
  exact rx_by (e_lt1 _ _) (s_if_ge dX11_close_105 (by decide) (s_none (pc := 112)) (kX11_close_108 hZ j hj))
noncomputable def bX11_close_81 (j : Nat → rx_K) : rx_K := q_ld q_isI 6 (q_ld q_isI 3 (o_const 32 (q_bi q_Fmul (o_const 32 (q_bi q_Fadd (q_lt2 (bX11_close_91 j) (bX11_close_142 j)))))))
set_option maxRecDepth 20000 in
theorem kX11_close_81 (hZ : zO b e D A X) (j : Nat → rx_K) (hj : ∀ k pc, [4, 18, 81, 176, 204][k]? = some pc → rx_OK (zV b e D A X) mX11_close 0 pc (j k)) : rx_OK (zV b e D A X) mX11_close 0 81 (bX11_close_81 j) := by
  unfold bX11_close_81
  refine rx_by (e_ldI _ _) (s_iload hZ.1 dX11_close_81 ?_)
  refine rx_by (e_ldI _ _) (s_iload_n hZ.1 dX11_close_83 rfl ?_)
  refine s_iconst dX11_close_84 (by decide +kernel) ?_
  refine rx_by (e_mul _) (s_imul dX11_close_85 ?_)
  refine s_iconst dX11_close_86 (by decide +kernel) ?_
  refine rx_by (e_add _) (s_iadd dX11_close_87 ?_)
  exact rx_by (e_lt2 _ _) (s_icmp_ge dX11_close_88 (by decide) (kX11_close_142 hZ j hj) (kX11_close_91 hZ j hj))
noncomputable def bX11_close_74 (j : Nat → rx_K) : rx_K := o_bl (fun x y => x ||| y) (p_ast 1 (fun v => v) q_isL (q_ld q_isI 3 (o_const 32 (q_bi q_Fmul (q_st q_isI 6 ((bX11_close_81 j)))))))
set_option maxRecDepth 20000 in
theorem kX11_close_74 (hZ : zO b e D A X) (j : Nat → rx_K) (hj : ∀ k pc, [4, 18, 81, 176, 204][k]? = some pc → rx_OK (zV b e D A X) mX11_close 0 pc (j k)) : rx_OK (zV b e D A X) mX11_close 0 74 (bX11_close_74 j) := by
  unfold bX11_close_74
  refine s_lor dX11_close_74 ?_
  refine rx_by2 (l_ast _ _ _ _) (s_last (tt := 1) rfl dX11_close_75 ?_)
  refine rx_by (e_ldI _ _) (s_iload_n hZ.1 dX11_close_76 rfl ?_)
  refine s_iconst dX11_close_77 (by decide +kernel) ?_
  refine rx_by (e_mul _) (s_imul dX11_close_78 ?_)
  refine rx_by (e_stI _ _) (s_istore hZ.1 dX11_close_79 (Nat.le_of_ble_eq_true rfl) ?_)
  exact (kX11_close_81 hZ j hj)
noncomputable def bX11_close_54 (j : Nat → rx_K) : rx_K := o_const 9 (q_ld q_isR 0 (q_getf 11 3 (q_ld q_isI 3 (q_ald 0 (o_bs (fun x y => x <<< (y.toInt64 &&& 63)) (q_ld q_isR 0 (q_getf 11 9 (q_ld q_isR 0 (q_getf 11 3 (q_ld q_isI 3 (q_ald 0 (q_ald 1 (o_bl (fun x y => x ||| y) ((bX11_close_74 j)))))))))))))))
set_option maxRecDepth 20000 in
theorem kX11_close_54 (hZ : zO b e D A X) (j : Nat → rx_K) (hj : ∀ k pc, [4, 18, 81, 176, 204][k]? = some pc → rx_OK (zV b e D A X) mX11_close 0 pc (j k)) : rx_OK (zV b e D A X) mX11_close 0 54 (bX11_close_54 j) := by
  unfold bX11_close_54
  refine s_lconst dX11_close_54 (by decide +kernel) ?_
  refine rx_by (e_ldR _ _) (s_aload_n hZ.1 dX11_close_55 rfl ?_)
  refine zg11_3 dX11_close_56 zw1262 ?_
  refine rx_by (e_ldI _ _) (s_iload_n hZ.1 dX11_close_59 rfl ?_)
  refine rx_by (e_ald _ _) (s_iald (tt := 0) rfl dX11_close_60 ?_)
  refine s_lshl dX11_close_61 ?_
  refine rx_by (e_ldR _ _) (s_aload_n hZ.1 dX11_close_62 rfl ?_)
  refine zg11_9 dX11_close_63 zw1281 ?_
  refine rx_by (e_ldR _ _) (s_aload_n hZ.1 dX11_close_66 rfl ?_)
  refine zg11_3 dX11_close_67 zw1262 ?_
  refine rx_by (e_ldI _ _) (s_iload_n hZ.1 dX11_close_70 rfl ?_)
  refine rx_by (e_ald _ _) (s_iald (tt := 0) rfl dX11_close_71 ?_)
  refine rx_by (e_ald _ _) (s_lald (tt := 1) rfl dX11_close_72 ?_)
  refine s_lor dX11_close_73 ?_
  exact (kX11_close_74 hZ j hj)
noncomputable def bX11_close_50 (j : Nat → rx_K) : rx_K := o_const 1 ((bX11_close_74 j))
set_option maxRecDepth 20000 in
theorem kX11_close_50 (hZ : zO b e D A X) (j : Nat → rx_K) (hj : ∀ k pc, [4, 18, 81, 176, 204][k]? = some pc → rx_OK (zV b e D A X) mX11_close 0 pc (j k)) : rx_OK (zV b e D A X) mX11_close 0 50 (bX11_close_50 j) := by
  unfold bX11_close_50
  refine s_lconst dX11_close_50 (by decide +kernel) ?_
  exact s_goto dX11_close_51 (by decide) (kX11_close_74 hZ j hj)
noncomputable def bX11_close_26 (j : Nat → rx_K) : rx_K := q_ld q_isR 0 (q_getf 11 9 (q_ld q_isI 3 (q_ald 1 (o_stL 4 (q_ld q_isR 0 (q_getf 11 9 (q_ld q_isI 3 (o_dup2 (q_ald 1 (q_ld q_isR 0 (q_getf 11 3 (q_ld q_isI 3 (q_ald 0 (q_lt1 (bX11_close_50 j) (bX11_close_54 j)))))))))))))))
set_option maxRecDepth 20000 in
theorem kX11_close_26 (hZ : zO b e D A X) (j : Nat → rx_K) (hj : ∀ k pc, [4, 18, 81, 176, 204][k]? = some pc → rx_OK (zV b e D A X) mX11_close 0 pc (j k)) : rx_OK (zV b e D A X) mX11_close 0 26 (bX11_close_26 j) := by
  unfold bX11_close_26
  refine rx_by (e_ldR _ _) (s_aload_n hZ.1 dX11_close_26 rfl ?_)
  refine zg11_9 dX11_close_27 zw1281 ?_
  refine rx_by (e_ldI _ _) (s_iload_n hZ.1 dX11_close_30 rfl ?_)
  refine rx_by (e_ald _ _) (s_lald (tt := 1) rfl dX11_close_31 ?_)
  refine s_lstore hZ.1 dX11_close_32 (Nat.le_of_ble_eq_true rfl) ?_
  refine rx_by (e_ldR _ _) (s_aload_n hZ.1 dX11_close_34 rfl ?_)
  refine zg11_9 dX11_close_35 zw1281 ?_
  refine rx_by (e_ldI _ _) (s_iload_n hZ.1 dX11_close_38 rfl ?_)
  refine s_dup2 hZ.1 dX11_close_39 ?_
  refine rx_by (e_ald _ _) (s_lald (tt := 1) rfl dX11_close_40 ?_)
  refine rx_by (e_ldR _ _) (s_aload_n hZ.1 dX11_close_41 rfl ?_)
  refine zg11_3 dX11_close_42 zw1262 ?_
  refine rx_by (e_ldI _ _) (s_iload_n hZ.1 dX11_close_45 rfl ?_)
  refine rx_by (e_ald _ _) (s_iald (tt := 0) rfl dX11_close_46 ?_)
  exact rx_by (e_lt1 _ _) (s_if_ge dX11_close_47 (by decide) (kX11_close_54 hZ j hj) (kX11_close_50 hZ j hj))
noncomputable def bX11_close_18 (j : Nat → rx_K) : rx_K := q_ld q_isI 3 (q_ld q_isR 0 (q_getf 11 2 (q_lt2 (bX11_close_26 j) (bX11_close_168 j))))
set_option maxRecDepth 20000 in
theorem kX11_close_18 (hZ : zO b e D A X) (j : Nat → rx_K) (hj : ∀ k pc, [4, 18, 81, 176, 204][k]? = some pc → rx_OK (zV b e D A X) mX11_close 0 pc (j k)) : rx_OK (zV b e D A X) mX11_close 0 18 (bX11_close_18 j) := by
  unfold bX11_close_18
  refine rx_by (e_ldI _ _) (s_iload_n hZ.1 dX11_close_18 rfl ?_)
  refine rx_by (e_ldR _ _) (s_aload_n hZ.1 dX11_close_19 rfl ?_)
  refine zg11_2 dX11_close_20 zw1260 ?_
  exact rx_by (e_lt2 _ _) (s_icmp_ge dX11_close_23 (by decide) (kX11_close_168 hZ j hj) (kX11_close_26 hZ j hj))
noncomputable def bX11_close_14 (j : Nat → rx_K) : rx_K := o_const 0 (q_st q_isI 1 (o_const 0 (q_st q_isI 3 ((bX11_close_18 j)))))
set_option maxRecDepth 20000 in
theorem kX11_close_14 (hZ : zO b e D A X) (j : Nat → rx_K) (hj : ∀ k pc, [4, 18, 81, 176, 204][k]? = some pc → rx_OK (zV b e D A X) mX11_close 0 pc (j k)) : rx_OK (zV b e D A X) mX11_close 0 14 (bX11_close_14 j) := by
  unfold bX11_close_14
  refine s_iconst dX11_close_14 (by decide +kernel) ?_
  refine rx_by (e_stI _ _) (s_istore_n hZ.1 dX11_close_15 rfl (Nat.le_of_ble_eq_true rfl) ?_)
  refine s_iconst dX11_close_16 (by decide +kernel) ?_
  refine rx_by (e_stI _ _) (s_istore_n hZ.1 dX11_close_17 rfl (Nat.le_of_ble_eq_true rfl) ?_)
  exact (kX11_close_18 hZ j hj)
noncomputable def bX11_close_10 (j : Nat → rx_K) : rx_K := q_ld q_isI 1 (q_eq1 (bX11_close_174 j) (bX11_close_14 j))
set_option maxRecDepth 20000 in
theorem kX11_close_10 (hZ : zO b e D A X) (j : Nat → rx_K) (hj : ∀ k pc, [4, 18, 81, 176, 204][k]? = some pc → rx_OK (zV b e D A X) mX11_close 0 pc (j k)) : rx_OK (zV b e D A X) mX11_close 0 10 (bX11_close_10 j) := by
  unfold bX11_close_10
  refine rx_by (e_ldI _ _) (s_iload_n hZ.1 dX11_close_10 rfl ?_)
  exact rx_by (e_eq1 _ _) (s_if_eq dX11_close_11 (by decide) (kX11_close_174 hZ j hj) (kX11_close_14 hZ j hj))
noncomputable def bX11_close_4 (j : Nat → rx_K) : rx_K := q_ld q_isI 2 (o_const 512 (q_gt2 (bX11_close_174 j) (bX11_close_10 j)))
set_option maxRecDepth 20000 in
theorem kX11_close_4 (hZ : zO b e D A X) (j : Nat → rx_K) (hj : ∀ k pc, [4, 18, 81, 176, 204][k]? = some pc → rx_OK (zV b e D A X) mX11_close 0 pc (j k)) : rx_OK (zV b e D A X) mX11_close 0 4 (bX11_close_4 j) := by
  unfold bX11_close_4
  refine rx_by (e_ldI _ _) (s_iload_n hZ.1 dX11_close_4 rfl ?_)
  refine s_bipush dX11_close_5 (by decide +kernel) ?_
  exact rx_by (e_gt2 _ _) (s_icmp_gt dX11_close_7 (by decide) (kX11_close_174 hZ j hj) (kX11_close_10 hZ j hj))
noncomputable def bX11_close_0 (j : Nat → rx_K) : rx_K := o_const 8 (q_st q_isI 1 (o_const 0 (q_st q_isI 2 ((bX11_close_4 j)))))
set_option maxRecDepth 20000 in
theorem kX11_close_0 (hZ : zO b e D A X) (j : Nat → rx_K) (hj : ∀ k pc, [4, 18, 81, 176, 204][k]? = some pc → rx_OK (zV b e D A X) mX11_close 0 pc (j k)) : rx_OK (zV b e D A X) mX11_close 0 0 (bX11_close_0 j) := by
  unfold bX11_close_0
  refine s_iconst dX11_close_0 (by decide +kernel) ?_
  refine rx_by (e_stI _ _) (s_istore_n hZ.1 dX11_close_1 rfl (Nat.le_of_ble_eq_true rfl) ?_)
  refine s_iconst dX11_close_2 (by decide +kernel) ?_
  refine rx_by (e_stI _ _) (s_istore_n hZ.1 dX11_close_3 rfl (Nat.le_of_ble_eq_true rfl) ?_)
  exact (kX11_close_4 hZ j hj)
noncomputable def hX11_close (j : Nat → rx_K) : List rx_K := [bX11_close_4 j, bX11_close_18 j, bX11_close_81 j, bX11_close_176 j, bX11_close_204 j]
theorem lX11_close (hZ : zO b e D A X) : ∀ n k pc, [4, 18, 81, 176, 204][k]? = some pc → rx_OK (zV b e D A X) mX11_close 0 pc (rx_J hX11_close n k) := rx_loop fun j hj k pc h => by
  match k, h with
  | 0, h =>
    have e9 := Option.some.inj (show some 4 = some pc from h)
    subst e9
    exact kX11_close_4 hZ j hj
  | 1, h =>
    have e9 := Option.some.inj (show some 18 = some pc from h)
    subst e9
    exact kX11_close_18 hZ j hj
  | 2, h =>
    have e9 := Option.some.inj (show some 81 = some pc from h)
    subst e9
    exact kX11_close_81 hZ j hj
  | 3, h =>
    have e9 := Option.some.inj (show some 176 = some pc from h)
    subst e9
    exact kX11_close_176 hZ j hj
  | 4, h =>
    have e9 := Option.some.inj (show some 204 = some pc from h)
    subst e9
    exact kX11_close_204 hZ j hj
  | _ + 5, h => exact absurd h (by simp)
noncomputable def fX11_close : List Nat → rx_H → Option (Nat × rx_H) := rx_ent 7 (bX11_close_0 (rx_J hX11_close 1000000))
theorem met_X11_close (hZ : zO b e D A X) : rx_Met (zV b e D A X) 0 yX11_close mX11_close fX11_close := rx_entry hZ.1 (kX11_close_0 hZ _ (lX11_close hZ 1000000)) (by decide +kernel) rfl (fun h => by cases h)
theorem zy_X11_close : rx_Y (zV b e D A X) yX11_close mX11_close 0 := ⟨zw1592, zw423, by decide, by decide +kernel, by decide +kernel, by decide +kernel⟩
noncomputable def bX11_settle_302 (j : Nat → rx_K) : rx_K := q_ld q_isR 0 (o_callV 0 11 fX11_close (o_ret0))
set_option maxRecDepth 20000 in
theorem kX11_settle_302 (hZ : zO b e D A X) (j : Nat → rx_K) (hj : ∀ k pc, [2, 186][k]? = some pc → rx_OK (zV b e D A X) mX11_settle 1 pc (j k)) : rx_OK (zV b e D A X) mX11_settle 1 302 (bX11_settle_302 j) := by
  unfold bX11_settle_302
  refine rx_by (e_ldR _ _) (s_aload_n hZ.1 dX11_settle_302 rfl ?_)
  refine s_callV hZ.1 (met_X11_close hZ) (by decide) zy_X11_close zcl11 zw1591 zw4 (Or.inl zw1589) dX11_settle_303 ?_
  exact s_vret rfl dX11_settle_306
noncomputable def bX11_settle_281 (j : Nat → rx_K) : rx_K := q_ld q_isR 0 (q_getf 11 9 (q_ld q_isI 1 (o_const 1 (p_ast 1 (fun v => v) q_isL (q_ld q_isR 0 (q_getf 11 11 (q_ld q_isI 1 (o_const 34359738352 (p_ast 0 (fun v => v) q_isI (q_inc 1 8 ((j 0))))))))))))
set_option maxRecDepth 20000 in
theorem kX11_settle_281 (hZ : zO b e D A X) (j : Nat → rx_K) (hj : ∀ k pc, [2, 186][k]? = some pc → rx_OK (zV b e D A X) mX11_settle 1 pc (j k)) : rx_OK (zV b e D A X) mX11_settle 1 281 (bX11_settle_281 j) := by
  unfold bX11_settle_281
  refine rx_by (e_ldR _ _) (s_aload_n hZ.1 dX11_settle_281 rfl ?_)
  refine zg11_9 dX11_settle_282 zw1281 ?_
  refine rx_by (e_ldI _ _) (s_iload_n hZ.1 dX11_settle_285 rfl ?_)
  refine s_lconst dX11_settle_286 (by decide +kernel) ?_
  refine rx_by2 (l_ast _ _ _ _) (s_last (tt := 1) rfl dX11_settle_287 ?_)
  refine rx_by (e_ldR _ _) (s_aload_n hZ.1 dX11_settle_288 rfl ?_)
  refine zg11_11 dX11_settle_289 zw1286 ?_
  refine rx_by (e_ldI _ _) (s_iload_n hZ.1 dX11_settle_292 rfl ?_)
  refine s_bipush dX11_settle_293 (by decide +kernel) ?_
  refine rx_by2 (l_astI _ _ _) (s_iast hZ.1 (tt := 0) rfl dX11_settle_295 ?_)
  refine rx_by (e_inc (by decide +kernel) _) (s_iinc hZ.1 dX11_settle_296 (Nat.le_of_ble_eq_true rfl) ?_)
  exact s_goto dX11_settle_299 (by decide) (hj 0 2 rfl)
noncomputable def bX11_settle_273 (j : Nat → rx_K) : rx_K := o_const 0 (p_ast 0 (fun v => v) q_isI (q_inc 4 8 ((j 1))))
set_option maxRecDepth 20000 in
theorem kX11_settle_273 (hZ : zO b e D A X) (j : Nat → rx_K) (hj : ∀ k pc, [2, 186][k]? = some pc → rx_OK (zV b e D A X) mX11_settle 1 pc (j k)) : rx_OK (zV b e D A X) mX11_settle 1 273 (bX11_settle_273 j) := by
  unfold bX11_settle_273
  refine s_iconst dX11_settle_273 (by decide +kernel) ?_
  refine rx_by2 (l_astI _ _ _) (s_iast hZ.1 (tt := 0) rfl dX11_settle_274 ?_)
  refine rx_by (e_inc (by decide +kernel) _) (s_iinc hZ.1 dX11_settle_275 (Nat.le_of_ble_eq_true rfl) ?_)
  exact s_goto dX11_settle_278 (by decide) (hj 1 186 rfl)
noncomputable def bX11_settle_227 (j : Nat → rx_K) : rx_K := o_const 34359738352 (p_ast 0 (fun v => v) q_isI (q_ld q_isR 0 (q_getf 11 6 (q_ld q_isI 1 (o_const 40 (q_bi q_Fmul (o_const 8 (q_bi q_Fadd (q_ld q_isI 4 (q_bi q_Fadd (q_ld q_isI 4 (q_ld q_isR 2 (q_getf 10 11 (o_const 0 (q_ald 0 (q_lt2 o_none (bX11_settle_273 j)))))))))))))))))
set_option maxRecDepth 20000 in
theorem kX11_settle_227 (hZ : zO b e D A X) (j : Nat → rx_K) (hj : ∀ k pc, [2, 186][k]? = some pc → rx_OK (zV b e D A X) mX11_settle 1 pc (j k)) : rx_OK (zV b e D A X) mX11_settle 1 227 (bX11_settle_227 j) := by
  unfold bX11_settle_227
  refine s_bipush dX11_settle_227 (by decide +kernel) ?_
  refine rx_by2 (l_astI _ _ _) (s_iast hZ.1 (tt := 0) rfl dX11_settle_229 ?_)
  refine rx_by (e_ldR _ _) (s_aload_n hZ.1 dX11_settle_230 rfl ?_)
  refine zg11_6 dX11_settle_231 zw1275 ?_
  refine rx_by (e_ldI _ _) (s_iload_n hZ.1 dX11_settle_234 rfl ?_)
  refine s_iconst dX11_settle_235 (by decide +kernel) ?_
  refine rx_by (e_mul _) (s_imul dX11_settle_236 ?_)
  refine s_iconst dX11_settle_237 (by decide +kernel) ?_
  refine rx_by (e_add _) (s_iadd dX11_settle_238 ?_)
  refine rx_by (e_ldI _ _) (s_iload hZ.1 dX11_settle_239 ?_)
  refine rx_by (e_add _) (s_iadd dX11_settle_241 ?_)
  refine rx_by (e_ldI _ _) (s_iload hZ.1 dX11_settle_242 ?_)
  refine rx_by (e_ldR _ _) (s_aload_n hZ.1 dX11_settle_244 rfl ?_)
  refine zg10_11 dX11_settle_245 zw841 ?_
  refine s_iconst dX11_settle_248 (by decide +kernel) ?_
  refine rx_by (e_ald _ _) (s_iald (tt := 0) rfl dX11_settle_249 ?_)
  exact rx_by (e_lt2 _ _) (s_icmp_ge dX11_settle_250 (by decide) (kX11_settle_273 hZ j hj) (s_none (pc := 253)))
noncomputable def bX11_settle_192 (j : Nat → rx_K) : rx_K := q_ld q_isR 0 (q_getf 11 5 (q_ld q_isI 1 (o_const 32 (q_bi q_Fmul (q_ld q_isI 4 (q_bi q_Fadd (q_ld q_isI 4 (q_ld q_isR 2 (q_getf 10 11 (o_const 0 (q_ald 0 (q_lt2 o_none (bX11_settle_227 j)))))))))))))
set_option maxRecDepth 20000 in
theorem kX11_settle_192 (hZ : zO b e D A X) (j : Nat → rx_K) (hj : ∀ k pc, [2, 186][k]? = some pc → rx_OK (zV b e D A X) mX11_settle 1 pc (j k)) : rx_OK (zV b e D A X) mX11_settle 1 192 (bX11_settle_192 j) := by
  unfold bX11_settle_192
  refine rx_by (e_ldR _ _) (s_aload_n hZ.1 dX11_settle_192 rfl ?_)
  refine zg11_5 dX11_settle_193 zw1272 ?_
  refine rx_by (e_ldI _ _) (s_iload_n hZ.1 dX11_settle_196 rfl ?_)
  refine s_iconst dX11_settle_197 (by decide +kernel) ?_
  refine rx_by (e_mul _) (s_imul dX11_settle_198 ?_)
  refine rx_by (e_ldI _ _) (s_iload hZ.1 dX11_settle_199 ?_)
  refine rx_by (e_add _) (s_iadd dX11_settle_201 ?_)
  refine rx_by (e_ldI _ _) (s_iload hZ.1 dX11_settle_202 ?_)
  refine rx_by (e_ldR _ _) (s_aload_n hZ.1 dX11_settle_204 rfl ?_)
  refine zg10_11 dX11_settle_205 zw841 ?_
  refine s_iconst dX11_settle_208 (by decide +kernel) ?_
  refine rx_by (e_ald _ _) (s_iald (tt := 0) rfl dX11_settle_209 ?_)
  exact rx_by (e_lt2 _ _) (s_icmp_ge dX11_settle_210 (by decide) (kX11_settle_227 hZ j hj) (s_none (pc := 213)))
noncomputable def bX11_settle_186 (j : Nat → rx_K) : rx_K := q_ld q_isI 4 (o_const 32 (q_lt2 (bX11_settle_192 j) (bX11_settle_281 j)))
set_option maxRecDepth 20000 in
theorem kX11_settle_186 (hZ : zO b e D A X) (j : Nat → rx_K) (hj : ∀ k pc, [2, 186][k]? = some pc → rx_OK (zV b e D A X) mX11_settle 1 pc (j k)) : rx_OK (zV b e D A X) mX11_settle 1 186 (bX11_settle_186 j) := by
  unfold bX11_settle_186
  refine rx_by (e_ldI _ _) (s_iload hZ.1 dX11_settle_186 ?_)
  refine s_iconst dX11_settle_188 (by decide +kernel) ?_
  exact rx_by (e_lt2 _ _) (s_icmp_ge dX11_settle_189 (by decide) (kX11_settle_281 hZ j hj) (kX11_settle_192 hZ j hj))
noncomputable def bX11_settle_170 (j : Nat → rx_K) : rx_K := q_ld q_isR 0 (q_ld q_isR 2 (q_ld q_isR 0 (q_getf 11 3 (q_ld q_isI 1 (q_ald 0 (o_const 8 (o_callV 3 11 fX11_bars (p_ast 0 (fun v => v) q_isI (o_const 0 (q_st q_isI 4 ((bX11_settle_186 j))))))))))))
set_option maxRecDepth 20000 in
theorem kX11_settle_170 (hZ : zO b e D A X) (j : Nat → rx_K) (hj : ∀ k pc, [2, 186][k]? = some pc → rx_OK (zV b e D A X) mX11_settle 1 pc (j k)) : rx_OK (zV b e D A X) mX11_settle 1 170 (bX11_settle_170 j) := by
  unfold bX11_settle_170
  refine rx_by (e_ldR _ _) (s_aload_n hZ.1 dX11_settle_170 rfl ?_)
  refine rx_by (e_ldR _ _) (s_aload_n hZ.1 dX11_settle_171 rfl ?_)
  refine rx_by (e_ldR _ _) (s_aload_n hZ.1 dX11_settle_172 rfl ?_)
  refine zg11_3 dX11_settle_173 zw1262 ?_
  refine rx_by (e_ldI _ _) (s_iload_n hZ.1 dX11_settle_176 rfl ?_)
  refine rx_by (e_ald _ _) (s_iald (tt := 0) rfl dX11_settle_177 ?_)
  refine s_iconst dX11_settle_178 (by decide +kernel) ?_
  refine s_callV hZ.1 (met_X11_bars hZ) (by decide) zy_X11_bars zcl11 zw1583 zw3 (Or.inl zw1581) dX11_settle_179 ?_
  refine rx_by2 (l_astI _ _ _) (s_iast hZ.1 (tt := 0) rfl dX11_settle_182 ?_)
  refine s_iconst dX11_settle_183 (by decide +kernel) ?_
  refine rx_by (e_stI _ _) (s_istore hZ.1 dX11_settle_184 (Nat.le_of_ble_eq_true rfl) ?_)
  exact (kX11_settle_186 hZ j hj)
noncomputable def bX11_settle_150 (j : Nat → rx_K) : rx_K := q_ld q_isI 1 (p_ast 0 (fun v => v) q_isI (q_ld q_isR 0 (q_getf 11 6 (q_ld q_isI 1 (o_const 40 (q_bi q_Fmul (q_ld q_isR 2 (q_getf 10 4 (q_eq1 (bX11_settle_170 j) o_none)))))))))
set_option maxRecDepth 20000 in
theorem kX11_settle_150 (hZ : zO b e D A X) (j : Nat → rx_K) (hj : ∀ k pc, [2, 186][k]? = some pc → rx_OK (zV b e D A X) mX11_settle 1 pc (j k)) : rx_OK (zV b e D A X) mX11_settle 1 150 (bX11_settle_150 j) := by
  unfold bX11_settle_150
  refine rx_by (e_ldI _ _) (s_iload_n hZ.1 dX11_settle_150 rfl ?_)
  refine rx_by2 (l_astI _ _ _) (s_iast hZ.1 (tt := 0) rfl dX11_settle_151 ?_)
  refine rx_by (e_ldR _ _) (s_aload_n hZ.1 dX11_settle_152 rfl ?_)
  refine zg11_6 dX11_settle_153 zw1275 ?_
  refine rx_by (e_ldI _ _) (s_iload_n hZ.1 dX11_settle_156 rfl ?_)
  refine s_iconst dX11_settle_157 (by decide +kernel) ?_
  refine rx_by (e_mul _) (s_imul dX11_settle_158 ?_)
  refine rx_by (e_ldR _ _) (s_aload_n hZ.1 dX11_settle_159 rfl ?_)
  refine zg10_4 dX11_settle_160 zw793 ?_
  exact rx_by (e_eq1 _ _) (s_if_eq dX11_settle_163 (by decide) (kX11_settle_170 hZ j hj) (s_none (pc := 166)))
noncomputable def bX11_settle_130 (j : Nat → rx_K) : rx_K := o_const 0 (q_st q_isI 3 (q_ld q_isR 0 (q_getf 11 8 (q_ld q_isI 1 (q_ld q_isI 3 (q_eq1 (bX11_settle_150 j) o_none))))))
set_option maxRecDepth 20000 in
theorem kX11_settle_130 (hZ : zO b e D A X) (j : Nat → rx_K) (hj : ∀ k pc, [2, 186][k]? = some pc → rx_OK (zV b e D A X) mX11_settle 1 pc (j k)) : rx_OK (zV b e D A X) mX11_settle 1 130 (bX11_settle_130 j) := by
  unfold bX11_settle_130
  refine s_iconst dX11_settle_130 (by decide +kernel) ?_
  refine rx_by (e_stI _ _) (s_istore_n hZ.1 dX11_settle_131 rfl (Nat.le_of_ble_eq_true rfl) ?_)
  refine rx_by (e_ldR _ _) (s_aload_n hZ.1 dX11_settle_132 rfl ?_)
  refine zg11_8 dX11_settle_133 zw1279 ?_
  refine rx_by (e_ldI _ _) (s_iload_n hZ.1 dX11_settle_136 rfl ?_)
  refine rx_by (e_ldI _ _) (s_iload_n hZ.1 dX11_settle_137 rfl ?_)
  exact rx_by (e_eq1 _ _) (s_if_eq dX11_settle_138 (by decide) (kX11_settle_150 hZ j hj) (s_none (pc := 141)))
noncomputable def bX11_settle_76 (j : Nat → rx_K) : rx_K := p_ast 0 (fun v => v) q_isI (q_ld q_isR 0 (q_getf 11 7 (q_ld q_isI 1 (q_ald 0 (q_lt1 (bX11_settle_130 j) o_none)))))
set_option maxRecDepth 20000 in
theorem kX11_settle_76 (hZ : zO b e D A X) (j : Nat → rx_K) (hj : ∀ k pc, [2, 186][k]? = some pc → rx_OK (zV b e D A X) mX11_settle 1 pc (j k)) : rx_OK (zV b e D A X) mX11_settle 1 76 (bX11_settle_76 j) := by
  unfold bX11_settle_76
  refine rx_by2 (l_astI _ _ _) (s_iast hZ.1 (tt := 0) rfl dX11_settle_76 ?_)
  refine rx_by (e_ldR _ _) (s_aload_n hZ.1 dX11_settle_77 rfl ?_)
  refine zg11_7 dX11_settle_78 zw1277 ?_
  refine rx_by (e_ldI _ _) (s_iload_n hZ.1 dX11_settle_81 rfl ?_)
  refine rx_by (e_ald _ _) (s_iald (tt := 0) rfl dX11_settle_82 ?_)
  exact rx_by (e_lt1 _ _) (s_if_lt dX11_settle_83 (by decide) (kX11_settle_130 hZ j hj) (s_none (pc := 86)))
noncomputable def bX11_settle_63 (j : Nat → rx_K) : rx_K := o_const 34359738352 ((bX11_settle_76 j))
set_option maxRecDepth 20000 in
theorem kX11_settle_63 (hZ : zO b e D A X) (j : Nat → rx_K) (hj : ∀ k pc, [2, 186][k]? = some pc → rx_OK (zV b e D A X) mX11_settle 1 pc (j k)) : rx_OK (zV b e D A X) mX11_settle 1 63 (bX11_settle_63 j) := by
  unfold bX11_settle_63
  refine s_bipush dX11_settle_63 (by decide +kernel) ?_
  exact s_goto dX11_settle_65 (by decide) (kX11_settle_76 hZ j hj)
noncomputable def bX11_settle_46 (j : Nat → rx_K) : rx_K := p_ast 0 (fun v => v) q_isI (q_ld q_isR 0 (q_getf 11 7 (q_ld q_isI 1 (q_ld q_isR 2 (q_getf 10 9 (o_const 147573952589676412897 (o_bc (fun x y => lg_cmp x y) (q_eq1 (bX11_settle_63 j) o_none))))))))
set_option maxRecDepth 20000 in
theorem kX11_settle_46 (hZ : zO b e D A X) (j : Nat → rx_K) (hj : ∀ k pc, [2, 186][k]? = some pc → rx_OK (zV b e D A X) mX11_settle 1 pc (j k)) : rx_OK (zV b e D A X) mX11_settle 1 46 (bX11_settle_46 j) := by
  unfold bX11_settle_46
  refine rx_by2 (l_astI _ _ _) (s_iast hZ.1 (tt := 0) rfl dX11_settle_46 ?_)
  refine rx_by (e_ldR _ _) (s_aload_n hZ.1 dX11_settle_47 rfl ?_)
  refine zg11_7 dX11_settle_48 zw1277 ?_
  refine rx_by (e_ldI _ _) (s_iload_n hZ.1 dX11_settle_51 rfl ?_)
  refine rx_by (e_ldR _ _) (s_aload_n hZ.1 dX11_settle_52 rfl ?_)
  refine zg10_9 dX11_settle_53 zw831 ?_
  refine s_ldc2 dX11_settle_56 zw1226 (by decide +kernel) ?_
  refine s_lcmp dX11_settle_59 ?_
  exact rx_by (e_eq1 _ _) (s_if_ne dX11_settle_60 (by decide) (s_none (pc := 68)) (kX11_settle_63 hZ j hj))
noncomputable def bX11_settle_38 (j : Nat → rx_K) : rx_K := q_ld q_isR 0 (q_ld q_isR 2 (q_getf 10 8 (o_callV 1 11 fX11_find ((bX11_settle_46 j)))))
set_option maxRecDepth 20000 in
theorem kX11_settle_38 (hZ : zO b e D A X) (j : Nat → rx_K) (hj : ∀ k pc, [2, 186][k]? = some pc → rx_OK (zV b e D A X) mX11_settle 1 pc (j k)) : rx_OK (zV b e D A X) mX11_settle 1 38 (bX11_settle_38 j) := by
  unfold bX11_settle_38
  refine rx_by (e_ldR _ _) (s_aload_n hZ.1 dX11_settle_38 rfl ?_)
  refine rx_by (e_ldR _ _) (s_aload_n hZ.1 dX11_settle_39 rfl ?_)
  refine zg10_8 dX11_settle_40 zw821 ?_
  refine s_callV hZ.1 (met_X11_find hZ) (by decide) zy_X11_find zcl11 zw1574 zw1575 (Or.inl zw1573) dX11_settle_43 ?_
  exact (kX11_settle_46 hZ j hj)
noncomputable def bX11_settle_33 (j : Nat → rx_K) : rx_K := o_const 34359738352 ((bX11_settle_46 j))
set_option maxRecDepth 20000 in
theorem kX11_settle_33 (hZ : zO b e D A X) (j : Nat → rx_K) (hj : ∀ k pc, [2, 186][k]? = some pc → rx_OK (zV b e D A X) mX11_settle 1 pc (j k)) : rx_OK (zV b e D A X) mX11_settle 1 33 (bX11_settle_33 j) := by
  unfold bX11_settle_33
  refine s_bipush dX11_settle_33 (by decide +kernel) ?_
  exact s_goto dX11_settle_35 (by decide) (kX11_settle_46 hZ j hj)
noncomputable def bX11_settle_26 (j : Nat → rx_K) : rx_K := q_ld q_isR 2 (q_getf 10 4 (q_eq1 (bX11_settle_38 j) (bX11_settle_33 j)))
set_option maxRecDepth 20000 in
theorem kX11_settle_26 (hZ : zO b e D A X) (j : Nat → rx_K) (hj : ∀ k pc, [2, 186][k]? = some pc → rx_OK (zV b e D A X) mX11_settle 1 pc (j k)) : rx_OK (zV b e D A X) mX11_settle 1 26 (bX11_settle_26 j) := by
  unfold bX11_settle_26
  refine rx_by (e_ldR _ _) (s_aload_n hZ.1 dX11_settle_26 rfl ?_)
  refine zg10_4 dX11_settle_27 zw793 ?_
  exact rx_by (e_eq1 _ _) (s_if_eq dX11_settle_30 (by decide) (kX11_settle_38 hZ j hj) (kX11_settle_33 hZ j hj))
noncomputable def bX11_settle_10 (j : Nat → rx_K) : rx_K := q_ld q_isR 0 (q_getf 11 1 (q_ld q_isI 1 (q_ald 4 (q_st q_isR 2 (q_ld q_isR 0 (q_getf 11 3 (q_ld q_isI 1 (q_ld q_isI 1 (q_eq1 (bX11_settle_33 j) (bX11_settle_26 j))))))))))
set_option maxRecDepth 20000 in
theorem kX11_settle_10 (hZ : zO b e D A X) (j : Nat → rx_K) (hj : ∀ k pc, [2, 186][k]? = some pc → rx_OK (zV b e D A X) mX11_settle 1 pc (j k)) : rx_OK (zV b e D A X) mX11_settle 1 10 (bX11_settle_10 j) := by
  unfold bX11_settle_10
  refine rx_by (e_ldR _ _) (s_aload_n hZ.1 dX11_settle_10 rfl ?_)
  refine zg11_1 dX11_settle_11 zw1252 ?_
  refine rx_by (e_ldI _ _) (s_iload_n hZ.1 dX11_settle_14 rfl ?_)
  refine rx_by (e_ald _ _) (s_aald (tt := 4) rfl rfl dX11_settle_15 ?_)
  refine rx_by (e_stR _ _) (s_astore_n hZ.1 dX11_settle_16 rfl (Nat.le_of_ble_eq_true rfl) ?_)
  refine rx_by (e_ldR _ _) (s_aload_n hZ.1 dX11_settle_17 rfl ?_)
  refine zg11_3 dX11_settle_18 zw1262 ?_
  refine rx_by (e_ldI _ _) (s_iload_n hZ.1 dX11_settle_21 rfl ?_)
  refine rx_by (e_ldI _ _) (s_iload_n hZ.1 dX11_settle_22 rfl ?_)
  exact rx_by (e_eq1 _ _) (s_if_eq dX11_settle_23 (by decide) (kX11_settle_33 hZ j hj) (kX11_settle_26 hZ j hj))
noncomputable def bX11_settle_2 (j : Nat → rx_K) : rx_K := q_ld q_isI 1 (q_ld q_isR 0 (q_getf 11 2 (q_lt2 (bX11_settle_10 j) (bX11_settle_302 j))))
set_option maxRecDepth 20000 in
theorem kX11_settle_2 (hZ : zO b e D A X) (j : Nat → rx_K) (hj : ∀ k pc, [2, 186][k]? = some pc → rx_OK (zV b e D A X) mX11_settle 1 pc (j k)) : rx_OK (zV b e D A X) mX11_settle 1 2 (bX11_settle_2 j) := by
  unfold bX11_settle_2
  refine rx_by (e_ldI _ _) (s_iload_n hZ.1 dX11_settle_2 rfl ?_)
  refine rx_by (e_ldR _ _) (s_aload_n hZ.1 dX11_settle_3 rfl ?_)
  refine zg11_2 dX11_settle_4 zw1260 ?_
  exact rx_by (e_lt2 _ _) (s_icmp_ge dX11_settle_7 (by decide) (kX11_settle_302 hZ j hj) (kX11_settle_10 hZ j hj))
noncomputable def bX11_settle_0 (j : Nat → rx_K) : rx_K := o_const 0 (q_st q_isI 1 ((bX11_settle_2 j)))
set_option maxRecDepth 20000 in
theorem kX11_settle_0 (hZ : zO b e D A X) (j : Nat → rx_K) (hj : ∀ k pc, [2, 186][k]? = some pc → rx_OK (zV b e D A X) mX11_settle 1 pc (j k)) : rx_OK (zV b e D A X) mX11_settle 1 0 (bX11_settle_0 j) := by
  unfold bX11_settle_0
  refine s_iconst dX11_settle_0 (by decide +kernel) ?_
  refine rx_by (e_stI _ _) (s_istore_n hZ.1 dX11_settle_1 rfl (Nat.le_of_ble_eq_true rfl) ?_)
  exact (kX11_settle_2 hZ j hj)
noncomputable def hX11_settle (j : Nat → rx_K) : List rx_K := [bX11_settle_2 j, bX11_settle_186 j]
theorem lX11_settle (hZ : zO b e D A X) : ∀ n k pc, [2, 186][k]? = some pc → rx_OK (zV b e D A X) mX11_settle 1 pc (rx_J hX11_settle n k) := rx_loop fun j hj k pc h => by
  match k, h with
  | 0, h =>
    have e9 := Option.some.inj (show some 2 = some pc from h)
    subst e9
    exact kX11_settle_2 hZ j hj
  | 1, h =>
    have e9 := Option.some.inj (show some 186 = some pc from h)
    subst e9
    exact kX11_settle_186 hZ j hj
  | _ + 2, h => exact absurd h (by simp)
noncomputable def fX11_settle : List Nat → rx_H → Option (Nat × rx_H) := rx_ent 5 (bX11_settle_0 (rx_J hX11_settle 1000000))
theorem met_X11_settle (hZ : zO b e D A X) : rx_Met (zV b e D A X) 1 yX11_settle mX11_settle fX11_settle := rx_entry hZ.1 (kX11_settle_0 hZ _ (lX11_settle hZ 1000000)) (by decide +kernel) rfl (fun h => by cases h)
theorem zy_X11_settle : rx_Y (zV b e D A X) yX11_settle mX11_settle 0 := ⟨zw1572, zw423, by decide, by decide +kernel, by decide +kernel, by decide +kernel⟩
noncomputable def bX12_gather_29 (j : Nat → rx_K) : rx_K := q_ld q_isR 1 (o_callV 0 11 fX11_settle (o_ret0))
set_option maxRecDepth 20000 in
theorem kX12_gather_29 (hZ : zO b e D A X) (j : Nat → rx_K) (hj : ∀ k pc, [6][k]? = some pc → rx_OK (zV b e D A X) mX12_gather 2 pc (j k)) : rx_OK (zV b e D A X) mX12_gather 2 29 (bX12_gather_29 j) := by
  unfold bX12_gather_29
  refine rx_by (e_ldR _ _) (s_aload_n hZ.1 dX12_gather_29 rfl ?_)
  refine s_callV hZ.1 (met_X11_settle hZ) (by decide) zy_X11_settle zcl11 zw1570 zw1571 (Or.inl zw1569) dX12_gather_30 ?_
  exact s_vret rfl dX12_gather_33
noncomputable def bX12_gather_11 (j : Nat → rx_K) : rx_K := q_ld q_isR 1 (q_ld q_isR 0 (q_ld q_isI 3 (q_ld q_isR 2 (q_ld q_isI 3 (q_ald 0 (o_callV 2 12 fX12_buildOf (o_callV 1 11 fX11_enter (q_inc 3 8 ((j 0))))))))))
set_option maxRecDepth 20000 in
theorem kX12_gather_11 (hZ : zO b e D A X) (j : Nat → rx_K) (hj : ∀ k pc, [6][k]? = some pc → rx_OK (zV b e D A X) mX12_gather 2 pc (j k)) : rx_OK (zV b e D A X) mX12_gather 2 11 (bX12_gather_11 j) := by
  unfold bX12_gather_11
  refine rx_by (e_ldR _ _) (s_aload_n hZ.1 dX12_gather_11 rfl ?_)
  refine rx_by (e_ldR _ _) (s_aload_n hZ.1 dX12_gather_12 rfl ?_)
  refine rx_by (e_ldI _ _) (s_iload_n hZ.1 dX12_gather_13 rfl ?_)
  refine rx_by (e_ldR _ _) (s_aload_n hZ.1 dX12_gather_14 rfl ?_)
  refine rx_by (e_ldI _ _) (s_iload_n hZ.1 dX12_gather_15 rfl ?_)
  refine rx_by (e_ald _ _) (s_iald (tt := 0) rfl dX12_gather_16 ?_)
  refine s_callV hZ.1 (met_X12_buildOf hZ) (by decide) zy_X12_buildOf zcl12 zw1559 zw1 (Or.inl zw1557) dX12_gather_17 ?_
  refine s_callV hZ.1 (met_X11_enter hZ) (by decide) zy_X11_enter zcl11 zw1566 zw1567 (Or.inl zw1565) dX12_gather_20 ?_
  refine rx_by (e_inc (by decide +kernel) _) (s_iinc hZ.1 dX12_gather_23 (Nat.le_of_ble_eq_true rfl) ?_)
  exact s_goto dX12_gather_26 (by decide) (hj 0 6 rfl)
noncomputable def bX12_gather_6 (j : Nat → rx_K) : rx_K := q_ld q_isI 3 (o_const 40 (q_lt2 (bX12_gather_11 j) (bX12_gather_29 j)))
set_option maxRecDepth 20000 in
theorem kX12_gather_6 (hZ : zO b e D A X) (j : Nat → rx_K) (hj : ∀ k pc, [6][k]? = some pc → rx_OK (zV b e D A X) mX12_gather 2 pc (j k)) : rx_OK (zV b e D A X) mX12_gather 2 6 (bX12_gather_6 j) := by
  unfold bX12_gather_6
  refine rx_by (e_ldI _ _) (s_iload_n hZ.1 dX12_gather_6 rfl ?_)
  refine s_iconst dX12_gather_7 (by decide +kernel) ?_
  exact rx_by (e_lt2 _ _) (s_icmp_ge dX12_gather_8 (by decide) (kX12_gather_29 hZ j hj) (kX12_gather_11 hZ j hj))
noncomputable def bX12_gather_0 (j : Nat → rx_K) : rx_K := q_ld q_isR 1 (o_callV 0 11 fX11_clear (o_const 0 (q_st q_isI 3 ((bX12_gather_6 j)))))
set_option maxRecDepth 20000 in
theorem kX12_gather_0 (hZ : zO b e D A X) (j : Nat → rx_K) (hj : ∀ k pc, [6][k]? = some pc → rx_OK (zV b e D A X) mX12_gather 2 pc (j k)) : rx_OK (zV b e D A X) mX12_gather 2 0 (bX12_gather_0 j) := by
  unfold bX12_gather_0
  refine rx_by (e_ldR _ _) (s_aload_n hZ.1 dX12_gather_0 rfl ?_)
  refine s_callV hZ.1 (met_X11_clear hZ) (by decide) zy_X11_clear zcl11 zw1554 zw1555 (Or.inl zw1553) dX12_gather_1 ?_
  refine s_iconst dX12_gather_4 (by decide +kernel) ?_
  refine rx_by (e_stI _ _) (s_istore_n hZ.1 dX12_gather_5 rfl (Nat.le_of_ble_eq_true rfl) ?_)
  exact (kX12_gather_6 hZ j hj)
noncomputable def hX12_gather (j : Nat → rx_K) : List rx_K := [bX12_gather_6 j]
theorem lX12_gather (hZ : zO b e D A X) : ∀ n k pc, [6][k]? = some pc → rx_OK (zV b e D A X) mX12_gather 2 pc (rx_J hX12_gather n k) := rx_loop fun j hj k pc h => by
  match k, h with
  | 0, h =>
    have e9 := Option.some.inj (show some 6 = some pc from h)
    subst e9
    exact kX12_gather_6 hZ j hj
  | _ + 1, h => exact absurd h (by simp)
noncomputable def fX12_gather : List Nat → rx_H → Option (Nat × rx_H) := rx_ent 4 (bX12_gather_0 (rx_J hX12_gather 1000000))
theorem met_X12_gather (hZ : zO b e D A X) : rx_Met (zV b e D A X) 2 yX12_gather mX12_gather fX12_gather := rx_entry hZ.1 (kX12_gather_0 hZ _ (lX12_gather hZ 1000000)) (by decide +kernel) rfl (fun h => by cases h)
theorem zy_X12_gather : rx_Y (zV b e D A X) yX12_gather mX12_gather 2 := ⟨zw1552, zw413, by decide, by decide +kernel, by decide +kernel, by decide +kernel⟩
end ZQ1

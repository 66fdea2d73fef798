section ZQ3
variable {b : Nat} {e : Nat → Value} {D : va_G} {A : Nat → ClassId} {X : State → Prop}
noncomputable def bX13_init_1238 (j : Nat → rx_K) : rx_K := q_ld q_isR 0 (o_callV 0 13 fX13_given (q_ld q_isR 0 (o_callV 0 13 fX13_settle (q_ld q_isR 0 (o_const 34359738352 (p_putf q_isI 13 137 (o_ret0)))))))
set_option maxRecDepth 20000 in
theorem kX13_init_1238 (hZ : zO b e D A X) (j : Nat → rx_K) (hj : ∀ k pc, [1219][k]? = some pc → rx_OK (zV b e D A X) mX13_init 6 pc (j k)) : rx_OK (zV b e D A X) mX13_init 6 1238 (bX13_init_1238 j) := by
  unfold bX13_init_1238
  refine rx_by (e_ldR _ _) (s_aload_n hZ.1 dX13_init_1238 rfl ?_)
  refine s_callV hZ.1 (met_X13_given hZ) (by decide) zy_X13_given zcl13 zw4118 zw411 (Or.inl zw4116) dX13_init_1239 ?_
  refine rx_by (e_ldR _ _) (s_aload_n hZ.1 dX13_init_1242 rfl ?_)
  refine s_callV hZ.1 (met_X13_settle hZ) (by decide) zy_X13_settle zcl13 zw3601 zw319 (Or.inl zw3599) dX13_init_1243 ?_
  refine rx_by (e_ldR _ _) (s_aload_n hZ.1 dX13_init_1246 rfl ?_)
  refine s_bipush dX13_init_1247 (by decide +kernel) ?_
  refine zp13_137 hZ.1 dX13_init_1249 zw4257 ?_
  exact s_vret rfl dX13_init_1252
noncomputable def bX13_init_1224 (j : Nat → rx_K) : rx_K := q_ld q_isR 0 (q_getf 13 90 (q_ld q_isI 1 (o_const 34359738352 (p_ast 0 (fun v => v) q_isI (q_inc 1 8 ((j 0)))))))
set_option maxRecDepth 20000 in
theorem kX13_init_1224 (hZ : zO b e D A X) (j : Nat → rx_K) (hj : ∀ k pc, [1219][k]? = some pc → rx_OK (zV b e D A X) mX13_init 6 pc (j k)) : rx_OK (zV b e D A X) mX13_init 6 1224 (bX13_init_1224 j) := by
  unfold bX13_init_1224
  refine rx_by (e_ldR _ _) (s_aload_n hZ.1 dX13_init_1224 rfl ?_)
  refine zg13_90 dX13_init_1225 zw4211 ?_
  refine rx_by (e_ldI _ _) (s_iload_n hZ.1 dX13_init_1228 rfl ?_)
  refine s_bipush dX13_init_1229 (by decide +kernel) ?_
  refine rx_by2 (l_astI _ _ _) (s_iast hZ.1 (tt := 0) rfl dX13_init_1231 ?_)
  refine rx_by (e_inc (by decide +kernel) _) (s_iinc hZ.1 dX13_init_1232 (Nat.le_of_ble_eq_true rfl) ?_)
  exact s_goto dX13_init_1235 (by decide) (hj 0 1219 rfl)
noncomputable def bX13_init_1219 (j : Nat → rx_K) : rx_K := q_ld q_isI 1 (o_const 40 (q_lt2 (bX13_init_1224 j) (bX13_init_1238 j)))
set_option maxRecDepth 20000 in
theorem kX13_init_1219 (hZ : zO b e D A X) (j : Nat → rx_K) (hj : ∀ k pc, [1219][k]? = some pc → rx_OK (zV b e D A X) mX13_init 6 pc (j k)) : rx_OK (zV b e D A X) mX13_init 6 1219 (bX13_init_1219 j) := by
  unfold bX13_init_1219
  refine rx_by (e_ldI _ _) (s_iload_n hZ.1 dX13_init_1219 rfl ?_)
  refine s_iconst dX13_init_1220 (by decide +kernel) ?_
  exact rx_by (e_lt2 _ _) (s_icmp_ge dX13_init_1221 (by decide) (kX13_init_1238 hZ j hj) (kX13_init_1224 hZ j hj))
noncomputable def bX13_init_1168 (j : Nat → rx_K) : rx_K := q_ld q_isR 0 (o_const 240000 (p_newa 0 0 (p_putf q_isR 13 174 (q_ld q_isR 0 (o_const 5616 (p_newa 0 0 (p_putf q_isR 13 176 (q_ld q_isR 0 (o_const 5616 (p_newa 0 0 (p_putf q_isR 13 177 (q_ld q_isR 0 (o_const 240000 (p_newa 0 0 (p_putf q_isR 13 178 (q_ld q_isR 0 (o_const 14400 (p_newa 0 0 (p_putf q_isR 13 179 (q_ld q_isR 0 (o_callV 0 13 fX13_wordTable (o_const 0 (q_st q_isI 1 ((bX13_init_1219 j)))))))))))))))))))))))))
set_option maxRecDepth 20000 in
theorem kX13_init_1168 (hZ : zO b e D A X) (j : Nat → rx_K) (hj : ∀ k pc, [1219][k]? = some pc → rx_OK (zV b e D A X) mX13_init 6 pc (j k)) : rx_OK (zV b e D A X) mX13_init 6 1168 (bX13_init_1168 j) := by
  unfold bX13_init_1168
  refine rx_by (e_ldR _ _) (s_aload_n hZ.1 dX13_init_1168 rfl ?_)
  refine s_sipush dX13_init_1169 (by decide +kernel) ?_
  refine rx_by2 (l_newa _ _ _) (s_newa (tt := 0) (ty := .int) rfl rfl rfl rfl rfl (by decide) zw527 dX13_init_1172 ?_)
  refine zp13_174 hZ.1 rfl rfl dX13_init_1174 zw4294 ?_
  refine rx_by (e_ldR _ _) (s_aload_n hZ.1 dX13_init_1177 rfl ?_)
  refine s_sipush dX13_init_1178 (by decide +kernel) ?_
  refine rx_by2 (l_newa _ _ _) (s_newa (tt := 0) (ty := .int) rfl rfl rfl rfl rfl (by decide) zw527 dX13_init_1181 ?_)
  refine zp13_176 hZ.1 rfl rfl dX13_init_1183 zw4296 ?_
  refine rx_by (e_ldR _ _) (s_aload_n hZ.1 dX13_init_1186 rfl ?_)
  refine s_sipush dX13_init_1187 (by decide +kernel) ?_
  refine rx_by2 (l_newa _ _ _) (s_newa (tt := 0) (ty := .int) rfl rfl rfl rfl rfl (by decide) zw527 dX13_init_1190 ?_)
  refine zp13_177 hZ.1 rfl rfl dX13_init_1192 zw4297 ?_
  refine rx_by (e_ldR _ _) (s_aload_n hZ.1 dX13_init_1195 rfl ?_)
  refine s_sipush dX13_init_1196 (by decide +kernel) ?_
  refine rx_by2 (l_newa _ _ _) (s_newa (tt := 0) (ty := .int) rfl rfl rfl rfl rfl (by decide) zw527 dX13_init_1199 ?_)
  refine zp13_178 hZ.1 rfl rfl dX13_init_1201 zw4298 ?_
  refine rx_by (e_ldR _ _) (s_aload_n hZ.1 dX13_init_1204 rfl ?_)
  refine s_sipush dX13_init_1205 (by decide +kernel) ?_
  refine rx_by2 (l_newa _ _ _) (s_newa (tt := 0) (ty := .int) rfl rfl rfl rfl rfl (by decide) zw527 dX13_init_1208 ?_)
  refine zp13_179 hZ.1 rfl rfl dX13_init_1210 zw4299 ?_
  refine rx_by (e_ldR _ _) (s_aload_n hZ.1 dX13_init_1213 rfl ?_)
  refine s_callV hZ.1 (met_X13_wordTable hZ) (by decide) zy_X13_wordTable zcl13 zw4113 zw410 (Or.inl zw4111) dX13_init_1214 ?_
  refine s_iconst dX13_init_1217 (by decide +kernel) ?_
  refine rx_by (e_stI _ _) (s_istore_n hZ.1 dX13_init_1218 rfl (Nat.le_of_ble_eq_true rfl) ?_)
  exact (kX13_init_1219 hZ j hj)
noncomputable def bX13_init_1115 (j : Nat → rx_K) : rx_K := q_ld q_isR 0 (o_const 138240 (p_newa 0 0 (p_putf q_isR 13 158 (q_ld q_isR 0 (o_const 138240 (p_newa 0 0 (p_putf q_isR 13 159 (q_ld q_isR 0 (o_const 138240 (p_newa 0 0 (p_putf q_isR 13 160 (q_ld q_isR 0 (o_const 800 (p_newa 0 0 (p_putf q_isR 13 168 (q_ld q_isR 0 (o_const 1728 (p_newa 0 0 (p_putf q_isR 13 170 (q_ld q_isR 0 (o_const 64000 (p_newa 0 0 (p_putf q_isR 13 172 ((bX13_init_1168 j)))))))))))))))))))))))))
set_option maxRecDepth 20000 in
theorem kX13_init_1115 (hZ : zO b e D A X) (j : Nat → rx_K) (hj : ∀ k pc, [1219][k]? = some pc → rx_OK (zV b e D A X) mX13_init 6 pc (j k)) : rx_OK (zV b e D A X) mX13_init 6 1115 (bX13_init_1115 j) := by
  unfold bX13_init_1115
  refine rx_by (e_ldR _ _) (s_aload_n hZ.1 dX13_init_1115 rfl ?_)
  refine s_sipush dX13_init_1116 (by decide +kernel) ?_
  refine rx_by2 (l_newa _ _ _) (s_newa (tt := 0) (ty := .int) rfl rfl rfl rfl rfl (by decide) zw527 dX13_init_1119 ?_)
  refine zp13_158 hZ.1 rfl rfl dX13_init_1121 zw4278 ?_
  refine rx_by (e_ldR _ _) (s_aload_n hZ.1 dX13_init_1124 rfl ?_)
  refine s_sipush dX13_init_1125 (by decide +kernel) ?_
  refine rx_by2 (l_newa _ _ _) (s_newa (tt := 0) (ty := .int) rfl rfl rfl rfl rfl (by decide) zw527 dX13_init_1128 ?_)
  refine zp13_159 hZ.1 rfl rfl dX13_init_1130 zw4279 ?_
  refine rx_by (e_ldR _ _) (s_aload_n hZ.1 dX13_init_1133 rfl ?_)
  refine s_sipush dX13_init_1134 (by decide +kernel) ?_
  refine rx_by2 (l_newa _ _ _) (s_newa (tt := 0) (ty := .int) rfl rfl rfl rfl rfl (by decide) zw527 dX13_init_1137 ?_)
  refine zp13_160 hZ.1 rfl rfl dX13_init_1139 zw4280 ?_
  refine rx_by (e_ldR _ _) (s_aload_n hZ.1 dX13_init_1142 rfl ?_)
  refine s_bipush dX13_init_1143 (by decide +kernel) ?_
  refine rx_by2 (l_newa _ _ _) (s_newa (tt := 0) (ty := .int) rfl rfl rfl rfl rfl (by decide) zw527 dX13_init_1145 ?_)
  refine zp13_168 hZ.1 rfl rfl dX13_init_1147 zw4288 ?_
  refine rx_by (e_ldR _ _) (s_aload_n hZ.1 dX13_init_1150 rfl ?_)
  refine s_sipush dX13_init_1151 (by decide +kernel) ?_
  refine rx_by2 (l_newa _ _ _) (s_newa (tt := 0) (ty := .int) rfl rfl rfl rfl rfl (by decide) zw527 dX13_init_1154 ?_)
  refine zp13_170 hZ.1 rfl rfl dX13_init_1156 zw4290 ?_
  refine rx_by (e_ldR _ _) (s_aload_n hZ.1 dX13_init_1159 rfl ?_)
  refine s_sipush dX13_init_1160 (by decide +kernel) ?_
  refine rx_by2 (l_newa _ _ _) (s_newa (tt := 0) (ty := .int) rfl rfl rfl rfl rfl (by decide) zw527 dX13_init_1163 ?_)
  refine zp13_172 hZ.1 rfl rfl dX13_init_1165 zw4292 ?_
  exact (kX13_init_1168 hZ j hj)
noncomputable def bX13_init_1061 (j : Nat → rx_K) : rx_K := q_ld q_isR 0 (o_const 1616 (p_newa 0 0 (p_putf q_isR 13 149 (q_ld q_isR 0 (o_const 1616 (p_newa 0 0 (p_putf q_isR 13 150 (q_ld q_isR 0 (o_const 16008 (p_newa 0 0 (p_putf q_isR 13 152 (q_ld q_isR 0 (o_const 49920 (p_newa 0 0 (p_putf q_isR 13 154 (q_ld q_isR 0 (o_const 138240 (p_newa 0 0 (p_putf q_isR 13 156 (q_ld q_isR 0 (o_const 138240 (p_newa 0 0 (p_putf q_isR 13 157 ((bX13_init_1115 j)))))))))))))))))))))))))
set_option maxRecDepth 20000 in
theorem kX13_init_1061 (hZ : zO b e D A X) (j : Nat → rx_K) (hj : ∀ k pc, [1219][k]? = some pc → rx_OK (zV b e D A X) mX13_init 6 pc (j k)) : rx_OK (zV b e D A X) mX13_init 6 1061 (bX13_init_1061 j) := by
  unfold bX13_init_1061
  refine rx_by (e_ldR _ _) (s_aload_n hZ.1 dX13_init_1061 rfl ?_)
  refine s_sipush dX13_init_1062 (by decide +kernel) ?_
  refine rx_by2 (l_newa _ _ _) (s_newa (tt := 0) (ty := .int) rfl rfl rfl rfl rfl (by decide) zw527 dX13_init_1065 ?_)
  refine zp13_149 hZ.1 rfl rfl dX13_init_1067 zw4269 ?_
  refine rx_by (e_ldR _ _) (s_aload_n hZ.1 dX13_init_1070 rfl ?_)
  refine s_sipush dX13_init_1071 (by decide +kernel) ?_
  refine rx_by2 (l_newa _ _ _) (s_newa (tt := 0) (ty := .int) rfl rfl rfl rfl rfl (by decide) zw527 dX13_init_1074 ?_)
  refine zp13_150 hZ.1 rfl rfl dX13_init_1076 zw4270 ?_
  refine rx_by (e_ldR _ _) (s_aload_n hZ.1 dX13_init_1079 rfl ?_)
  refine s_sipush dX13_init_1080 (by decide +kernel) ?_
  refine rx_by2 (l_newa _ _ _) (s_newa (tt := 0) (ty := .int) rfl rfl rfl rfl rfl (by decide) zw527 dX13_init_1083 ?_)
  refine zp13_152 hZ.1 rfl rfl dX13_init_1085 zw4272 ?_
  refine rx_by (e_ldR _ _) (s_aload_n hZ.1 dX13_init_1088 rfl ?_)
  refine s_sipush dX13_init_1089 (by decide +kernel) ?_
  refine rx_by2 (l_newa _ _ _) (s_newa (tt := 0) (ty := .int) rfl rfl rfl rfl rfl (by decide) zw527 dX13_init_1092 ?_)
  refine zp13_154 hZ.1 rfl rfl dX13_init_1094 zw4274 ?_
  refine rx_by (e_ldR _ _) (s_aload_n hZ.1 dX13_init_1097 rfl ?_)
  refine s_sipush dX13_init_1098 (by decide +kernel) ?_
  refine rx_by2 (l_newa _ _ _) (s_newa (tt := 0) (ty := .int) rfl rfl rfl rfl rfl (by decide) zw527 dX13_init_1101 ?_)
  refine zp13_156 hZ.1 rfl rfl dX13_init_1103 zw4276 ?_
  refine rx_by (e_ldR _ _) (s_aload_n hZ.1 dX13_init_1106 rfl ?_)
  refine s_sipush dX13_init_1107 (by decide +kernel) ?_
  refine rx_by2 (l_newa _ _ _) (s_newa (tt := 0) (ty := .int) rfl rfl rfl rfl rfl (by decide) zw527 dX13_init_1110 ?_)
  refine zp13_157 hZ.1 rfl rfl dX13_init_1112 zw4277 ?_
  exact (kX13_init_1115 hZ j hj)
noncomputable def bX13_init_1011 (j : Nat → rx_K) : rx_K := q_ld q_isR 0 (o_const 1728 (p_newa 0 0 (p_putf q_isR 13 141 (q_ld q_isR 0 (o_const 1728 (p_newa 0 0 (p_putf q_isR 13 143 (q_ld q_isR 0 (o_const 216000 (p_newa 0 0 (p_putf q_isR 13 144 (q_ld q_isR 0 (o_const 40 (p_newa 0 0 (p_putf q_isR 13 146 (q_ld q_isR 0 (o_const 40 (p_newa 0 0 (p_putf q_isR 13 147 (q_ld q_isR 0 (o_const 58752 (p_newa 0 0 (p_putf q_isR 13 148 ((bX13_init_1061 j)))))))))))))))))))))))))
set_option maxRecDepth 20000 in
theorem kX13_init_1011 (hZ : zO b e D A X) (j : Nat → rx_K) (hj : ∀ k pc, [1219][k]? = some pc → rx_OK (zV b e D A X) mX13_init 6 pc (j k)) : rx_OK (zV b e D A X) mX13_init 6 1011 (bX13_init_1011 j) := by
  unfold bX13_init_1011
  refine rx_by (e_ldR _ _) (s_aload_n hZ.1 dX13_init_1011 rfl ?_)
  refine s_sipush dX13_init_1012 (by decide +kernel) ?_
  refine rx_by2 (l_newa _ _ _) (s_newa (tt := 0) (ty := .int) rfl rfl rfl rfl rfl (by decide) zw527 dX13_init_1015 ?_)
  refine zp13_141 hZ.1 rfl rfl dX13_init_1017 zw4261 ?_
  refine rx_by (e_ldR _ _) (s_aload_n hZ.1 dX13_init_1020 rfl ?_)
  refine s_sipush dX13_init_1021 (by decide +kernel) ?_
  refine rx_by2 (l_newa _ _ _) (s_newa (tt := 0) (ty := .int) rfl rfl rfl rfl rfl (by decide) zw527 dX13_init_1024 ?_)
  refine zp13_143 hZ.1 rfl rfl dX13_init_1026 zw4263 ?_
  refine rx_by (e_ldR _ _) (s_aload_n hZ.1 dX13_init_1029 rfl ?_)
  refine s_sipush dX13_init_1030 (by decide +kernel) ?_
  refine rx_by2 (l_newa _ _ _) (s_newa (tt := 0) (ty := .int) rfl rfl rfl rfl rfl (by decide) zw527 dX13_init_1033 ?_)
  refine zp13_144 hZ.1 rfl rfl dX13_init_1035 zw4264 ?_
  refine rx_by (e_ldR _ _) (s_aload_n hZ.1 dX13_init_1038 rfl ?_)
  refine s_iconst dX13_init_1039 (by decide +kernel) ?_
  refine rx_by2 (l_newa _ _ _) (s_newa (tt := 0) (ty := .int) rfl rfl rfl rfl rfl (by decide) zw527 dX13_init_1040 ?_)
  refine zp13_146 hZ.1 rfl rfl dX13_init_1042 zw4266 ?_
  refine rx_by (e_ldR _ _) (s_aload_n hZ.1 dX13_init_1045 rfl ?_)
  refine s_iconst dX13_init_1046 (by decide +kernel) ?_
  refine rx_by2 (l_newa _ _ _) (s_newa (tt := 0) (ty := .int) rfl rfl rfl rfl rfl (by decide) zw527 dX13_init_1047 ?_)
  refine zp13_147 hZ.1 rfl rfl dX13_init_1049 zw4267 ?_
  refine rx_by (e_ldR _ _) (s_aload_n hZ.1 dX13_init_1052 rfl ?_)
  refine s_sipush dX13_init_1053 (by decide +kernel) ?_
  refine rx_by2 (l_newa _ _ _) (s_newa (tt := 0) (ty := .int) rfl rfl rfl rfl rfl (by decide) zw527 dX13_init_1056 ?_)
  refine zp13_148 hZ.1 rfl rfl dX13_init_1058 zw4268 ?_
  exact (kX13_init_1061 hZ j hj)
noncomputable def bX13_init_958 (j : Nat → rx_K) : rx_K := q_ld q_isR 0 (o_const 512 (p_newa 0 0 (p_putf q_isR 13 130 (q_ld q_isR 0 (o_const 1728 (p_newa 0 0 (p_putf q_isR 13 131 (q_ld q_isR 0 (o_const 1024 (p_newa 0 0 (p_putf q_isR 13 132 (q_ld q_isR 0 (o_const 1024 (p_newa 0 0 (p_putf q_isR 13 133 (q_ld q_isR 0 (o_const 4800 (p_newa 0 0 (p_putf q_isR 13 135 (q_ld q_isR 0 (o_const 1728 (p_newa 0 0 (p_putf q_isR 13 138 ((bX13_init_1011 j)))))))))))))))))))))))))
set_option maxRecDepth 20000 in
theorem kX13_init_958 (hZ : zO b e D A X) (j : Nat → rx_K) (hj : ∀ k pc, [1219][k]? = some pc → rx_OK (zV b e D A X) mX13_init 6 pc (j k)) : rx_OK (zV b e D A X) mX13_init 6 958 (bX13_init_958 j) := by
  unfold bX13_init_958
  refine rx_by (e_ldR _ _) (s_aload_n hZ.1 dX13_init_958 rfl ?_)
  refine s_bipush dX13_init_959 (by decide +kernel) ?_
  refine rx_by2 (l_newa _ _ _) (s_newa (tt := 0) (ty := .int) rfl rfl rfl rfl rfl (by decide) zw527 dX13_init_961 ?_)
  refine zp13_130 hZ.1 rfl rfl dX13_init_963 zw4250 ?_
  refine rx_by (e_ldR _ _) (s_aload_n hZ.1 dX13_init_966 rfl ?_)
  refine s_sipush dX13_init_967 (by decide +kernel) ?_
  refine rx_by2 (l_newa _ _ _) (s_newa (tt := 0) (ty := .int) rfl rfl rfl rfl rfl (by decide) zw527 dX13_init_970 ?_)
  refine zp13_131 hZ.1 rfl rfl dX13_init_972 zw4251 ?_
  refine rx_by (e_ldR _ _) (s_aload_n hZ.1 dX13_init_975 rfl ?_)
  refine s_sipush dX13_init_976 (by decide +kernel) ?_
  refine rx_by2 (l_newa _ _ _) (s_newa (tt := 0) (ty := .int) rfl rfl rfl rfl rfl (by decide) zw527 dX13_init_979 ?_)
  refine zp13_132 hZ.1 rfl rfl dX13_init_981 zw4252 ?_
  refine rx_by (e_ldR _ _) (s_aload_n hZ.1 dX13_init_984 rfl ?_)
  refine s_sipush dX13_init_985 (by decide +kernel) ?_
  refine rx_by2 (l_newa _ _ _) (s_newa (tt := 0) (ty := .int) rfl rfl rfl rfl rfl (by decide) zw527 dX13_init_988 ?_)
  refine zp13_133 hZ.1 rfl rfl dX13_init_990 zw4253 ?_
  refine rx_by (e_ldR _ _) (s_aload_n hZ.1 dX13_init_993 rfl ?_)
  refine s_sipush dX13_init_994 (by decide +kernel) ?_
  refine rx_by2 (l_newa _ _ _) (s_newa (tt := 0) (ty := .int) rfl rfl rfl rfl rfl (by decide) zw527 dX13_init_997 ?_)
  refine zp13_135 hZ.1 rfl rfl dX13_init_999 zw4255 ?_
  refine rx_by (e_ldR _ _) (s_aload_n hZ.1 dX13_init_1002 rfl ?_)
  refine s_sipush dX13_init_1003 (by decide +kernel) ?_
  refine rx_by2 (l_newa _ _ _) (s_newa (tt := 0) (ty := .int) rfl rfl rfl rfl rfl (by decide) zw527 dX13_init_1006 ?_)
  refine zp13_138 hZ.1 rfl rfl dX13_init_1008 zw4258 ?_
  exact (kX13_init_1011 hZ j hj)
noncomputable def bX13_init_904 (j : Nat → rx_K) : rx_K := p_putf q_isR 13 122 (q_ld q_isR 0 (o_const 244800 (p_newa 1 1 (p_putf q_isR 13 123 (q_ld q_isR 0 (o_const 244800 (p_newa 0 0 (p_putf q_isR 13 124 (q_ld q_isR 0 (o_const 979200 (p_newa 1 1 (p_putf q_isR 13 125 (q_ld q_isR 0 (o_const 244800 (p_newa 1 1 (p_putf q_isR 13 126 (q_ld q_isR 0 (o_const 244800 (p_newa 0 0 (p_putf q_isR 13 127 (q_ld q_isR 0 (o_const 34359738352 (p_putf q_isI 13 128 ((bX13_init_958 j)))))))))))))))))))))))))
set_option maxRecDepth 20000 in
theorem kX13_init_904 (hZ : zO b e D A X) (j : Nat → rx_K) (hj : ∀ k pc, [1219][k]? = some pc → rx_OK (zV b e D A X) mX13_init 6 pc (j k)) : rx_OK (zV b e D A X) mX13_init 6 904 (bX13_init_904 j) := by
  unfold bX13_init_904
  refine zp13_122 hZ.1 rfl rfl dX13_init_904 zw4242 ?_
  refine rx_by (e_ldR _ _) (s_aload_n hZ.1 dX13_init_907 rfl ?_)
  refine s_sipush dX13_init_908 (by decide +kernel) ?_
  refine rx_by2 (l_newa _ _ _) (s_newa (tt := 1) (ty := .long) rfl rfl rfl rfl rfl (by decide) zw528 dX13_init_911 ?_)
  refine zp13_123 hZ.1 rfl rfl dX13_init_913 zw4243 ?_
  refine rx_by (e_ldR _ _) (s_aload_n hZ.1 dX13_init_916 rfl ?_)
  refine s_sipush dX13_init_917 (by decide +kernel) ?_
  refine rx_by2 (l_newa _ _ _) (s_newa (tt := 0) (ty := .int) rfl rfl rfl rfl rfl (by decide) zw527 dX13_init_920 ?_)
  refine zp13_124 hZ.1 rfl rfl dX13_init_922 zw4244 ?_
  refine rx_by (e_ldR _ _) (s_aload_n hZ.1 dX13_init_925 rfl ?_)
  refine s_ldcw dX13_init_926 zw4110 (by decide +kernel) ?_
  refine rx_by2 (l_newa _ _ _) (s_newa (tt := 1) (ty := .long) rfl rfl rfl rfl rfl (by decide) zw528 dX13_init_929 ?_)
  refine zp13_125 hZ.1 rfl rfl dX13_init_931 zw4245 ?_
  refine rx_by (e_ldR _ _) (s_aload_n hZ.1 dX13_init_934 rfl ?_)
  refine s_sipush dX13_init_935 (by decide +kernel) ?_
  refine rx_by2 (l_newa _ _ _) (s_newa (tt := 1) (ty := .long) rfl rfl rfl rfl rfl (by decide) zw528 dX13_init_938 ?_)
  refine zp13_126 hZ.1 rfl rfl dX13_init_940 zw4246 ?_
  refine rx_by (e_ldR _ _) (s_aload_n hZ.1 dX13_init_943 rfl ?_)
  refine s_sipush dX13_init_944 (by decide +kernel) ?_
  refine rx_by2 (l_newa _ _ _) (s_newa (tt := 0) (ty := .int) rfl rfl rfl rfl rfl (by decide) zw527 dX13_init_947 ?_)
  refine zp13_127 hZ.1 rfl rfl dX13_init_949 zw4247 ?_
  refine rx_by (e_ldR _ _) (s_aload_n hZ.1 dX13_init_952 rfl ?_)
  refine s_bipush dX13_init_953 (by decide +kernel) ?_
  refine zp13_128 hZ.1 dX13_init_955 zw4248 ?_
  exact (kX13_init_958 hZ j hj)
noncomputable def bX13_init_851 (j : Nat → rx_K) : rx_K := p_putf q_isR 13 115 (q_ld q_isR 0 (o_const 1728 (p_newa 0 0 (p_putf q_isR 13 117 (q_ld q_isR 0 (o_const 136 (p_newa 0 0 (p_putf q_isR 13 118 (q_ld q_isR 0 (o_const 244800 (p_newa 0 0 (p_putf q_isR 13 119 (q_ld q_isR 0 (o_const 244800 (p_newa 0 0 (p_putf q_isR 13 120 (q_ld q_isR 0 (o_const 244800 (p_newa 1 1 (p_putf q_isR 13 121 (q_ld q_isR 0 (o_const 244800 (p_newa 1 1 ((bX13_init_904 j)))))))))))))))))))))))))
set_option maxRecDepth 20000 in
theorem kX13_init_851 (hZ : zO b e D A X) (j : Nat → rx_K) (hj : ∀ k pc, [1219][k]? = some pc → rx_OK (zV b e D A X) mX13_init 6 pc (j k)) : rx_OK (zV b e D A X) mX13_init 6 851 (bX13_init_851 j) := by
  unfold bX13_init_851
  refine zp13_115 hZ.1 rfl rfl dX13_init_851 zw4235 ?_
  refine rx_by (e_ldR _ _) (s_aload_n hZ.1 dX13_init_854 rfl ?_)
  refine s_sipush dX13_init_855 (by decide +kernel) ?_
  refine rx_by2 (l_newa _ _ _) (s_newa (tt := 0) (ty := .int) rfl rfl rfl rfl rfl (by decide) zw527 dX13_init_858 ?_)
  refine zp13_117 hZ.1 rfl rfl dX13_init_860 zw4237 ?_
  refine rx_by (e_ldR _ _) (s_aload_n hZ.1 dX13_init_863 rfl ?_)
  refine s_bipush dX13_init_864 (by decide +kernel) ?_
  refine rx_by2 (l_newa _ _ _) (s_newa (tt := 0) (ty := .int) rfl rfl rfl rfl rfl (by decide) zw527 dX13_init_866 ?_)
  refine zp13_118 hZ.1 rfl rfl dX13_init_868 zw4238 ?_
  refine rx_by (e_ldR _ _) (s_aload_n hZ.1 dX13_init_871 rfl ?_)
  refine s_sipush dX13_init_872 (by decide +kernel) ?_
  refine rx_by2 (l_newa _ _ _) (s_newa (tt := 0) (ty := .int) rfl rfl rfl rfl rfl (by decide) zw527 dX13_init_875 ?_)
  refine zp13_119 hZ.1 rfl rfl dX13_init_877 zw4239 ?_
  refine rx_by (e_ldR _ _) (s_aload_n hZ.1 dX13_init_880 rfl ?_)
  refine s_sipush dX13_init_881 (by decide +kernel) ?_
  refine rx_by2 (l_newa _ _ _) (s_newa (tt := 0) (ty := .int) rfl rfl rfl rfl rfl (by decide) zw527 dX13_init_884 ?_)
  refine zp13_120 hZ.1 rfl rfl dX13_init_886 zw4240 ?_
  refine rx_by (e_ldR _ _) (s_aload_n hZ.1 dX13_init_889 rfl ?_)
  refine s_sipush dX13_init_890 (by decide +kernel) ?_
  refine rx_by2 (l_newa _ _ _) (s_newa (tt := 1) (ty := .long) rfl rfl rfl rfl rfl (by decide) zw528 dX13_init_893 ?_)
  refine zp13_121 hZ.1 rfl rfl dX13_init_895 zw4241 ?_
  refine rx_by (e_ldR _ _) (s_aload_n hZ.1 dX13_init_898 rfl ?_)
  refine s_sipush dX13_init_899 (by decide +kernel) ?_
  refine rx_by2 (l_newa _ _ _) (s_newa (tt := 1) (ty := .long) rfl rfl rfl rfl rfl (by decide) zw528 dX13_init_902 ?_)
  exact (kX13_init_904 hZ j hj)
noncomputable def bX13_init_797 (j : Nat → rx_K) : rx_K := p_putf q_isR 13 103 (q_ld q_isR 0 (o_const 1728 (p_newa 0 0 (p_putf q_isR 13 105 (q_ld q_isR 0 (o_const 1728 (p_newa 0 0 (p_putf q_isR 13 106 (q_ld q_isR 0 (o_const 13632 (p_newa 0 0 (p_putf q_isR 13 107 (q_ld q_isR 0 (o_const 5760 (p_newa 1 1 (p_putf q_isR 13 112 (q_ld q_isR 0 (o_const 5760 (p_newa 1 1 (p_putf q_isR 13 113 (q_ld q_isR 0 (o_const 3456 (p_newa 0 0 ((bX13_init_851 j)))))))))))))))))))))))))
set_option maxRecDepth 20000 in
theorem kX13_init_797 (hZ : zO b e D A X) (j : Nat → rx_K) (hj : ∀ k pc, [1219][k]? = some pc → rx_OK (zV b e D A X) mX13_init 6 pc (j k)) : rx_OK (zV b e D A X) mX13_init 6 797 (bX13_init_797 j) := by
  unfold bX13_init_797
  refine zp13_103 hZ.1 rfl rfl dX13_init_797 zw4223 ?_
  refine rx_by (e_ldR _ _) (s_aload_n hZ.1 dX13_init_800 rfl ?_)
  refine s_sipush dX13_init_801 (by decide +kernel) ?_
  refine rx_by2 (l_newa _ _ _) (s_newa (tt := 0) (ty := .int) rfl rfl rfl rfl rfl (by decide) zw527 dX13_init_804 ?_)
  refine zp13_105 hZ.1 rfl rfl dX13_init_806 zw4225 ?_
  refine rx_by (e_ldR _ _) (s_aload_n hZ.1 dX13_init_809 rfl ?_)
  refine s_sipush dX13_init_810 (by decide +kernel) ?_
  refine rx_by2 (l_newa _ _ _) (s_newa (tt := 0) (ty := .int) rfl rfl rfl rfl rfl (by decide) zw527 dX13_init_813 ?_)
  refine zp13_106 hZ.1 rfl rfl dX13_init_815 zw4226 ?_
  refine rx_by (e_ldR _ _) (s_aload_n hZ.1 dX13_init_818 rfl ?_)
  refine s_sipush dX13_init_819 (by decide +kernel) ?_
  refine rx_by2 (l_newa _ _ _) (s_newa (tt := 0) (ty := .int) rfl rfl rfl rfl rfl (by decide) zw527 dX13_init_822 ?_)
  refine zp13_107 hZ.1 rfl rfl dX13_init_824 zw4227 ?_
  refine rx_by (e_ldR _ _) (s_aload_n hZ.1 dX13_init_827 rfl ?_)
  refine s_sipush dX13_init_828 (by decide +kernel) ?_
  refine rx_by2 (l_newa _ _ _) (s_newa (tt := 1) (ty := .long) rfl rfl rfl rfl rfl (by decide) zw528 dX13_init_831 ?_)
  refine zp13_112 hZ.1 rfl rfl dX13_init_833 zw4232 ?_
  refine rx_by (e_ldR _ _) (s_aload_n hZ.1 dX13_init_836 rfl ?_)
  refine s_sipush dX13_init_837 (by decide +kernel) ?_
  refine rx_by2 (l_newa _ _ _) (s_newa (tt := 1) (ty := .long) rfl rfl rfl rfl rfl (by decide) zw528 dX13_init_840 ?_)
  refine zp13_113 hZ.1 rfl rfl dX13_init_842 zw4233 ?_
  refine rx_by (e_ldR _ _) (s_aload_n hZ.1 dX13_init_845 rfl ?_)
  refine s_sipush dX13_init_846 (by decide +kernel) ?_
  refine rx_by2 (l_newa _ _ _) (s_newa (tt := 0) (ty := .int) rfl rfl rfl rfl rfl (by decide) zw527 dX13_init_849 ?_)
  exact (kX13_init_851 hZ j hj)
noncomputable def bX13_init_743 (j : Nat → rx_K) : rx_K := p_putf q_isR 13 93 (q_ld q_isR 0 (o_const 1728 (p_newa 0 0 (p_putf q_isR 13 94 (q_ld q_isR 0 (o_const 32000 (p_newa 0 0 (p_putf q_isR 13 96 (q_ld q_isR 0 (o_const 1728 (p_newa 0 0 (p_putf q_isR 13 97 (q_ld q_isR 0 (o_const 1728 (p_newa 0 0 (p_putf q_isR 13 99 (q_ld q_isR 0 (o_const 1728 (p_newa 0 0 (p_putf q_isR 13 100 (q_ld q_isR 0 (o_const 3456 (p_newa 0 0 ((bX13_init_797 j)))))))))))))))))))))))))
set_option maxRecDepth 20000 in
theorem kX13_init_743 (hZ : zO b e D A X) (j : Nat → rx_K) (hj : ∀ k pc, [1219][k]? = some pc → rx_OK (zV b e D A X) mX13_init 6 pc (j k)) : rx_OK (zV b e D A X) mX13_init 6 743 (bX13_init_743 j) := by
  unfold bX13_init_743
  refine zp13_93 hZ.1 rfl rfl dX13_init_743 zw4214 ?_
  refine rx_by (e_ldR _ _) (s_aload_n hZ.1 dX13_init_746 rfl ?_)
  refine s_sipush dX13_init_747 (by decide +kernel) ?_
  refine rx_by2 (l_newa _ _ _) (s_newa (tt := 0) (ty := .int) rfl rfl rfl rfl rfl (by decide) zw527 dX13_init_750 ?_)
  refine zp13_94 hZ.1 rfl rfl dX13_init_752 zw4215 ?_
  refine rx_by (e_ldR _ _) (s_aload_n hZ.1 dX13_init_755 rfl ?_)
  refine s_sipush dX13_init_756 (by decide +kernel) ?_
  refine rx_by2 (l_newa _ _ _) (s_newa (tt := 0) (ty := .int) rfl rfl rfl rfl rfl (by decide) zw527 dX13_init_759 ?_)
  refine zp13_96 hZ.1 rfl rfl dX13_init_761 zw4217 ?_
  refine rx_by (e_ldR _ _) (s_aload_n hZ.1 dX13_init_764 rfl ?_)
  refine s_sipush dX13_init_765 (by decide +kernel) ?_
  refine rx_by2 (l_newa _ _ _) (s_newa (tt := 0) (ty := .int) rfl rfl rfl rfl rfl (by decide) zw527 dX13_init_768 ?_)
  refine zp13_97 hZ.1 rfl rfl dX13_init_770 zw4218 ?_
  refine rx_by (e_ldR _ _) (s_aload_n hZ.1 dX13_init_773 rfl ?_)
  refine s_sipush dX13_init_774 (by decide +kernel) ?_
  refine rx_by2 (l_newa _ _ _) (s_newa (tt := 0) (ty := .int) rfl rfl rfl rfl rfl (by decide) zw527 dX13_init_777 ?_)
  refine zp13_99 hZ.1 rfl rfl dX13_init_779 zw4220 ?_
  refine rx_by (e_ldR _ _) (s_aload_n hZ.1 dX13_init_782 rfl ?_)
  refine s_sipush dX13_init_783 (by decide +kernel) ?_
  refine rx_by2 (l_newa _ _ _) (s_newa (tt := 0) (ty := .int) rfl rfl rfl rfl rfl (by decide) zw527 dX13_init_786 ?_)
  refine zp13_100 hZ.1 rfl rfl dX13_init_788 zw4221 ?_
  refine rx_by (e_ldR _ _) (s_aload_n hZ.1 dX13_init_791 rfl ?_)
  refine s_sipush dX13_init_792 (by decide +kernel) ?_
  refine rx_by2 (l_newa _ _ _) (s_newa (tt := 0) (ty := .int) rfl rfl rfl rfl rfl (by decide) zw527 dX13_init_795 ?_)
  exact (kX13_init_797 hZ j hj)
noncomputable def bX13_init_692 (j : Nat → rx_K) : rx_K := p_newa 0 0 (p_putf q_isR 13 85 (q_ld q_isR 0 (o_const 979200 (p_newa 1 1 (p_putf q_isR 13 86 (q_ld q_isR 0 (o_const 244800 (p_newa 0 0 (p_putf q_isR 13 87 (q_ld q_isR 0 (o_const 244800 (p_newa 0 0 (p_putf q_isR 13 88 (q_ld q_isR 0 (o_const 40 (p_newa 0 0 (p_putf q_isR 13 90 (q_ld q_isR 0 (o_const 34359738352 (p_putf q_isI 13 91 (q_ld q_isR 0 (o_const 1728 (p_newa 0 0 ((bX13_init_743 j)))))))))))))))))))))))))
set_option maxRecDepth 20000 in
theorem kX13_init_692 (hZ : zO b e D A X) (j : Nat → rx_K) (hj : ∀ k pc, [1219][k]? = some pc → rx_OK (zV b e D A X) mX13_init 6 pc (j k)) : rx_OK (zV b e D A X) mX13_init 6 692 (bX13_init_692 j) := by
  unfold bX13_init_692
  refine rx_by2 (l_newa _ _ _) (s_newa (tt := 0) (ty := .int) rfl rfl rfl rfl rfl (by decide) zw527 dX13_init_692 ?_)
  refine zp13_85 hZ.1 rfl rfl dX13_init_694 zw4206 ?_
  refine rx_by (e_ldR _ _) (s_aload_n hZ.1 dX13_init_697 rfl ?_)
  refine s_ldcw dX13_init_698 zw4110 (by decide +kernel) ?_
  refine rx_by2 (l_newa _ _ _) (s_newa (tt := 1) (ty := .long) rfl rfl rfl rfl rfl (by decide) zw528 dX13_init_701 ?_)
  refine zp13_86 hZ.1 rfl rfl dX13_init_703 zw4207 ?_
  refine rx_by (e_ldR _ _) (s_aload_n hZ.1 dX13_init_706 rfl ?_)
  refine s_sipush dX13_init_707 (by decide +kernel) ?_
  refine rx_by2 (l_newa _ _ _) (s_newa (tt := 0) (ty := .int) rfl rfl rfl rfl rfl (by decide) zw527 dX13_init_710 ?_)
  refine zp13_87 hZ.1 rfl rfl dX13_init_712 zw4208 ?_
  refine rx_by (e_ldR _ _) (s_aload_n hZ.1 dX13_init_715 rfl ?_)
  refine s_sipush dX13_init_716 (by decide +kernel) ?_
  refine rx_by2 (l_newa _ _ _) (s_newa (tt := 0) (ty := .int) rfl rfl rfl rfl rfl (by decide) zw527 dX13_init_719 ?_)
  refine zp13_88 hZ.1 rfl rfl dX13_init_721 zw4209 ?_
  refine rx_by (e_ldR _ _) (s_aload_n hZ.1 dX13_init_724 rfl ?_)
  refine s_iconst dX13_init_725 (by decide +kernel) ?_
  refine rx_by2 (l_newa _ _ _) (s_newa (tt := 0) (ty := .int) rfl rfl rfl rfl rfl (by decide) zw527 dX13_init_726 ?_)
  refine zp13_90 hZ.1 rfl rfl dX13_init_728 zw4211 ?_
  refine rx_by (e_ldR _ _) (s_aload_n hZ.1 dX13_init_731 rfl ?_)
  refine s_bipush dX13_init_732 (by decide +kernel) ?_
  refine zp13_91 hZ.1 dX13_init_734 zw4212 ?_
  refine rx_by (e_ldR _ _) (s_aload_n hZ.1 dX13_init_737 rfl ?_)
  refine s_sipush dX13_init_738 (by decide +kernel) ?_
  refine rx_by2 (l_newa _ _ _) (s_newa (tt := 0) (ty := .int) rfl rfl rfl rfl rfl (by decide) zw527 dX13_init_741 ?_)
  exact (kX13_init_743 hZ j hj)
noncomputable def bX13_init_638 (j : Nat → rx_K) : rx_K := p_newa 0 0 (p_putf q_isR 13 79 (q_ld q_isR 0 (o_const 244800 (p_newa 0 0 (p_putf q_isR 13 80 (q_ld q_isR 0 (o_const 244800 (p_newa 0 0 (p_putf q_isR 13 81 (q_ld q_isR 0 (o_const 244800 (p_newa 0 0 (p_putf q_isR 13 82 (q_ld q_isR 0 (o_const 244800 (p_newa 1 1 (p_putf q_isR 13 83 (q_ld q_isR 0 (o_const 244800 (p_newa 1 1 (p_putf q_isR 13 84 (q_ld q_isR 0 (o_const 244800 ((bX13_init_692 j)))))))))))))))))))))))))
set_option maxRecDepth 20000 in
theorem kX13_init_638 (hZ : zO b e D A X) (j : Nat → rx_K) (hj : ∀ k pc, [1219][k]? = some pc → rx_OK (zV b e D A X) mX13_init 6 pc (j k)) : rx_OK (zV b e D A X) mX13_init 6 638 (bX13_init_638 j) := by
  unfold bX13_init_638
  refine rx_by2 (l_newa _ _ _) (s_newa (tt := 0) (ty := .int) rfl rfl rfl rfl rfl (by decide) zw527 dX13_init_638 ?_)
  refine zp13_79 hZ.1 rfl rfl dX13_init_640 zw4200 ?_
  refine rx_by (e_ldR _ _) (s_aload_n hZ.1 dX13_init_643 rfl ?_)
  refine s_sipush dX13_init_644 (by decide +kernel) ?_
  refine rx_by2 (l_newa _ _ _) (s_newa (tt := 0) (ty := .int) rfl rfl rfl rfl rfl (by decide) zw527 dX13_init_647 ?_)
  refine zp13_80 hZ.1 rfl rfl dX13_init_649 zw4201 ?_
  refine rx_by (e_ldR _ _) (s_aload_n hZ.1 dX13_init_652 rfl ?_)
  refine s_sipush dX13_init_653 (by decide +kernel) ?_
  refine rx_by2 (l_newa _ _ _) (s_newa (tt := 0) (ty := .int) rfl rfl rfl rfl rfl (by decide) zw527 dX13_init_656 ?_)
  refine zp13_81 hZ.1 rfl rfl dX13_init_658 zw4202 ?_
  refine rx_by (e_ldR _ _) (s_aload_n hZ.1 dX13_init_661 rfl ?_)
  refine s_sipush dX13_init_662 (by decide +kernel) ?_
  refine rx_by2 (l_newa _ _ _) (s_newa (tt := 0) (ty := .int) rfl rfl rfl rfl rfl (by decide) zw527 dX13_init_665 ?_)
  refine zp13_82 hZ.1 rfl rfl dX13_init_667 zw4203 ?_
  refine rx_by (e_ldR _ _) (s_aload_n hZ.1 dX13_init_670 rfl ?_)
  refine s_sipush dX13_init_671 (by decide +kernel) ?_
  refine rx_by2 (l_newa _ _ _) (s_newa (tt := 1) (ty := .long) rfl rfl rfl rfl rfl (by decide) zw528 dX13_init_674 ?_)
  refine zp13_83 hZ.1 rfl rfl dX13_init_676 zw4204 ?_
  refine rx_by (e_ldR _ _) (s_aload_n hZ.1 dX13_init_679 rfl ?_)
  refine s_sipush dX13_init_680 (by decide +kernel) ?_
  refine rx_by2 (l_newa _ _ _) (s_newa (tt := 1) (ty := .long) rfl rfl rfl rfl rfl (by decide) zw528 dX13_init_683 ?_)
  refine zp13_84 hZ.1 rfl rfl dX13_init_685 zw4205 ?_
  refine rx_by (e_ldR _ _) (s_aload_n hZ.1 dX13_init_688 rfl ?_)
  refine s_sipush dX13_init_689 (by decide +kernel) ?_
  exact (kX13_init_692 hZ j hj)
noncomputable def bX13_init_584 (j : Nat → rx_K) : rx_K := p_newa 0 0 (p_putf q_isR 13 73 (q_ld q_isR 0 (o_const 244800 (p_newa 1 1 (p_putf q_isR 13 74 (q_ld q_isR 0 (o_const 244800 (p_newa 1 1 (p_putf q_isR 13 75 (q_ld q_isR 0 (o_const 244800 (p_newa 1 1 (p_putf q_isR 13 76 (q_ld q_isR 0 (o_const 244800 (p_newa 0 0 (p_putf q_isR 13 77 (q_ld q_isR 0 (o_const 244800 (p_newa 0 0 (p_putf q_isR 13 78 (q_ld q_isR 0 (o_const 244800 ((bX13_init_638 j)))))))))))))))))))))))))
set_option maxRecDepth 20000 in
theorem kX13_init_584 (hZ : zO b e D A X) (j : Nat → rx_K) (hj : ∀ k pc, [1219][k]? = some pc → rx_OK (zV b e D A X) mX13_init 6 pc (j k)) : rx_OK (zV b e D A X) mX13_init 6 584 (bX13_init_584 j) := by
  unfold bX13_init_584
  refine rx_by2 (l_newa _ _ _) (s_newa (tt := 0) (ty := .int) rfl rfl rfl rfl rfl (by decide) zw527 dX13_init_584 ?_)
  refine zp13_73 hZ.1 rfl rfl dX13_init_586 zw4194 ?_
  refine rx_by (e_ldR _ _) (s_aload_n hZ.1 dX13_init_589 rfl ?_)
  refine s_sipush dX13_init_590 (by decide +kernel) ?_
  refine rx_by2 (l_newa _ _ _) (s_newa (tt := 1) (ty := .long) rfl rfl rfl rfl rfl (by decide) zw528 dX13_init_593 ?_)
  refine zp13_74 hZ.1 rfl rfl dX13_init_595 zw4195 ?_
  refine rx_by (e_ldR _ _) (s_aload_n hZ.1 dX13_init_598 rfl ?_)
  refine s_sipush dX13_init_599 (by decide +kernel) ?_
  refine rx_by2 (l_newa _ _ _) (s_newa (tt := 1) (ty := .long) rfl rfl rfl rfl rfl (by decide) zw528 dX13_init_602 ?_)
  refine zp13_75 hZ.1 rfl rfl dX13_init_604 zw4196 ?_
  refine rx_by (e_ldR _ _) (s_aload_n hZ.1 dX13_init_607 rfl ?_)
  refine s_sipush dX13_init_608 (by decide +kernel) ?_
  refine rx_by2 (l_newa _ _ _) (s_newa (tt := 1) (ty := .long) rfl rfl rfl rfl rfl (by decide) zw528 dX13_init_611 ?_)
  refine zp13_76 hZ.1 rfl rfl dX13_init_613 zw4197 ?_
  refine rx_by (e_ldR _ _) (s_aload_n hZ.1 dX13_init_616 rfl ?_)
  refine s_sipush dX13_init_617 (by decide +kernel) ?_
  refine rx_by2 (l_newa _ _ _) (s_newa (tt := 0) (ty := .int) rfl rfl rfl rfl rfl (by decide) zw527 dX13_init_620 ?_)
  refine zp13_77 hZ.1 rfl rfl dX13_init_622 zw4198 ?_
  refine rx_by (e_ldR _ _) (s_aload_n hZ.1 dX13_init_625 rfl ?_)
  refine s_sipush dX13_init_626 (by decide +kernel) ?_
  refine rx_by2 (l_newa _ _ _) (s_newa (tt := 0) (ty := .int) rfl rfl rfl rfl rfl (by decide) zw527 dX13_init_629 ?_)
  refine zp13_78 hZ.1 rfl rfl dX13_init_631 zw4199 ?_
  refine rx_by (e_ldR _ _) (s_aload_n hZ.1 dX13_init_634 rfl ?_)
  refine s_sipush dX13_init_635 (by decide +kernel) ?_
  exact (kX13_init_638 hZ j hj)
noncomputable def bX13_init_531 (j : Nat → rx_K) : rx_K := p_newa 0 0 (p_putf q_isR 13 67 (q_ld q_isR 0 (o_const 58752 (p_newa 0 0 (p_putf q_isR 13 68 (q_ld q_isR 0 (o_const 144 (p_newa 0 0 (p_putf q_isR 13 69 (q_ld q_isR 0 (o_const 244800 (p_newa 0 0 (p_putf q_isR 13 70 (q_ld q_isR 0 (o_const 244800 (p_newa 0 0 (p_putf q_isR 13 71 (q_ld q_isR 0 (o_const 244800 (p_newa 0 0 (p_putf q_isR 13 72 (q_ld q_isR 0 (o_const 244800 ((bX13_init_584 j)))))))))))))))))))))))))
set_option maxRecDepth 20000 in
theorem kX13_init_531 (hZ : zO b e D A X) (j : Nat → rx_K) (hj : ∀ k pc, [1219][k]? = some pc → rx_OK (zV b e D A X) mX13_init 6 pc (j k)) : rx_OK (zV b e D A X) mX13_init 6 531 (bX13_init_531 j) := by
  unfold bX13_init_531
  refine rx_by2 (l_newa _ _ _) (s_newa (tt := 0) (ty := .int) rfl rfl rfl rfl rfl (by decide) zw527 dX13_init_531 ?_)
  refine zp13_67 hZ.1 rfl rfl dX13_init_533 zw4188 ?_
  refine rx_by (e_ldR _ _) (s_aload_n hZ.1 dX13_init_536 rfl ?_)
  refine s_sipush dX13_init_537 (by decide +kernel) ?_
  refine rx_by2 (l_newa _ _ _) (s_newa (tt := 0) (ty := .int) rfl rfl rfl rfl rfl (by decide) zw527 dX13_init_540 ?_)
  refine zp13_68 hZ.1 rfl rfl dX13_init_542 zw4189 ?_
  refine rx_by (e_ldR _ _) (s_aload_n hZ.1 dX13_init_545 rfl ?_)
  refine s_bipush dX13_init_546 (by decide +kernel) ?_
  refine rx_by2 (l_newa _ _ _) (s_newa (tt := 0) (ty := .int) rfl rfl rfl rfl rfl (by decide) zw527 dX13_init_548 ?_)
  refine zp13_69 hZ.1 rfl rfl dX13_init_550 zw4190 ?_
  refine rx_by (e_ldR _ _) (s_aload_n hZ.1 dX13_init_553 rfl ?_)
  refine s_sipush dX13_init_554 (by decide +kernel) ?_
  refine rx_by2 (l_newa _ _ _) (s_newa (tt := 0) (ty := .int) rfl rfl rfl rfl rfl (by decide) zw527 dX13_init_557 ?_)
  refine zp13_70 hZ.1 rfl rfl dX13_init_559 zw4191 ?_
  refine rx_by (e_ldR _ _) (s_aload_n hZ.1 dX13_init_562 rfl ?_)
  refine s_sipush dX13_init_563 (by decide +kernel) ?_
  refine rx_by2 (l_newa _ _ _) (s_newa (tt := 0) (ty := .int) rfl rfl rfl rfl rfl (by decide) zw527 dX13_init_566 ?_)
  refine zp13_71 hZ.1 rfl rfl dX13_init_568 zw4192 ?_
  refine rx_by (e_ldR _ _) (s_aload_n hZ.1 dX13_init_571 rfl ?_)
  refine s_sipush dX13_init_572 (by decide +kernel) ?_
  refine rx_by2 (l_newa _ _ _) (s_newa (tt := 0) (ty := .int) rfl rfl rfl rfl rfl (by decide) zw527 dX13_init_575 ?_)
  refine zp13_72 hZ.1 rfl rfl dX13_init_577 zw4193 ?_
  refine rx_by (e_ldR _ _) (s_aload_n hZ.1 dX13_init_580 rfl ?_)
  refine s_sipush dX13_init_581 (by decide +kernel) ?_
  exact (kX13_init_584 hZ j hj)
noncomputable def bX13_init_477 (j : Nat → rx_K) : rx_K := p_newa 0 0 (p_putf q_isR 13 61 (q_ld q_isR 0 (o_const 58752 (p_newa 0 0 (p_putf q_isR 13 62 (q_ld q_isR 0 (o_const 58752 (p_newa 0 0 (p_putf q_isR 13 63 (q_ld q_isR 0 (o_const 58752 (p_newa 3 0 (p_putf q_isR 13 64 (q_ld q_isR 0 (o_const 58752 (p_newa 0 0 (p_putf q_isR 13 65 (q_ld q_isR 0 (o_const 58752 (p_newa 1 1 (p_putf q_isR 13 66 (q_ld q_isR 0 (o_const 58752 ((bX13_init_531 j)))))))))))))))))))))))))
set_option maxRecDepth 20000 in
theorem kX13_init_477 (hZ : zO b e D A X) (j : Nat → rx_K) (hj : ∀ k pc, [1219][k]? = some pc → rx_OK (zV b e D A X) mX13_init 6 pc (j k)) : rx_OK (zV b e D A X) mX13_init 6 477 (bX13_init_477 j) := by
  unfold bX13_init_477
  refine rx_by2 (l_newa _ _ _) (s_newa (tt := 0) (ty := .int) rfl rfl rfl rfl rfl (by decide) zw527 dX13_init_477 ?_)
  refine zp13_61 hZ.1 rfl rfl dX13_init_479 zw4182 ?_
  refine rx_by (e_ldR _ _) (s_aload_n hZ.1 dX13_init_482 rfl ?_)
  refine s_sipush dX13_init_483 (by decide +kernel) ?_
  refine rx_by2 (l_newa _ _ _) (s_newa (tt := 0) (ty := .int) rfl rfl rfl rfl rfl (by decide) zw527 dX13_init_486 ?_)
  refine zp13_62 hZ.1 rfl rfl dX13_init_488 zw4183 ?_
  refine rx_by (e_ldR _ _) (s_aload_n hZ.1 dX13_init_491 rfl ?_)
  refine s_sipush dX13_init_492 (by decide +kernel) ?_
  refine rx_by2 (l_newa _ _ _) (s_newa (tt := 0) (ty := .int) rfl rfl rfl rfl rfl (by decide) zw527 dX13_init_495 ?_)
  refine zp13_63 hZ.1 rfl rfl dX13_init_497 zw4184 ?_
  refine rx_by (e_ldR _ _) (s_aload_n hZ.1 dX13_init_500 rfl ?_)
  refine s_sipush dX13_init_501 (by decide +kernel) ?_
  refine rx_by2 (l_newa _ _ _) (s_newa (tt := 3) (ty := .boolean) rfl rfl rfl rfl rfl (by decide) zw4661 dX13_init_504 ?_)
  refine zp13_64 hZ.1 rfl rfl dX13_init_506 zw4185 ?_
  refine rx_by (e_ldR _ _) (s_aload_n hZ.1 dX13_init_509 rfl ?_)
  refine s_sipush dX13_init_510 (by decide +kernel) ?_
  refine rx_by2 (l_newa _ _ _) (s_newa (tt := 0) (ty := .int) rfl rfl rfl rfl rfl (by decide) zw527 dX13_init_513 ?_)
  refine zp13_65 hZ.1 rfl rfl dX13_init_515 zw4186 ?_
  refine rx_by (e_ldR _ _) (s_aload_n hZ.1 dX13_init_518 rfl ?_)
  refine s_sipush dX13_init_519 (by decide +kernel) ?_
  refine rx_by2 (l_newa _ _ _) (s_newa (tt := 1) (ty := .long) rfl rfl rfl rfl rfl (by decide) zw528 dX13_init_522 ?_)
  refine zp13_66 hZ.1 rfl rfl dX13_init_524 zw4187 ?_
  refine rx_by (e_ldR _ _) (s_aload_n hZ.1 dX13_init_527 rfl ?_)
  refine s_sipush dX13_init_528 (by decide +kernel) ?_
  exact (kX13_init_531 hZ j hj)
noncomputable def bX13_init_423 (j : Nat → rx_K) : rx_K := p_newa 0 0 (p_putf q_isR 13 55 (q_ld q_isR 0 (o_const 235008 (p_newa 1 1 (p_putf q_isR 13 56 (q_ld q_isR 0 (o_const 235008 (p_newa 0 0 (p_putf q_isR 13 57 (q_ld q_isR 0 (o_const 235008 (p_newa 1 1 (p_putf q_isR 13 58 (q_ld q_isR 0 (o_const 235008 (p_newa 0 0 (p_putf q_isR 13 59 (q_ld q_isR 0 (o_const 58752 (p_newa 0 0 (p_putf q_isR 13 60 (q_ld q_isR 0 (o_const 58752 ((bX13_init_477 j)))))))))))))))))))))))))
set_option maxRecDepth 20000 in
theorem kX13_init_423 (hZ : zO b e D A X) (j : Nat → rx_K) (hj : ∀ k pc, [1219][k]? = some pc → rx_OK (zV b e D A X) mX13_init 6 pc (j k)) : rx_OK (zV b e D A X) mX13_init 6 423 (bX13_init_423 j) := by
  unfold bX13_init_423
  refine rx_by2 (l_newa _ _ _) (s_newa (tt := 0) (ty := .int) rfl rfl rfl rfl rfl (by decide) zw527 dX13_init_423 ?_)
  refine zp13_55 hZ.1 rfl rfl dX13_init_425 zw4176 ?_
  refine rx_by (e_ldR _ _) (s_aload_n hZ.1 dX13_init_428 rfl ?_)
  refine s_sipush dX13_init_429 (by decide +kernel) ?_
  refine rx_by2 (l_newa _ _ _) (s_newa (tt := 1) (ty := .long) rfl rfl rfl rfl rfl (by decide) zw528 dX13_init_432 ?_)
  refine zp13_56 hZ.1 rfl rfl dX13_init_434 zw4177 ?_
  refine rx_by (e_ldR _ _) (s_aload_n hZ.1 dX13_init_437 rfl ?_)
  refine s_sipush dX13_init_438 (by decide +kernel) ?_
  refine rx_by2 (l_newa _ _ _) (s_newa (tt := 0) (ty := .int) rfl rfl rfl rfl rfl (by decide) zw527 dX13_init_441 ?_)
  refine zp13_57 hZ.1 rfl rfl dX13_init_443 zw4178 ?_
  refine rx_by (e_ldR _ _) (s_aload_n hZ.1 dX13_init_446 rfl ?_)
  refine s_sipush dX13_init_447 (by decide +kernel) ?_
  refine rx_by2 (l_newa _ _ _) (s_newa (tt := 1) (ty := .long) rfl rfl rfl rfl rfl (by decide) zw528 dX13_init_450 ?_)
  refine zp13_58 hZ.1 rfl rfl dX13_init_452 zw4179 ?_
  refine rx_by (e_ldR _ _) (s_aload_n hZ.1 dX13_init_455 rfl ?_)
  refine s_sipush dX13_init_456 (by decide +kernel) ?_
  refine rx_by2 (l_newa _ _ _) (s_newa (tt := 0) (ty := .int) rfl rfl rfl rfl rfl (by decide) zw527 dX13_init_459 ?_)
  refine zp13_59 hZ.1 rfl rfl dX13_init_461 zw4180 ?_
  refine rx_by (e_ldR _ _) (s_aload_n hZ.1 dX13_init_464 rfl ?_)
  refine s_sipush dX13_init_465 (by decide +kernel) ?_
  refine rx_by2 (l_newa _ _ _) (s_newa (tt := 0) (ty := .int) rfl rfl rfl rfl rfl (by decide) zw527 dX13_init_468 ?_)
  refine zp13_60 hZ.1 rfl rfl dX13_init_470 zw4181 ?_
  refine rx_by (e_ldR _ _) (s_aload_n hZ.1 dX13_init_473 rfl ?_)
  refine s_sipush dX13_init_474 (by decide +kernel) ?_
  exact (kX13_init_477 hZ j hj)
noncomputable def bX13_init_369 (j : Nat → rx_K) : rx_K := p_newa 3 0 (p_putf q_isR 13 49 (q_ld q_isR 0 (o_const 58752 (p_newa 3 0 (p_putf q_isR 13 50 (q_ld q_isR 0 (o_const 58752 (p_newa 1 1 (p_putf q_isR 13 51 (q_ld q_isR 0 (o_const 58752 (p_newa 0 0 (p_putf q_isR 13 52 (q_ld q_isR 0 (o_const 58752 (p_newa 1 1 (p_putf q_isR 13 53 (q_ld q_isR 0 (o_const 58752 (p_newa 0 0 (p_putf q_isR 13 54 (q_ld q_isR 0 (o_const 58752 ((bX13_init_423 j)))))))))))))))))))))))))
set_option maxRecDepth 20000 in
theorem kX13_init_369 (hZ : zO b e D A X) (j : Nat → rx_K) (hj : ∀ k pc, [1219][k]? = some pc → rx_OK (zV b e D A X) mX13_init 6 pc (j k)) : rx_OK (zV b e D A X) mX13_init 6 369 (bX13_init_369 j) := by
  unfold bX13_init_369
  refine rx_by2 (l_newa _ _ _) (s_newa (tt := 3) (ty := .boolean) rfl rfl rfl rfl rfl (by decide) zw4661 dX13_init_369 ?_)
  refine zp13_49 hZ.1 rfl rfl dX13_init_371 zw4170 ?_
  refine rx_by (e_ldR _ _) (s_aload_n hZ.1 dX13_init_374 rfl ?_)
  refine s_sipush dX13_init_375 (by decide +kernel) ?_
  refine rx_by2 (l_newa _ _ _) (s_newa (tt := 3) (ty := .boolean) rfl rfl rfl rfl rfl (by decide) zw4661 dX13_init_378 ?_)
  refine zp13_50 hZ.1 rfl rfl dX13_init_380 zw4171 ?_
  refine rx_by (e_ldR _ _) (s_aload_n hZ.1 dX13_init_383 rfl ?_)
  refine s_sipush dX13_init_384 (by decide +kernel) ?_
  refine rx_by2 (l_newa _ _ _) (s_newa (tt := 1) (ty := .long) rfl rfl rfl rfl rfl (by decide) zw528 dX13_init_387 ?_)
  refine zp13_51 hZ.1 rfl rfl dX13_init_389 zw4172 ?_
  refine rx_by (e_ldR _ _) (s_aload_n hZ.1 dX13_init_392 rfl ?_)
  refine s_sipush dX13_init_393 (by decide +kernel) ?_
  refine rx_by2 (l_newa _ _ _) (s_newa (tt := 0) (ty := .int) rfl rfl rfl rfl rfl (by decide) zw527 dX13_init_396 ?_)
  refine zp13_52 hZ.1 rfl rfl dX13_init_398 zw4173 ?_
  refine rx_by (e_ldR _ _) (s_aload_n hZ.1 dX13_init_401 rfl ?_)
  refine s_sipush dX13_init_402 (by decide +kernel) ?_
  refine rx_by2 (l_newa _ _ _) (s_newa (tt := 1) (ty := .long) rfl rfl rfl rfl rfl (by decide) zw528 dX13_init_405 ?_)
  refine zp13_53 hZ.1 rfl rfl dX13_init_407 zw4174 ?_
  refine rx_by (e_ldR _ _) (s_aload_n hZ.1 dX13_init_410 rfl ?_)
  refine s_sipush dX13_init_411 (by decide +kernel) ?_
  refine rx_by2 (l_newa _ _ _) (s_newa (tt := 0) (ty := .int) rfl rfl rfl rfl rfl (by decide) zw527 dX13_init_414 ?_)
  refine zp13_54 hZ.1 rfl rfl dX13_init_416 zw4175 ?_
  refine rx_by (e_ldR _ _) (s_aload_n hZ.1 dX13_init_419 rfl ?_)
  refine s_sipush dX13_init_420 (by decide +kernel) ?_
  exact (kX13_init_423 hZ j hj)
noncomputable def bX13_init_315 (j : Nat → rx_K) : rx_K := p_newa 0 0 (p_putf q_isR 13 43 (q_ld q_isR 0 (o_const 58752 (p_newa 0 0 (p_putf q_isR 13 44 (q_ld q_isR 0 (o_const 58752 (p_newa 3 0 (p_putf q_isR 13 45 (q_ld q_isR 0 (o_const 58752 (p_newa 3 0 (p_putf q_isR 13 46 (q_ld q_isR 0 (o_const 58752 (p_newa 3 0 (p_putf q_isR 13 47 (q_ld q_isR 0 (o_const 58752 (p_newa 3 0 (p_putf q_isR 13 48 (q_ld q_isR 0 (o_const 58752 ((bX13_init_369 j)))))))))))))))))))))))))
set_option maxRecDepth 20000 in
theorem kX13_init_315 (hZ : zO b e D A X) (j : Nat → rx_K) (hj : ∀ k pc, [1219][k]? = some pc → rx_OK (zV b e D A X) mX13_init 6 pc (j k)) : rx_OK (zV b e D A X) mX13_init 6 315 (bX13_init_315 j) := by
  unfold bX13_init_315
  refine rx_by2 (l_newa _ _ _) (s_newa (tt := 0) (ty := .int) rfl rfl rfl rfl rfl (by decide) zw527 dX13_init_315 ?_)
  refine zp13_43 hZ.1 rfl rfl dX13_init_317 zw4164 ?_
  refine rx_by (e_ldR _ _) (s_aload_n hZ.1 dX13_init_320 rfl ?_)
  refine s_sipush dX13_init_321 (by decide +kernel) ?_
  refine rx_by2 (l_newa _ _ _) (s_newa (tt := 0) (ty := .int) rfl rfl rfl rfl rfl (by decide) zw527 dX13_init_324 ?_)
  refine zp13_44 hZ.1 rfl rfl dX13_init_326 zw4165 ?_
  refine rx_by (e_ldR _ _) (s_aload_n hZ.1 dX13_init_329 rfl ?_)
  refine s_sipush dX13_init_330 (by decide +kernel) ?_
  refine rx_by2 (l_newa _ _ _) (s_newa (tt := 3) (ty := .boolean) rfl rfl rfl rfl rfl (by decide) zw4661 dX13_init_333 ?_)
  refine zp13_45 hZ.1 rfl rfl dX13_init_335 zw4166 ?_
  refine rx_by (e_ldR _ _) (s_aload_n hZ.1 dX13_init_338 rfl ?_)
  refine s_sipush dX13_init_339 (by decide +kernel) ?_
  refine rx_by2 (l_newa _ _ _) (s_newa (tt := 3) (ty := .boolean) rfl rfl rfl rfl rfl (by decide) zw4661 dX13_init_342 ?_)
  refine zp13_46 hZ.1 rfl rfl dX13_init_344 zw4167 ?_
  refine rx_by (e_ldR _ _) (s_aload_n hZ.1 dX13_init_347 rfl ?_)
  refine s_sipush dX13_init_348 (by decide +kernel) ?_
  refine rx_by2 (l_newa _ _ _) (s_newa (tt := 3) (ty := .boolean) rfl rfl rfl rfl rfl (by decide) zw4661 dX13_init_351 ?_)
  refine zp13_47 hZ.1 rfl rfl dX13_init_353 zw4168 ?_
  refine rx_by (e_ldR _ _) (s_aload_n hZ.1 dX13_init_356 rfl ?_)
  refine s_sipush dX13_init_357 (by decide +kernel) ?_
  refine rx_by2 (l_newa _ _ _) (s_newa (tt := 3) (ty := .boolean) rfl rfl rfl rfl rfl (by decide) zw4661 dX13_init_360 ?_)
  refine zp13_48 hZ.1 rfl rfl dX13_init_362 zw4169 ?_
  refine rx_by (e_ldR _ _) (s_aload_n hZ.1 dX13_init_365 rfl ?_)
  refine s_sipush dX13_init_366 (by decide +kernel) ?_
  exact (kX13_init_369 hZ j hj)
noncomputable def bX13_init_261 (j : Nat → rx_K) : rx_K := p_newa 0 0 (p_putf q_isR 13 37 (q_ld q_isR 0 (o_const 13824 (p_newa 1 1 (p_putf q_isR 13 38 (q_ld q_isR 0 (o_const 13824 (p_newa 0 0 (p_putf q_isR 13 39 (q_ld q_isR 0 (o_const 1728 (p_newa 0 0 (p_putf q_isR 13 40 (q_ld q_isR 0 (o_const 1728 (p_newa 0 0 (p_putf q_isR 13 41 (q_ld q_isR 0 (o_const 58752 (p_newa 0 0 (p_putf q_isR 13 42 (q_ld q_isR 0 (o_const 58752 ((bX13_init_315 j)))))))))))))))))))))))))
set_option maxRecDepth 20000 in
theorem kX13_init_261 (hZ : zO b e D A X) (j : Nat → rx_K) (hj : ∀ k pc, [1219][k]? = some pc → rx_OK (zV b e D A X) mX13_init 6 pc (j k)) : rx_OK (zV b e D A X) mX13_init 6 261 (bX13_init_261 j) := by
  unfold bX13_init_261
  refine rx_by2 (l_newa _ _ _) (s_newa (tt := 0) (ty := .int) rfl rfl rfl rfl rfl (by decide) zw527 dX13_init_261 ?_)
  refine zp13_37 hZ.1 rfl rfl dX13_init_263 zw4158 ?_
  refine rx_by (e_ldR _ _) (s_aload_n hZ.1 dX13_init_266 rfl ?_)
  refine s_sipush dX13_init_267 (by decide +kernel) ?_
  refine rx_by2 (l_newa _ _ _) (s_newa (tt := 1) (ty := .long) rfl rfl rfl rfl rfl (by decide) zw528 dX13_init_270 ?_)
  refine zp13_38 hZ.1 rfl rfl dX13_init_272 zw4159 ?_
  refine rx_by (e_ldR _ _) (s_aload_n hZ.1 dX13_init_275 rfl ?_)
  refine s_sipush dX13_init_276 (by decide +kernel) ?_
  refine rx_by2 (l_newa _ _ _) (s_newa (tt := 0) (ty := .int) rfl rfl rfl rfl rfl (by decide) zw527 dX13_init_279 ?_)
  refine zp13_39 hZ.1 rfl rfl dX13_init_281 zw4160 ?_
  refine rx_by (e_ldR _ _) (s_aload_n hZ.1 dX13_init_284 rfl ?_)
  refine s_sipush dX13_init_285 (by decide +kernel) ?_
  refine rx_by2 (l_newa _ _ _) (s_newa (tt := 0) (ty := .int) rfl rfl rfl rfl rfl (by decide) zw527 dX13_init_288 ?_)
  refine zp13_40 hZ.1 rfl rfl dX13_init_290 zw4161 ?_
  refine rx_by (e_ldR _ _) (s_aload_n hZ.1 dX13_init_293 rfl ?_)
  refine s_sipush dX13_init_294 (by decide +kernel) ?_
  refine rx_by2 (l_newa _ _ _) (s_newa (tt := 0) (ty := .int) rfl rfl rfl rfl rfl (by decide) zw527 dX13_init_297 ?_)
  refine zp13_41 hZ.1 rfl rfl dX13_init_299 zw4162 ?_
  refine rx_by (e_ldR _ _) (s_aload_n hZ.1 dX13_init_302 rfl ?_)
  refine s_sipush dX13_init_303 (by decide +kernel) ?_
  refine rx_by2 (l_newa _ _ _) (s_newa (tt := 0) (ty := .int) rfl rfl rfl rfl rfl (by decide) zw527 dX13_init_306 ?_)
  refine zp13_42 hZ.1 rfl rfl dX13_init_308 zw4163 ?_
  refine rx_by (e_ldR _ _) (s_aload_n hZ.1 dX13_init_311 rfl ?_)
  refine s_sipush dX13_init_312 (by decide +kernel) ?_
  exact (kX13_init_315 hZ j hj)
noncomputable def bX13_init_207 (j : Nat → rx_K) : rx_K := p_newa 0 0 (p_putf q_isR 13 31 (q_ld q_isR 0 (o_const 1728 (p_newa 0 0 (p_putf q_isR 13 32 (q_ld q_isR 0 (o_const 1728 (p_newa 1 1 (p_putf q_isR 13 33 (q_ld q_isR 0 (o_const 1728 (p_newa 0 0 (p_putf q_isR 13 34 (q_ld q_isR 0 (o_const 13824 (p_newa 1 1 (p_putf q_isR 13 35 (q_ld q_isR 0 (o_const 13824 (p_newa 0 0 (p_putf q_isR 13 36 (q_ld q_isR 0 (o_const 1728 ((bX13_init_261 j)))))))))))))))))))))))))
set_option maxRecDepth 20000 in
theorem kX13_init_207 (hZ : zO b e D A X) (j : Nat → rx_K) (hj : ∀ k pc, [1219][k]? = some pc → rx_OK (zV b e D A X) mX13_init 6 pc (j k)) : rx_OK (zV b e D A X) mX13_init 6 207 (bX13_init_207 j) := by
  unfold bX13_init_207
  refine rx_by2 (l_newa _ _ _) (s_newa (tt := 0) (ty := .int) rfl rfl rfl rfl rfl (by decide) zw527 dX13_init_207 ?_)
  refine zp13_31 hZ.1 rfl rfl dX13_init_209 zw4152 ?_
  refine rx_by (e_ldR _ _) (s_aload_n hZ.1 dX13_init_212 rfl ?_)
  refine s_sipush dX13_init_213 (by decide +kernel) ?_
  refine rx_by2 (l_newa _ _ _) (s_newa (tt := 0) (ty := .int) rfl rfl rfl rfl rfl (by decide) zw527 dX13_init_216 ?_)
  refine zp13_32 hZ.1 rfl rfl dX13_init_218 zw4153 ?_
  refine rx_by (e_ldR _ _) (s_aload_n hZ.1 dX13_init_221 rfl ?_)
  refine s_sipush dX13_init_222 (by decide +kernel) ?_
  refine rx_by2 (l_newa _ _ _) (s_newa (tt := 1) (ty := .long) rfl rfl rfl rfl rfl (by decide) zw528 dX13_init_225 ?_)
  refine zp13_33 hZ.1 rfl rfl dX13_init_227 zw4154 ?_
  refine rx_by (e_ldR _ _) (s_aload_n hZ.1 dX13_init_230 rfl ?_)
  refine s_sipush dX13_init_231 (by decide +kernel) ?_
  refine rx_by2 (l_newa _ _ _) (s_newa (tt := 0) (ty := .int) rfl rfl rfl rfl rfl (by decide) zw527 dX13_init_234 ?_)
  refine zp13_34 hZ.1 rfl rfl dX13_init_236 zw4155 ?_
  refine rx_by (e_ldR _ _) (s_aload_n hZ.1 dX13_init_239 rfl ?_)
  refine s_sipush dX13_init_240 (by decide +kernel) ?_
  refine rx_by2 (l_newa _ _ _) (s_newa (tt := 1) (ty := .long) rfl rfl rfl rfl rfl (by decide) zw528 dX13_init_243 ?_)
  refine zp13_35 hZ.1 rfl rfl dX13_init_245 zw4156 ?_
  refine rx_by (e_ldR _ _) (s_aload_n hZ.1 dX13_init_248 rfl ?_)
  refine s_sipush dX13_init_249 (by decide +kernel) ?_
  refine rx_by2 (l_newa _ _ _) (s_newa (tt := 0) (ty := .int) rfl rfl rfl rfl rfl (by decide) zw527 dX13_init_252 ?_)
  refine zp13_36 hZ.1 rfl rfl dX13_init_254 zw4157 ?_
  refine rx_by (e_ldR _ _) (s_aload_n hZ.1 dX13_init_257 rfl ?_)
  refine s_sipush dX13_init_258 (by decide +kernel) ?_
  exact (kX13_init_261 hZ j hj)
noncomputable def bX13_init_153 (j : Nat → rx_K) : rx_K := p_newa 0 0 (p_putf q_isR 13 25 (q_ld q_isR 0 (o_const 1728 (p_newa 3 0 (p_putf q_isR 13 26 (q_ld q_isR 0 (o_const 1728 (p_newa 0 0 (p_putf q_isR 13 27 (q_ld q_isR 0 (o_const 1728 (p_newa 1 1 (p_putf q_isR 13 28 (q_ld q_isR 0 (o_const 1728 (p_newa 0 0 (p_putf q_isR 13 29 (q_ld q_isR 0 (o_const 6912 (p_newa 1 1 (p_putf q_isR 13 30 (q_ld q_isR 0 (o_const 6912 ((bX13_init_207 j)))))))))))))))))))))))))
set_option maxRecDepth 20000 in
theorem kX13_init_153 (hZ : zO b e D A X) (j : Nat → rx_K) (hj : ∀ k pc, [1219][k]? = some pc → rx_OK (zV b e D A X) mX13_init 6 pc (j k)) : rx_OK (zV b e D A X) mX13_init 6 153 (bX13_init_153 j) := by
  unfold bX13_init_153
  refine rx_by2 (l_newa _ _ _) (s_newa (tt := 0) (ty := .int) rfl rfl rfl rfl rfl (by decide) zw527 dX13_init_153 ?_)
  refine zp13_25 hZ.1 rfl rfl dX13_init_155 zw4146 ?_
  refine rx_by (e_ldR _ _) (s_aload_n hZ.1 dX13_init_158 rfl ?_)
  refine s_sipush dX13_init_159 (by decide +kernel) ?_
  refine rx_by2 (l_newa _ _ _) (s_newa (tt := 3) (ty := .boolean) rfl rfl rfl rfl rfl (by decide) zw4661 dX13_init_162 ?_)
  refine zp13_26 hZ.1 rfl rfl dX13_init_164 zw4147 ?_
  refine rx_by (e_ldR _ _) (s_aload_n hZ.1 dX13_init_167 rfl ?_)
  refine s_sipush dX13_init_168 (by decide +kernel) ?_
  refine rx_by2 (l_newa _ _ _) (s_newa (tt := 0) (ty := .int) rfl rfl rfl rfl rfl (by decide) zw527 dX13_init_171 ?_)
  refine zp13_27 hZ.1 rfl rfl dX13_init_173 zw4148 ?_
  refine rx_by (e_ldR _ _) (s_aload_n hZ.1 dX13_init_176 rfl ?_)
  refine s_sipush dX13_init_177 (by decide +kernel) ?_
  refine rx_by2 (l_newa _ _ _) (s_newa (tt := 1) (ty := .long) rfl rfl rfl rfl rfl (by decide) zw528 dX13_init_180 ?_)
  refine zp13_28 hZ.1 rfl rfl dX13_init_182 zw4149 ?_
  refine rx_by (e_ldR _ _) (s_aload_n hZ.1 dX13_init_185 rfl ?_)
  refine s_sipush dX13_init_186 (by decide +kernel) ?_
  refine rx_by2 (l_newa _ _ _) (s_newa (tt := 0) (ty := .int) rfl rfl rfl rfl rfl (by decide) zw527 dX13_init_189 ?_)
  refine zp13_29 hZ.1 rfl rfl dX13_init_191 zw4150 ?_
  refine rx_by (e_ldR _ _) (s_aload_n hZ.1 dX13_init_194 rfl ?_)
  refine s_sipush dX13_init_195 (by decide +kernel) ?_
  refine rx_by2 (l_newa _ _ _) (s_newa (tt := 1) (ty := .long) rfl rfl rfl rfl rfl (by decide) zw528 dX13_init_198 ?_)
  refine zp13_30 hZ.1 rfl rfl dX13_init_200 zw4151 ?_
  refine rx_by (e_ldR _ _) (s_aload_n hZ.1 dX13_init_203 rfl ?_)
  refine s_sipush dX13_init_204 (by decide +kernel) ?_
  exact (kX13_init_207 hZ j hj)
noncomputable def bX13_init_102 (j : Nat → rx_K) : rx_K := p_newa 1 1 (p_putf q_isR 13 14 (q_ld q_isR 0 (o_const 101088 (p_newa 0 0 (p_putf q_isR 13 15 (q_ld q_isR 0 (o_const 144 (p_newa 0 0 (p_putf q_isR 13 16 (q_ld q_isR 0 (o_const 256 (p_newa 1 1 (p_putf q_isR 13 17 (q_ld q_isR 0 (o_const 144 (p_newa 0 0 (p_putf q_isR 13 23 (q_ld q_isR 0 (o_const 1728 (p_newa 1 1 (p_putf q_isR 13 24 (q_ld q_isR 0 (o_const 1728 ((bX13_init_153 j)))))))))))))))))))))))))
set_option maxRecDepth 20000 in
theorem kX13_init_102 (hZ : zO b e D A X) (j : Nat → rx_K) (hj : ∀ k pc, [1219][k]? = some pc → rx_OK (zV b e D A X) mX13_init 6 pc (j k)) : rx_OK (zV b e D A X) mX13_init 6 102 (bX13_init_102 j) := by
  unfold bX13_init_102
  refine rx_by2 (l_newa _ _ _) (s_newa (tt := 1) (ty := .long) rfl rfl rfl rfl rfl (by decide) zw528 dX13_init_102 ?_)
  refine zp13_14 hZ.1 rfl rfl dX13_init_104 zw4135 ?_
  refine rx_by (e_ldR _ _) (s_aload_n hZ.1 dX13_init_107 rfl ?_)
  refine s_sipush dX13_init_108 (by decide +kernel) ?_
  refine rx_by2 (l_newa _ _ _) (s_newa (tt := 0) (ty := .int) rfl rfl rfl rfl rfl (by decide) zw527 dX13_init_111 ?_)
  refine zp13_15 hZ.1 rfl rfl dX13_init_113 zw4136 ?_
  refine rx_by (e_ldR _ _) (s_aload_n hZ.1 dX13_init_116 rfl ?_)
  refine s_bipush dX13_init_117 (by decide +kernel) ?_
  refine rx_by2 (l_newa _ _ _) (s_newa (tt := 0) (ty := .int) rfl rfl rfl rfl rfl (by decide) zw527 dX13_init_119 ?_)
  refine zp13_16 hZ.1 rfl rfl dX13_init_121 zw4137 ?_
  refine rx_by (e_ldR _ _) (s_aload_n hZ.1 dX13_init_124 rfl ?_)
  refine s_bipush dX13_init_125 (by decide +kernel) ?_
  refine rx_by2 (l_newa _ _ _) (s_newa (tt := 1) (ty := .long) rfl rfl rfl rfl rfl (by decide) zw528 dX13_init_127 ?_)
  refine zp13_17 hZ.1 rfl rfl dX13_init_129 zw4138 ?_
  refine rx_by (e_ldR _ _) (s_aload_n hZ.1 dX13_init_132 rfl ?_)
  refine s_bipush dX13_init_133 (by decide +kernel) ?_
  refine rx_by2 (l_newa _ _ _) (s_newa (tt := 0) (ty := .int) rfl rfl rfl rfl rfl (by decide) zw527 dX13_init_135 ?_)
  refine zp13_23 hZ.1 rfl rfl dX13_init_137 zw4144 ?_
  refine rx_by (e_ldR _ _) (s_aload_n hZ.1 dX13_init_140 rfl ?_)
  refine s_sipush dX13_init_141 (by decide +kernel) ?_
  refine rx_by2 (l_newa _ _ _) (s_newa (tt := 1) (ty := .long) rfl rfl rfl rfl rfl (by decide) zw528 dX13_init_144 ?_)
  refine zp13_24 hZ.1 rfl rfl dX13_init_146 zw4145 ?_
  refine rx_by (e_ldR _ _) (s_aload_n hZ.1 dX13_init_149 rfl ?_)
  refine s_sipush dX13_init_150 (by decide +kernel) ?_
  exact (kX13_init_153 hZ j hj)
noncomputable def bX13_init_51 (j : Nat → rx_K) : rx_K := p_newa 0 0 (p_putf q_isR 13 7 (q_ld q_isR 0 (o_const 320 (p_newa 0 0 (p_putf q_isR 13 8 (q_ld q_isR 0 (o_const 40 (p_newa 0 0 (p_putf q_isR 13 9 (q_ld q_isR 0 (o_const 101088 (p_newa 0 0 (p_putf q_isR 13 11 (q_ld q_isR 0 (o_const 101088 (p_newa 0 0 (p_putf q_isR 13 12 (q_ld q_isR 0 (o_const 101088 (p_newa 0 0 (p_putf q_isR 13 13 (q_ld q_isR 0 (o_const 101088 ((bX13_init_102 j)))))))))))))))))))))))))
set_option maxRecDepth 20000 in
theorem kX13_init_51 (hZ : zO b e D A X) (j : Nat → rx_K) (hj : ∀ k pc, [1219][k]? = some pc → rx_OK (zV b e D A X) mX13_init 6 pc (j k)) : rx_OK (zV b e D A X) mX13_init 6 51 (bX13_init_51 j) := by
  unfold bX13_init_51
  refine rx_by2 (l_newa _ _ _) (s_newa (tt := 0) (ty := .int) rfl rfl rfl rfl rfl (by decide) zw527 dX13_init_51 ?_)
  refine zp13_7 hZ.1 rfl rfl dX13_init_53 zw4128 ?_
  refine rx_by (e_ldR _ _) (s_aload_n hZ.1 dX13_init_56 rfl ?_)
  refine s_bipush dX13_init_57 (by decide +kernel) ?_
  refine rx_by2 (l_newa _ _ _) (s_newa (tt := 0) (ty := .int) rfl rfl rfl rfl rfl (by decide) zw527 dX13_init_59 ?_)
  refine zp13_8 hZ.1 rfl rfl dX13_init_61 zw4129 ?_
  refine rx_by (e_ldR _ _) (s_aload_n hZ.1 dX13_init_64 rfl ?_)
  refine s_iconst dX13_init_65 (by decide +kernel) ?_
  refine rx_by2 (l_newa _ _ _) (s_newa (tt := 0) (ty := .int) rfl rfl rfl rfl rfl (by decide) zw527 dX13_init_66 ?_)
  refine zp13_9 hZ.1 rfl rfl dX13_init_68 zw4130 ?_
  refine rx_by (e_ldR _ _) (s_aload_n hZ.1 dX13_init_71 rfl ?_)
  refine s_sipush dX13_init_72 (by decide +kernel) ?_
  refine rx_by2 (l_newa _ _ _) (s_newa (tt := 0) (ty := .int) rfl rfl rfl rfl rfl (by decide) zw527 dX13_init_75 ?_)
  refine zp13_11 hZ.1 rfl rfl dX13_init_77 zw4132 ?_
  refine rx_by (e_ldR _ _) (s_aload_n hZ.1 dX13_init_80 rfl ?_)
  refine s_sipush dX13_init_81 (by decide +kernel) ?_
  refine rx_by2 (l_newa _ _ _) (s_newa (tt := 0) (ty := .int) rfl rfl rfl rfl rfl (by decide) zw527 dX13_init_84 ?_)
  refine zp13_12 hZ.1 rfl rfl dX13_init_86 zw4133 ?_
  refine rx_by (e_ldR _ _) (s_aload_n hZ.1 dX13_init_89 rfl ?_)
  refine s_sipush dX13_init_90 (by decide +kernel) ?_
  refine rx_by2 (l_newa _ _ _) (s_newa (tt := 0) (ty := .int) rfl rfl rfl rfl rfl (by decide) zw527 dX13_init_93 ?_)
  refine zp13_13 hZ.1 rfl rfl dX13_init_95 zw4134 ?_
  refine rx_by (e_ldR _ _) (s_aload_n hZ.1 dX13_init_98 rfl ?_)
  refine s_sipush dX13_init_99 (by decide +kernel) ?_
  exact (kX13_init_102 hZ j hj)
noncomputable def bX13_init_0 (j : Nat → rx_K) : rx_K := q_ld q_isR 0 (q_obj (q_ld q_isR 0 (o_const 32000 (p_newa 0 0 (p_putf q_isR 13 0 (q_ld q_isR 0 (o_const 33600 (p_newa 0 0 (p_putf q_isR 13 2 (q_ld q_isR 0 (o_const 32000 (p_newa 0 0 (p_putf q_isR 13 4 (q_ld q_isR 0 (o_const 512000 (p_newa 2 0 (p_putf q_isR 13 5 (q_ld q_isR 0 (o_const 128 (p_newa 0 0 (p_putf q_isR 13 6 (q_ld q_isR 0 (o_const 128 ((bX13_init_51 j)))))))))))))))))))))))))
set_option maxRecDepth 20000 in
theorem kX13_init_0 (hZ : zO b e D A X) (j : Nat → rx_K) (hj : ∀ k pc, [1219][k]? = some pc → rx_OK (zV b e D A X) mX13_init 6 pc (j k)) : rx_OK (zV b e D A X) mX13_init 6 0 (bX13_init_0 j) := by
  unfold bX13_init_0
  refine rx_by (e_ldR _ _) (s_aload_n hZ.1 dX13_init_0 rfl ?_)
  refine rx_by (e_obj _) (s_obj hZ.1 (by decide) zw4108 zw440 zw441 dX13_init_1 ?_)
  refine rx_by (e_ldR _ _) (s_aload_n hZ.1 dX13_init_4 rfl ?_)
  refine s_sipush dX13_init_5 (by decide +kernel) ?_
  refine rx_by2 (l_newa _ _ _) (s_newa (tt := 0) (ty := .int) rfl rfl rfl rfl rfl (by decide) zw527 dX13_init_8 ?_)
  refine zp13_0 hZ.1 rfl rfl dX13_init_10 zw4121 ?_
  refine rx_by (e_ldR _ _) (s_aload_n hZ.1 dX13_init_13 rfl ?_)
  refine s_sipush dX13_init_14 (by decide +kernel) ?_
  refine rx_by2 (l_newa _ _ _) (s_newa (tt := 0) (ty := .int) rfl rfl rfl rfl rfl (by decide) zw527 dX13_init_17 ?_)
  refine zp13_2 hZ.1 rfl rfl dX13_init_19 zw4123 ?_
  refine rx_by (e_ldR _ _) (s_aload_n hZ.1 dX13_init_22 rfl ?_)
  refine s_sipush dX13_init_23 (by decide +kernel) ?_
  refine rx_by2 (l_newa _ _ _) (s_newa (tt := 0) (ty := .int) rfl rfl rfl rfl rfl (by decide) zw527 dX13_init_26 ?_)
  refine zp13_4 hZ.1 rfl rfl dX13_init_28 zw4125 ?_
  refine rx_by (e_ldR _ _) (s_aload_n hZ.1 dX13_init_31 rfl ?_)
  refine s_ldcw dX13_init_32 zw4109 (by decide +kernel) ?_
  refine rx_by2 (l_newa _ _ _) (s_newa (tt := 2) (ty := .byte) rfl rfl rfl rfl rfl (by decide) zw526 dX13_init_35 ?_)
  refine zp13_5 hZ.1 rfl rfl dX13_init_37 zw4126 ?_
  refine rx_by (e_ldR _ _) (s_aload_n hZ.1 dX13_init_40 rfl ?_)
  refine s_bipush dX13_init_41 (by decide +kernel) ?_
  refine rx_by2 (l_newa _ _ _) (s_newa (tt := 0) (ty := .int) rfl rfl rfl rfl rfl (by decide) zw527 dX13_init_43 ?_)
  refine zp13_6 hZ.1 rfl rfl dX13_init_45 zw4127 ?_
  refine rx_by (e_ldR _ _) (s_aload_n hZ.1 dX13_init_48 rfl ?_)
  refine s_bipush dX13_init_49 (by decide +kernel) ?_
  exact (kX13_init_51 hZ j hj)
noncomputable def hX13_init (j : Nat → rx_K) : List rx_K := [bX13_init_1219 j]
theorem lX13_init (hZ : zO b e D A X) : ∀ n k pc, [1219][k]? = some pc → rx_OK (zV b e D A X) mX13_init 6 pc (rx_J hX13_init n k) := rx_loop fun j hj k pc h => by
  match k, h with
  | 0, h =>
    have e9 := Option.some.inj (show some 1219 = some pc from h)
    subst e9
    exact kX13_init_1219 hZ j hj
  | _ + 1, h => exact absurd h (by simp)
noncomputable def fX13_init : List Nat → rx_H → Option (Nat × rx_H) := rx_ent 2 (bX13_init_0 (rx_J hX13_init 1000000))
theorem met_X13_init (hZ : zO b e D A X) : rx_Met (zV b e D A X) 6 yX13_init mX13_init fX13_init := rx_entry hZ.1 (kX13_init_0 hZ _ (lX13_init hZ 1000000)) (by decide +kernel) rfl (fun _ => rfl)
theorem zy_X13_init : rx_Y (zV b e D A X) yX13_init mX13_init 0 := ⟨zw4107, zw431, by decide, by decide +kernel, by decide +kernel, by decide +kernel⟩
end ZQ3

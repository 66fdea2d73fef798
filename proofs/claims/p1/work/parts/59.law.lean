section ZL
variable {b : Nat} {e : Nat → Value} {D : va_G} {A : Nat → ClassId} {X : State → Prop}
abbrev mL_law : rx_M := (R_law, cL_law, 4, (some .boolean), false)
noncomputable def bL_law_1347 (sc : List Nat) (w L : Nat) (j : Nat → rx_K) : rx_K := o_const 8 (o_ret1 rx_isZ)
set_option maxRecDepth 20000 in
theorem kL_law_1347 {sc : List Nat} {w L : Nat} (hZ : zO b e D A X) (hS : zS b e D A X sc w L) (j : Nat → rx_K) (hj : ∀ k pc, [18][k]? = some pc → rx_OK (zV b e D A X) mL_law 7 pc (j k)) : rx_OK (zV b e D A X) mL_law 7 1347 (bL_law_1347 sc w L j) := by
  unfold bL_law_1347
  refine s_iconst dL_law_1347 (by decide +kernel) ?_
  exact s_zret rx_z_ok rfl dL_law_1348
noncomputable def bL_law_1341 (sc : List Nat) (w L : Nat) (j : Nat → rx_K) : rx_K := q_inc 3 48 ((j 0))
set_option maxRecDepth 20000 in
theorem kL_law_1341 {sc : List Nat} {w L : Nat} (hZ : zO b e D A X) (hS : zS b e D A X sc w L) (j : Nat → rx_K) (hj : ∀ k pc, [18][k]? = some pc → rx_OK (zV b e D A X) mL_law 7 pc (j k)) : rx_OK (zV b e D A X) mL_law 7 1341 (bL_law_1341 sc w L j) := by
  unfold bL_law_1341
  refine rx_by (e_inc (by decide +kernel) _) (s_iinc hZ.1 dL_law_1341 (Nat.le_of_ble_eq_true rfl) ?_)
  exact s_goto dL_law_1344 (by decide) (hj 0 18 rfl)
noncomputable def bL_law_1336 (sc : List Nat) (w L : Nat) (j : Nat → rx_K) : rx_K := q_eq2 (bL_law_1341 sc w L j) o_none
set_option maxRecDepth 20000 in
theorem kL_law_1336 {sc : List Nat} {w L : Nat} (hZ : zO b e D A X) (hS : zS b e D A X sc w L) (j : Nat → rx_K) (hj : ∀ k pc, [18][k]? = some pc → rx_OK (zV b e D A X) mL_law 7 pc (j k)) : rx_OK (zV b e D A X) mL_law 7 1336 (bL_law_1336 sc w L j) := by
  unfold bL_law_1336
  exact rx_by (e_eq2 _ _) (s_icmp_eq dL_law_1336 (by decide) (kL_law_1341 hZ hS j hj) (s_none (pc := 1339)))
noncomputable def bL_law_1308 (sc : List Nat) (w L : Nat) (j : Nat → rx_K) : rx_K := q_ld q_isR 1 (q_ld q_isR 0 (q_ld q_isI 3 (o_const 8 (q_bi q_Fadd (o_xiald 12 sc L (q_ld q_isR 0 (q_ld q_isI 3 (o_const 16 (q_bi q_Fadd (o_xiald 12 sc L (o_callV 2 12 fX12_fieldOf (q_ld q_isR 2 (q_ld q_isR 0 (q_ld q_isI 3 (o_const 8 (q_bi q_Fadd (o_xiald 12 sc L (q_ld q_isR 0 (q_ld q_isI 3 (o_const 16 (q_bi q_Fadd (o_xiald 12 sc L (o_callV 2 13 fX13_fieldOf ((bL_law_1336 sc w L j)))))))))))))))))))))))))
set_option maxRecDepth 20000 in
theorem kL_law_1308 {sc : List Nat} {w L : Nat} (hZ : zO b e D A X) (hS : zS b e D A X sc w L) (j : Nat → rx_K) (hj : ∀ k pc, [18][k]? = some pc → rx_OK (zV b e D A X) mL_law 7 pc (j k)) : rx_OK (zV b e D A X) mL_law 7 1308 (bL_law_1308 sc w L j) := by
  unfold bL_law_1308
  refine rx_by (e_ldR _ _) (s_aload_n hZ.1 dL_law_1308 rfl ?_)
  refine rx_by (e_ldR _ _) (s_aload_n hZ.1 dL_law_1309 rfl ?_)
  refine rx_by (e_ldI _ _) (s_iload_n hZ.1 dL_law_1310 rfl ?_)
  refine s_iconst dL_law_1311 (by decide +kernel) ?_
  refine rx_by (e_add _) (s_iadd dL_law_1312 ?_)
  refine s_xiald (zs_S hS) dL_law_1313 ?_
  refine rx_by (e_ldR _ _) (s_aload_n hZ.1 dL_law_1314 rfl ?_)
  refine rx_by (e_ldI _ _) (s_iload_n hZ.1 dL_law_1315 rfl ?_)
  refine s_iconst dL_law_1316 (by decide +kernel) ?_
  refine rx_by (e_add _) (s_iadd dL_law_1317 ?_)
  refine s_xiald (zs_S hS) dL_law_1318 ?_
  refine s_callV hZ.1 (met_X12_fieldOf hZ) (by decide) zy_X12_fieldOf zcl12 zw2897 zw2898 (Or.inl zw2896) dL_law_1319 ?_
  refine rx_by (e_ldR _ _) (s_aload_n hZ.1 dL_law_1322 rfl ?_)
  refine rx_by (e_ldR _ _) (s_aload_n hZ.1 dL_law_1323 rfl ?_)
  refine rx_by (e_ldI _ _) (s_iload_n hZ.1 dL_law_1324 rfl ?_)
  refine s_iconst dL_law_1325 (by decide +kernel) ?_
  refine rx_by (e_add _) (s_iadd dL_law_1326 ?_)
  refine s_xiald (zs_S hS) dL_law_1327 ?_
  refine rx_by (e_ldR _ _) (s_aload_n hZ.1 dL_law_1328 rfl ?_)
  refine rx_by (e_ldI _ _) (s_iload_n hZ.1 dL_law_1329 rfl ?_)
  refine s_iconst dL_law_1330 (by decide +kernel) ?_
  refine rx_by (e_add _) (s_iadd dL_law_1331 ?_)
  refine s_xiald (zs_S hS) dL_law_1332 ?_
  refine s_callV hZ.1 (met_X13_fieldOf hZ) (by decide) zy_X13_fieldOf zcl13 zw3983 zw3984 (Or.inl zw3982) dL_law_1333 ?_
  exact (kL_law_1336 hZ hS j hj)
noncomputable def bL_law_1285 (sc : List Nat) (w L : Nat) (j : Nat → rx_K) : rx_K := q_ld q_isR 1 (q_ld q_isR 0 (q_ld q_isI 3 (o_const 8 (q_bi q_Fadd (o_xiald 12 sc L (o_callV 1 12 fX12_classOf (q_ld q_isR 2 (q_ld q_isR 0 (q_ld q_isI 3 (o_const 8 (q_bi q_Fadd (o_xiald 12 sc L (o_callV 1 13 fX13_classOf (q_eq2 (bL_law_1341 sc w L j) o_none))))))))))))))
set_option maxRecDepth 20000 in
theorem kL_law_1285 {sc : List Nat} {w L : Nat} (hZ : zO b e D A X) (hS : zS b e D A X sc w L) (j : Nat → rx_K) (hj : ∀ k pc, [18][k]? = some pc → rx_OK (zV b e D A X) mL_law 7 pc (j k)) : rx_OK (zV b e D A X) mL_law 7 1285 (bL_law_1285 sc w L j) := by
  unfold bL_law_1285
  refine rx_by (e_ldR _ _) (s_aload_n hZ.1 dL_law_1285 rfl ?_)
  refine rx_by (e_ldR _ _) (s_aload_n hZ.1 dL_law_1286 rfl ?_)
  refine rx_by (e_ldI _ _) (s_iload_n hZ.1 dL_law_1287 rfl ?_)
  refine s_iconst dL_law_1288 (by decide +kernel) ?_
  refine rx_by (e_add _) (s_iadd dL_law_1289 ?_)
  refine s_xiald (zs_S hS) dL_law_1290 ?_
  refine s_callV hZ.1 (met_X12_classOf hZ) (by decide) zy_X12_classOf zcl12 zw2893 zw2894 (Or.inl zw2892) dL_law_1291 ?_
  refine rx_by (e_ldR _ _) (s_aload_n hZ.1 dL_law_1294 rfl ?_)
  refine rx_by (e_ldR _ _) (s_aload_n hZ.1 dL_law_1295 rfl ?_)
  refine rx_by (e_ldI _ _) (s_iload_n hZ.1 dL_law_1296 rfl ?_)
  refine s_iconst dL_law_1297 (by decide +kernel) ?_
  refine rx_by (e_add _) (s_iadd dL_law_1298 ?_)
  refine s_xiald (zs_S hS) dL_law_1299 ?_
  refine s_callV hZ.1 (met_X13_classOf hZ) (by decide) zy_X13_classOf zcl13 zw3979 zw3980 (Or.inl zw3978) dL_law_1300 ?_
  exact rx_by (e_eq2 _ _) (s_icmp_eq dL_law_1303 (by decide) (kL_law_1341 hZ hS j hj) (s_none (pc := 1306)))
noncomputable def bL_law_1262 (sc : List Nat) (w L : Nat) (j : Nat → rx_K) : rx_K := q_ld q_isR 1 (q_ld q_isR 0 (q_ld q_isI 3 (o_const 8 (q_bi q_Fadd (o_xiald 12 sc L (o_callV 1 12 fX12_state (q_ld q_isR 2 (q_ld q_isR 0 (q_ld q_isI 3 (o_const 8 (q_bi q_Fadd (o_xiald 12 sc L (o_callV 1 13 fX13_state (q_eq2 (bL_law_1341 sc w L j) o_none))))))))))))))
set_option maxRecDepth 20000 in
theorem kL_law_1262 {sc : List Nat} {w L : Nat} (hZ : zO b e D A X) (hS : zS b e D A X sc w L) (j : Nat → rx_K) (hj : ∀ k pc, [18][k]? = some pc → rx_OK (zV b e D A X) mL_law 7 pc (j k)) : rx_OK (zV b e D A X) mL_law 7 1262 (bL_law_1262 sc w L j) := by
  unfold bL_law_1262
  refine rx_by (e_ldR _ _) (s_aload_n hZ.1 dL_law_1262 rfl ?_)
  refine rx_by (e_ldR _ _) (s_aload_n hZ.1 dL_law_1263 rfl ?_)
  refine rx_by (e_ldI _ _) (s_iload_n hZ.1 dL_law_1264 rfl ?_)
  refine s_iconst dL_law_1265 (by decide +kernel) ?_
  refine rx_by (e_add _) (s_iadd dL_law_1266 ?_)
  refine s_xiald (zs_S hS) dL_law_1267 ?_
  refine s_callV hZ.1 (met_X12_state hZ) (by decide) zy_X12_state zcl12 zw2889 zw2890 (Or.inl zw2888) dL_law_1268 ?_
  refine rx_by (e_ldR _ _) (s_aload_n hZ.1 dL_law_1271 rfl ?_)
  refine rx_by (e_ldR _ _) (s_aload_n hZ.1 dL_law_1272 rfl ?_)
  refine rx_by (e_ldI _ _) (s_iload_n hZ.1 dL_law_1273 rfl ?_)
  refine s_iconst dL_law_1274 (by decide +kernel) ?_
  refine rx_by (e_add _) (s_iadd dL_law_1275 ?_)
  refine s_xiald (zs_S hS) dL_law_1276 ?_
  refine s_callV hZ.1 (met_X13_state hZ) (by decide) zy_X13_state zcl13 zw3975 zw3976 (Or.inl zw3974) dL_law_1277 ?_
  exact rx_by (e_eq2 _ _) (s_icmp_eq dL_law_1280 (by decide) (kL_law_1341 hZ hS j hj) (s_none (pc := 1283)))
noncomputable def bL_law_1239 (sc : List Nat) (w L : Nat) (j : Nat → rx_K) : rx_K := q_ld q_isR 1 (q_ld q_isR 0 (q_ld q_isI 3 (o_const 8 (q_bi q_Fadd (o_xiald 12 sc L (o_callV 1 12 fX12_name (q_ld q_isR 2 (q_ld q_isR 0 (q_ld q_isI 3 (o_const 8 (q_bi q_Fadd (o_xiald 12 sc L (o_callV 1 13 fX13_name (q_eq2 (bL_law_1341 sc w L j) o_none))))))))))))))
set_option maxRecDepth 20000 in
theorem kL_law_1239 {sc : List Nat} {w L : Nat} (hZ : zO b e D A X) (hS : zS b e D A X sc w L) (j : Nat → rx_K) (hj : ∀ k pc, [18][k]? = some pc → rx_OK (zV b e D A X) mL_law 7 pc (j k)) : rx_OK (zV b e D A X) mL_law 7 1239 (bL_law_1239 sc w L j) := by
  unfold bL_law_1239
  refine rx_by (e_ldR _ _) (s_aload_n hZ.1 dL_law_1239 rfl ?_)
  refine rx_by (e_ldR _ _) (s_aload_n hZ.1 dL_law_1240 rfl ?_)
  refine rx_by (e_ldI _ _) (s_iload_n hZ.1 dL_law_1241 rfl ?_)
  refine s_iconst dL_law_1242 (by decide +kernel) ?_
  refine rx_by (e_add _) (s_iadd dL_law_1243 ?_)
  refine s_xiald (zs_S hS) dL_law_1244 ?_
  refine s_callV hZ.1 (met_X12_name hZ) (by decide) zy_X12_name zcl12 zw2885 zw2886 (Or.inl zw2884) dL_law_1245 ?_
  refine rx_by (e_ldR _ _) (s_aload_n hZ.1 dL_law_1248 rfl ?_)
  refine rx_by (e_ldR _ _) (s_aload_n hZ.1 dL_law_1249 rfl ?_)
  refine rx_by (e_ldI _ _) (s_iload_n hZ.1 dL_law_1250 rfl ?_)
  refine s_iconst dL_law_1251 (by decide +kernel) ?_
  refine rx_by (e_add _) (s_iadd dL_law_1252 ?_)
  refine s_xiald (zs_S hS) dL_law_1253 ?_
  refine s_callV hZ.1 (met_X13_name hZ) (by decide) zy_X13_name zcl13 zw3971 zw3972 (Or.inl zw3970) dL_law_1254 ?_
  exact rx_by (e_eq2 _ _) (s_icmp_eq dL_law_1257 (by decide) (kL_law_1341 hZ hS j hj) (s_none (pc := 1260)))
noncomputable def bL_law_1216 (sc : List Nat) (w L : Nat) (j : Nat → rx_K) : rx_K := q_ld q_isR 1 (q_ld q_isR 0 (q_ld q_isI 3 (o_const 8 (q_bi q_Fadd (o_xiald 12 sc L (o_callV 1 12 fX12_event (q_ld q_isR 2 (q_ld q_isR 0 (q_ld q_isI 3 (o_const 8 (q_bi q_Fadd (o_xiald 12 sc L (o_callV 1 13 fX13_event_ (q_eq2 (bL_law_1341 sc w L j) o_none))))))))))))))
set_option maxRecDepth 20000 in
theorem kL_law_1216 {sc : List Nat} {w L : Nat} (hZ : zO b e D A X) (hS : zS b e D A X sc w L) (j : Nat → rx_K) (hj : ∀ k pc, [18][k]? = some pc → rx_OK (zV b e D A X) mL_law 7 pc (j k)) : rx_OK (zV b e D A X) mL_law 7 1216 (bL_law_1216 sc w L j) := by
  unfold bL_law_1216
  refine rx_by (e_ldR _ _) (s_aload_n hZ.1 dL_law_1216 rfl ?_)
  refine rx_by (e_ldR _ _) (s_aload_n hZ.1 dL_law_1217 rfl ?_)
  refine rx_by (e_ldI _ _) (s_iload_n hZ.1 dL_law_1218 rfl ?_)
  refine s_iconst dL_law_1219 (by decide +kernel) ?_
  refine rx_by (e_add _) (s_iadd dL_law_1220 ?_)
  refine s_xiald (zs_S hS) dL_law_1221 ?_
  refine s_callV hZ.1 (met_X12_event hZ) (by decide) zy_X12_event zcl12 zw2881 zw2882 (Or.inl zw2880) dL_law_1222 ?_
  refine rx_by (e_ldR _ _) (s_aload_n hZ.1 dL_law_1225 rfl ?_)
  refine rx_by (e_ldR _ _) (s_aload_n hZ.1 dL_law_1226 rfl ?_)
  refine rx_by (e_ldI _ _) (s_iload_n hZ.1 dL_law_1227 rfl ?_)
  refine s_iconst dL_law_1228 (by decide +kernel) ?_
  refine rx_by (e_add _) (s_iadd dL_law_1229 ?_)
  refine s_xiald (zs_S hS) dL_law_1230 ?_
  refine s_callV hZ.1 (met_X13_event_ hZ) (by decide) zy_X13_event_ zcl13 zw3967 zw3968 (Or.inl zw3966) dL_law_1231 ?_
  exact rx_by (e_eq2 _ _) (s_icmp_eq dL_law_1234 (by decide) (kL_law_1341 hZ hS j hj) (s_none (pc := 1237)))
noncomputable def bL_law_1193 (sc : List Nat) (w L : Nat) (j : Nat → rx_K) : rx_K := q_ld q_isR 1 (q_ld q_isR 0 (q_ld q_isI 3 (o_const 8 (q_bi q_Fadd (o_xiald 12 sc L (o_callV 1 12 fX12_number (q_ld q_isR 2 (q_ld q_isR 0 (q_ld q_isI 3 (o_const 8 (q_bi q_Fadd (o_xiald 12 sc L (o_callV 1 13 fX13_number (q_eq2 (bL_law_1341 sc w L j) o_none))))))))))))))
set_option maxRecDepth 20000 in
theorem kL_law_1193 {sc : List Nat} {w L : Nat} (hZ : zO b e D A X) (hS : zS b e D A X sc w L) (j : Nat → rx_K) (hj : ∀ k pc, [18][k]? = some pc → rx_OK (zV b e D A X) mL_law 7 pc (j k)) : rx_OK (zV b e D A X) mL_law 7 1193 (bL_law_1193 sc w L j) := by
  unfold bL_law_1193
  refine rx_by (e_ldR _ _) (s_aload_n hZ.1 dL_law_1193 rfl ?_)
  refine rx_by (e_ldR _ _) (s_aload_n hZ.1 dL_law_1194 rfl ?_)
  refine rx_by (e_ldI _ _) (s_iload_n hZ.1 dL_law_1195 rfl ?_)
  refine s_iconst dL_law_1196 (by decide +kernel) ?_
  refine rx_by (e_add _) (s_iadd dL_law_1197 ?_)
  refine s_xiald (zs_S hS) dL_law_1198 ?_
  refine s_callV hZ.1 (met_X12_number hZ) (by decide) zy_X12_number zcl12 zw2877 zw2878 (Or.inl zw2876) dL_law_1199 ?_
  refine rx_by (e_ldR _ _) (s_aload_n hZ.1 dL_law_1202 rfl ?_)
  refine rx_by (e_ldR _ _) (s_aload_n hZ.1 dL_law_1203 rfl ?_)
  refine rx_by (e_ldI _ _) (s_iload_n hZ.1 dL_law_1204 rfl ?_)
  refine s_iconst dL_law_1205 (by decide +kernel) ?_
  refine rx_by (e_add _) (s_iadd dL_law_1206 ?_)
  refine s_xiald (zs_S hS) dL_law_1207 ?_
  refine s_callV hZ.1 (met_X13_number hZ) (by decide) zy_X13_number zcl13 zw3963 zw3964 (Or.inl zw3962) dL_law_1208 ?_
  exact rx_by (e_eq2 _ _) (s_icmp_eq dL_law_1211 (by decide) (kL_law_1341 hZ hS j hj) (s_none (pc := 1214)))
noncomputable def bL_law_1170 (sc : List Nat) (w L : Nat) (j : Nat → rx_K) : rx_K := q_ld q_isR 1 (q_ld q_isR 0 (q_ld q_isI 3 (o_const 8 (q_bi q_Fadd (o_xiald 12 sc L (o_callV 1 12 fX12_told (q_ld q_isR 2 (q_ld q_isR 0 (q_ld q_isI 3 (o_const 8 (q_bi q_Fadd (o_xiald 12 sc L (o_callV 1 13 fX13_told (q_eq2 (bL_law_1341 sc w L j) o_none))))))))))))))
set_option maxRecDepth 20000 in
theorem kL_law_1170 {sc : List Nat} {w L : Nat} (hZ : zO b e D A X) (hS : zS b e D A X sc w L) (j : Nat → rx_K) (hj : ∀ k pc, [18][k]? = some pc → rx_OK (zV b e D A X) mL_law 7 pc (j k)) : rx_OK (zV b e D A X) mL_law 7 1170 (bL_law_1170 sc w L j) := by
  unfold bL_law_1170
  refine rx_by (e_ldR _ _) (s_aload_n hZ.1 dL_law_1170 rfl ?_)
  refine rx_by (e_ldR _ _) (s_aload_n hZ.1 dL_law_1171 rfl ?_)
  refine rx_by (e_ldI _ _) (s_iload_n hZ.1 dL_law_1172 rfl ?_)
  refine s_iconst dL_law_1173 (by decide +kernel) ?_
  refine rx_by (e_add _) (s_iadd dL_law_1174 ?_)
  refine s_xiald (zs_S hS) dL_law_1175 ?_
  refine s_callV hZ.1 (met_X12_told hZ) (by decide) zy_X12_told zcl12 zw2873 zw2874 (Or.inl zw2872) dL_law_1176 ?_
  refine rx_by (e_ldR _ _) (s_aload_n hZ.1 dL_law_1179 rfl ?_)
  refine rx_by (e_ldR _ _) (s_aload_n hZ.1 dL_law_1180 rfl ?_)
  refine rx_by (e_ldI _ _) (s_iload_n hZ.1 dL_law_1181 rfl ?_)
  refine s_iconst dL_law_1182 (by decide +kernel) ?_
  refine rx_by (e_add _) (s_iadd dL_law_1183 ?_)
  refine s_xiald (zs_S hS) dL_law_1184 ?_
  refine s_callV hZ.1 (met_X13_told hZ) (by decide) zy_X13_told zcl13 zw3959 zw3960 (Or.inl zw3958) dL_law_1185 ?_
  exact rx_by (e_eq2 _ _) (s_icmp_eq dL_law_1188 (by decide) (kL_law_1341 hZ hS j hj) (s_none (pc := 1191)))
noncomputable def bL_law_1157 (sc : List Nat) (w L : Nat) (j : Nat → rx_K) : rx_K := q_ld q_isR 1 (o_callV 0 12 fX12_value (q_ld q_isR 2 (o_callV 0 13 fX13_value (q_eq2 (bL_law_1341 sc w L j) o_none))))
set_option maxRecDepth 20000 in
theorem kL_law_1157 {sc : List Nat} {w L : Nat} (hZ : zO b e D A X) (hS : zS b e D A X sc w L) (j : Nat → rx_K) (hj : ∀ k pc, [18][k]? = some pc → rx_OK (zV b e D A X) mL_law 7 pc (j k)) : rx_OK (zV b e D A X) mL_law 7 1157 (bL_law_1157 sc w L j) := by
  unfold bL_law_1157
  refine rx_by (e_ldR _ _) (s_aload_n hZ.1 dL_law_1157 rfl ?_)
  refine s_callV hZ.1 (met_X12_value hZ) (by decide) zy_X12_value zcl12 zw2869 zw2870 (Or.inl zw2868) dL_law_1158 ?_
  refine rx_by (e_ldR _ _) (s_aload_n hZ.1 dL_law_1161 rfl ?_)
  refine s_callV hZ.1 (met_X13_value hZ) (by decide) zy_X13_value zcl13 zw3955 zw3956 (Or.inl zw3954) dL_law_1162 ?_
  exact rx_by (e_eq2 _ _) (s_icmp_eq dL_law_1165 (by decide) (kL_law_1341 hZ hS j hj) (s_none (pc := 1168)))
noncomputable def bL_law_1144 (sc : List Nat) (w L : Nat) (j : Nat → rx_K) : rx_K := q_ld q_isR 1 (o_callV 0 12 fX12_run (q_ld q_isR 2 (o_callV 0 13 fX13_run (q_eq2 (bL_law_1341 sc w L j) o_none))))
set_option maxRecDepth 20000 in
theorem kL_law_1144 {sc : List Nat} {w L : Nat} (hZ : zO b e D A X) (hS : zS b e D A X sc w L) (j : Nat → rx_K) (hj : ∀ k pc, [18][k]? = some pc → rx_OK (zV b e D A X) mL_law 7 pc (j k)) : rx_OK (zV b e D A X) mL_law 7 1144 (bL_law_1144 sc w L j) := by
  unfold bL_law_1144
  refine rx_by (e_ldR _ _) (s_aload_n hZ.1 dL_law_1144 rfl ?_)
  refine s_callV hZ.1 (met_X12_run hZ) (by decide) zy_X12_run zcl12 zw2730 zw2731 (Or.inl zw2729) dL_law_1145 ?_
  refine rx_by (e_ldR _ _) (s_aload_n hZ.1 dL_law_1148 rfl ?_)
  refine s_callV hZ.1 (met_X13_run hZ) (by decide) zy_X13_run zcl13 zw3807 zw3808 (Or.inl zw3806) dL_law_1149 ?_
  exact rx_by (e_eq2 _ _) (s_icmp_eq dL_law_1152 (by decide) (kL_law_1341 hZ hS j hj) (s_none (pc := 1155)))
noncomputable def bL_law_1127 (sc : List Nat) (w L : Nat) (j : Nat → rx_K) : rx_K := q_ld q_isI 3 (o_const 16 (q_bi q_Fadd (o_xiald 12 sc L (q_ld q_isR 0 (q_ld q_isI 3 (o_const 24 (q_bi q_Fadd (o_xiald 12 sc L (o_callV 3 13 fX13_touch (q_eq2 (bL_law_1341 sc w L j) o_none))))))))))
set_option maxRecDepth 20000 in
theorem kL_law_1127 {sc : List Nat} {w L : Nat} (hZ : zO b e D A X) (hS : zS b e D A X sc w L) (j : Nat → rx_K) (hj : ∀ k pc, [18][k]? = some pc → rx_OK (zV b e D A X) mL_law 7 pc (j k)) : rx_OK (zV b e D A X) mL_law 7 1127 (bL_law_1127 sc w L j) := by
  unfold bL_law_1127
  refine rx_by (e_ldI _ _) (s_iload_n hZ.1 dL_law_1127 rfl ?_)
  refine s_iconst dL_law_1128 (by decide +kernel) ?_
  refine rx_by (e_add _) (s_iadd dL_law_1129 ?_)
  refine s_xiald (zs_S hS) dL_law_1130 ?_
  refine rx_by (e_ldR _ _) (s_aload_n hZ.1 dL_law_1131 rfl ?_)
  refine rx_by (e_ldI _ _) (s_iload_n hZ.1 dL_law_1132 rfl ?_)
  refine s_iconst dL_law_1133 (by decide +kernel) ?_
  refine rx_by (e_add _) (s_iadd dL_law_1134 ?_)
  refine s_xiald (zs_S hS) dL_law_1135 ?_
  refine s_callV hZ.1 (met_X13_touch hZ) (by decide) zy_X13_touch zcl13 zw3803 zw3804 (Or.inl zw3802) dL_law_1136 ?_
  exact rx_by (e_eq2 _ _) (s_icmp_eq dL_law_1139 (by decide) (kL_law_1341 hZ hS j hj) (s_none (pc := 1142)))
noncomputable def bL_law_1101 (sc : List Nat) (w L : Nat) (j : Nat → rx_K) : rx_K := q_ld q_isR 1 (q_ld q_isR 0 (q_ld q_isI 3 (o_const 8 (q_bi q_Fadd (o_xiald 12 sc L (q_ld q_isR 0 (q_ld q_isI 3 (o_const 16 (q_bi q_Fadd (o_xiald 12 sc L (q_ld q_isR 0 (q_ld q_isI 3 (o_const 24 (q_bi q_Fadd (o_xiald 12 sc L (o_callV 3 12 fX12_touch (q_ld q_isR 2 (q_ld q_isR 0 (q_ld q_isI 3 (o_const 8 (q_bi q_Fadd (o_xiald 12 sc L (q_ld q_isR 0 ((bL_law_1127 sc w L j)))))))))))))))))))))))))
set_option maxRecDepth 20000 in
theorem kL_law_1101 {sc : List Nat} {w L : Nat} (hZ : zO b e D A X) (hS : zS b e D A X sc w L) (j : Nat → rx_K) (hj : ∀ k pc, [18][k]? = some pc → rx_OK (zV b e D A X) mL_law 7 pc (j k)) : rx_OK (zV b e D A X) mL_law 7 1101 (bL_law_1101 sc w L j) := by
  unfold bL_law_1101
  refine rx_by (e_ldR _ _) (s_aload_n hZ.1 dL_law_1101 rfl ?_)
  refine rx_by (e_ldR _ _) (s_aload_n hZ.1 dL_law_1102 rfl ?_)
  refine rx_by (e_ldI _ _) (s_iload_n hZ.1 dL_law_1103 rfl ?_)
  refine s_iconst dL_law_1104 (by decide +kernel) ?_
  refine rx_by (e_add _) (s_iadd dL_law_1105 ?_)
  refine s_xiald (zs_S hS) dL_law_1106 ?_
  refine rx_by (e_ldR _ _) (s_aload_n hZ.1 dL_law_1107 rfl ?_)
  refine rx_by (e_ldI _ _) (s_iload_n hZ.1 dL_law_1108 rfl ?_)
  refine s_iconst dL_law_1109 (by decide +kernel) ?_
  refine rx_by (e_add _) (s_iadd dL_law_1110 ?_)
  refine s_xiald (zs_S hS) dL_law_1111 ?_
  refine rx_by (e_ldR _ _) (s_aload_n hZ.1 dL_law_1112 rfl ?_)
  refine rx_by (e_ldI _ _) (s_iload_n hZ.1 dL_law_1113 rfl ?_)
  refine s_iconst dL_law_1114 (by decide +kernel) ?_
  refine rx_by (e_add _) (s_iadd dL_law_1115 ?_)
  refine s_xiald (zs_S hS) dL_law_1116 ?_
  refine s_callV hZ.1 (met_X12_touch hZ) (by decide) zy_X12_touch zcl12 zw2726 zw2727 (Or.inl zw2725) dL_law_1117 ?_
  refine rx_by (e_ldR _ _) (s_aload_n hZ.1 dL_law_1120 rfl ?_)
  refine rx_by (e_ldR _ _) (s_aload_n hZ.1 dL_law_1121 rfl ?_)
  refine rx_by (e_ldI _ _) (s_iload_n hZ.1 dL_law_1122 rfl ?_)
  refine s_iconst dL_law_1123 (by decide +kernel) ?_
  refine rx_by (e_add _) (s_iadd dL_law_1124 ?_)
  refine s_xiald (zs_S hS) dL_law_1125 ?_
  refine rx_by (e_ldR _ _) (s_aload_n hZ.1 dL_law_1126 rfl ?_)
  exact (kL_law_1127 hZ hS j hj)
noncomputable def bL_law_1088 (sc : List Nat) (w L : Nat) (j : Nat → rx_K) : rx_K := q_ld q_isR 1 (o_callV 0 12 fX12_fresh (q_ld q_isR 2 (o_callV 0 13 fX13_fresh (q_eq2 (bL_law_1341 sc w L j) o_none))))
set_option maxRecDepth 20000 in
theorem kL_law_1088 {sc : List Nat} {w L : Nat} (hZ : zO b e D A X) (hS : zS b e D A X sc w L) (j : Nat → rx_K) (hj : ∀ k pc, [18][k]? = some pc → rx_OK (zV b e D A X) mL_law 7 pc (j k)) : rx_OK (zV b e D A X) mL_law 7 1088 (bL_law_1088 sc w L j) := by
  unfold bL_law_1088
  refine rx_by (e_ldR _ _) (s_aload_n hZ.1 dL_law_1088 rfl ?_)
  refine s_callV hZ.1 (met_X12_fresh hZ) (by decide) zy_X12_fresh zcl12 zw2718 zw2719 (Or.inl zw2717) dL_law_1089 ?_
  refine rx_by (e_ldR _ _) (s_aload_n hZ.1 dL_law_1092 rfl ?_)
  refine s_callV hZ.1 (met_X13_fresh hZ) (by decide) zy_X13_fresh zcl13 zw3799 zw3800 (Or.inl zw3798) dL_law_1093 ?_
  exact rx_by (e_eq2 _ _) (s_icmp_eq dL_law_1096 (by decide) (kL_law_1341 hZ hS j hj) (s_none (pc := 1099)))
noncomputable def bL_law_1071 (sc : List Nat) (w L : Nat) (j : Nat → rx_K) : rx_K := q_ld q_isI 3 (o_const 16 (q_bi q_Fadd (o_xiald 12 sc L (q_ld q_isR 0 (q_ld q_isI 3 (o_const 24 (q_bi q_Fadd (o_xiald 12 sc L (o_callV 3 13 fX13_weave (q_eq2 (bL_law_1341 sc w L j) o_none))))))))))
set_option maxRecDepth 20000 in
theorem kL_law_1071 {sc : List Nat} {w L : Nat} (hZ : zO b e D A X) (hS : zS b e D A X sc w L) (j : Nat → rx_K) (hj : ∀ k pc, [18][k]? = some pc → rx_OK (zV b e D A X) mL_law 7 pc (j k)) : rx_OK (zV b e D A X) mL_law 7 1071 (bL_law_1071 sc w L j) := by
  unfold bL_law_1071
  refine rx_by (e_ldI _ _) (s_iload_n hZ.1 dL_law_1071 rfl ?_)
  refine s_iconst dL_law_1072 (by decide +kernel) ?_
  refine rx_by (e_add _) (s_iadd dL_law_1073 ?_)
  refine s_xiald (zs_S hS) dL_law_1074 ?_
  refine rx_by (e_ldR _ _) (s_aload_n hZ.1 dL_law_1075 rfl ?_)
  refine rx_by (e_ldI _ _) (s_iload_n hZ.1 dL_law_1076 rfl ?_)
  refine s_iconst dL_law_1077 (by decide +kernel) ?_
  refine rx_by (e_add _) (s_iadd dL_law_1078 ?_)
  refine s_xiald (zs_S hS) dL_law_1079 ?_
  refine s_callV hZ.1 (met_X13_weave hZ) (by decide) zy_X13_weave zcl13 zw4069 zw4070 (Or.inl zw4068) dL_law_1080 ?_
  exact rx_by (e_eq2 _ _) (s_icmp_eq dL_law_1083 (by decide) (kL_law_1341 hZ hS j hj) (s_none (pc := 1086)))
noncomputable def bL_law_1045 (sc : List Nat) (w L : Nat) (j : Nat → rx_K) : rx_K := q_ld q_isR 1 (q_ld q_isR 0 (q_ld q_isI 3 (o_const 8 (q_bi q_Fadd (o_xiald 12 sc L (q_ld q_isR 0 (q_ld q_isI 3 (o_const 16 (q_bi q_Fadd (o_xiald 12 sc L (q_ld q_isR 0 (q_ld q_isI 3 (o_const 24 (q_bi q_Fadd (o_xiald 12 sc L (o_callV 3 12 fX12_weave (q_ld q_isR 2 (q_ld q_isR 0 (q_ld q_isI 3 (o_const 8 (q_bi q_Fadd (o_xiald 12 sc L (q_ld q_isR 0 ((bL_law_1071 sc w L j)))))))))))))))))))))))))
set_option maxRecDepth 20000 in
theorem kL_law_1045 {sc : List Nat} {w L : Nat} (hZ : zO b e D A X) (hS : zS b e D A X sc w L) (j : Nat → rx_K) (hj : ∀ k pc, [18][k]? = some pc → rx_OK (zV b e D A X) mL_law 7 pc (j k)) : rx_OK (zV b e D A X) mL_law 7 1045 (bL_law_1045 sc w L j) := by
  unfold bL_law_1045
  refine rx_by (e_ldR _ _) (s_aload_n hZ.1 dL_law_1045 rfl ?_)
  refine rx_by (e_ldR _ _) (s_aload_n hZ.1 dL_law_1046 rfl ?_)
  refine rx_by (e_ldI _ _) (s_iload_n hZ.1 dL_law_1047 rfl ?_)
  refine s_iconst dL_law_1048 (by decide +kernel) ?_
  refine rx_by (e_add _) (s_iadd dL_law_1049 ?_)
  refine s_xiald (zs_S hS) dL_law_1050 ?_
  refine rx_by (e_ldR _ _) (s_aload_n hZ.1 dL_law_1051 rfl ?_)
  refine rx_by (e_ldI _ _) (s_iload_n hZ.1 dL_law_1052 rfl ?_)
  refine s_iconst dL_law_1053 (by decide +kernel) ?_
  refine rx_by (e_add _) (s_iadd dL_law_1054 ?_)
  refine s_xiald (zs_S hS) dL_law_1055 ?_
  refine rx_by (e_ldR _ _) (s_aload_n hZ.1 dL_law_1056 rfl ?_)
  refine rx_by (e_ldI _ _) (s_iload_n hZ.1 dL_law_1057 rfl ?_)
  refine s_iconst dL_law_1058 (by decide +kernel) ?_
  refine rx_by (e_add _) (s_iadd dL_law_1059 ?_)
  refine s_xiald (zs_S hS) dL_law_1060 ?_
  refine s_callV hZ.1 (met_X12_weave hZ) (by decide) zy_X12_weave zcl12 zw2691 zw2692 (Or.inl zw2690) dL_law_1061 ?_
  refine rx_by (e_ldR _ _) (s_aload_n hZ.1 dL_law_1064 rfl ?_)
  refine rx_by (e_ldR _ _) (s_aload_n hZ.1 dL_law_1065 rfl ?_)
  refine rx_by (e_ldI _ _) (s_iload_n hZ.1 dL_law_1066 rfl ?_)
  refine s_iconst dL_law_1067 (by decide +kernel) ?_
  refine rx_by (e_add _) (s_iadd dL_law_1068 ?_)
  refine s_xiald (zs_S hS) dL_law_1069 ?_
  refine rx_by (e_ldR _ _) (s_aload_n hZ.1 dL_law_1070 rfl ?_)
  exact (kL_law_1071 hZ hS j hj)
noncomputable def bL_law_1028 (sc : List Nat) (w L : Nat) (j : Nat → rx_K) : rx_K := q_ld q_isI 3 (o_const 16 (q_bi q_Fadd (o_xiald 12 sc L (q_ld q_isR 0 (q_ld q_isI 3 (o_const 24 (q_bi q_Fadd (o_xiald 12 sc L (o_callV 3 13 fX13_word (q_eq2 (bL_law_1341 sc w L j) o_none))))))))))
set_option maxRecDepth 20000 in
theorem kL_law_1028 {sc : List Nat} {w L : Nat} (hZ : zO b e D A X) (hS : zS b e D A X sc w L) (j : Nat → rx_K) (hj : ∀ k pc, [18][k]? = some pc → rx_OK (zV b e D A X) mL_law 7 pc (j k)) : rx_OK (zV b e D A X) mL_law 7 1028 (bL_law_1028 sc w L j) := by
  unfold bL_law_1028
  refine rx_by (e_ldI _ _) (s_iload_n hZ.1 dL_law_1028 rfl ?_)
  refine s_iconst dL_law_1029 (by decide +kernel) ?_
  refine rx_by (e_add _) (s_iadd dL_law_1030 ?_)
  refine s_xiald (zs_S hS) dL_law_1031 ?_
  refine rx_by (e_ldR _ _) (s_aload_n hZ.1 dL_law_1032 rfl ?_)
  refine rx_by (e_ldI _ _) (s_iload_n hZ.1 dL_law_1033 rfl ?_)
  refine s_iconst dL_law_1034 (by decide +kernel) ?_
  refine rx_by (e_add _) (s_iadd dL_law_1035 ?_)
  refine s_xiald (zs_S hS) dL_law_1036 ?_
  refine s_callV hZ.1 (met_X13_word hZ) (by decide) zy_X13_word zcl13 zw4059 zw4060 (Or.inl zw4058) dL_law_1037 ?_
  exact rx_by (e_eq2 _ _) (s_icmp_eq dL_law_1040 (by decide) (kL_law_1341 hZ hS j hj) (s_none (pc := 1043)))
noncomputable def bL_law_1002 (sc : List Nat) (w L : Nat) (j : Nat → rx_K) : rx_K := q_ld q_isR 1 (q_ld q_isR 0 (q_ld q_isI 3 (o_const 8 (q_bi q_Fadd (o_xiald 12 sc L (q_ld q_isR 0 (q_ld q_isI 3 (o_const 16 (q_bi q_Fadd (o_xiald 12 sc L (q_ld q_isR 0 (q_ld q_isI 3 (o_const 24 (q_bi q_Fadd (o_xiald 12 sc L (o_callV 3 12 fX12_word (q_ld q_isR 2 (q_ld q_isR 0 (q_ld q_isI 3 (o_const 8 (q_bi q_Fadd (o_xiald 12 sc L (q_ld q_isR 0 ((bL_law_1028 sc w L j)))))))))))))))))))))))))
set_option maxRecDepth 20000 in
theorem kL_law_1002 {sc : List Nat} {w L : Nat} (hZ : zO b e D A X) (hS : zS b e D A X sc w L) (j : Nat → rx_K) (hj : ∀ k pc, [18][k]? = some pc → rx_OK (zV b e D A X) mL_law 7 pc (j k)) : rx_OK (zV b e D A X) mL_law 7 1002 (bL_law_1002 sc w L j) := by
  unfold bL_law_1002
  refine rx_by (e_ldR _ _) (s_aload_n hZ.1 dL_law_1002 rfl ?_)
  refine rx_by (e_ldR _ _) (s_aload_n hZ.1 dL_law_1003 rfl ?_)
  refine rx_by (e_ldI _ _) (s_iload_n hZ.1 dL_law_1004 rfl ?_)
  refine s_iconst dL_law_1005 (by decide +kernel) ?_
  refine rx_by (e_add _) (s_iadd dL_law_1006 ?_)
  refine s_xiald (zs_S hS) dL_law_1007 ?_
  refine rx_by (e_ldR _ _) (s_aload_n hZ.1 dL_law_1008 rfl ?_)
  refine rx_by (e_ldI _ _) (s_iload_n hZ.1 dL_law_1009 rfl ?_)
  refine s_iconst dL_law_1010 (by decide +kernel) ?_
  refine rx_by (e_add _) (s_iadd dL_law_1011 ?_)
  refine s_xiald (zs_S hS) dL_law_1012 ?_
  refine rx_by (e_ldR _ _) (s_aload_n hZ.1 dL_law_1013 rfl ?_)
  refine rx_by (e_ldI _ _) (s_iload_n hZ.1 dL_law_1014 rfl ?_)
  refine s_iconst dL_law_1015 (by decide +kernel) ?_
  refine rx_by (e_add _) (s_iadd dL_law_1016 ?_)
  refine s_xiald (zs_S hS) dL_law_1017 ?_
  refine s_callV hZ.1 (met_X12_word hZ) (by decide) zy_X12_word zcl12 zw2687 zw2688 (Or.inl zw2686) dL_law_1018 ?_
  refine rx_by (e_ldR _ _) (s_aload_n hZ.1 dL_law_1021 rfl ?_)
  refine rx_by (e_ldR _ _) (s_aload_n hZ.1 dL_law_1022 rfl ?_)
  refine rx_by (e_ldI _ _) (s_iload_n hZ.1 dL_law_1023 rfl ?_)
  refine s_iconst dL_law_1024 (by decide +kernel) ?_
  refine rx_by (e_add _) (s_iadd dL_law_1025 ?_)
  refine s_xiald (zs_S hS) dL_law_1026 ?_
  refine rx_by (e_ldR _ _) (s_aload_n hZ.1 dL_law_1027 rfl ?_)
  exact (kL_law_1028 hZ hS j hj)
noncomputable def bL_law_997 (sc : List Nat) (w L : Nat) (j : Nat → rx_K) : rx_K := q_eq2 (bL_law_1341 sc w L j) o_none
set_option maxRecDepth 20000 in
theorem kL_law_997 {sc : List Nat} {w L : Nat} (hZ : zO b e D A X) (hS : zS b e D A X sc w L) (j : Nat → rx_K) (hj : ∀ k pc, [18][k]? = some pc → rx_OK (zV b e D A X) mL_law 7 pc (j k)) : rx_OK (zV b e D A X) mL_law 7 997 (bL_law_997 sc w L j) := by
  unfold bL_law_997
  exact rx_by (e_eq2 _ _) (s_icmp_eq dL_law_997 (by decide) (kL_law_1341 hZ hS j hj) (s_none (pc := 1000)))
noncomputable def bL_law_969 (sc : List Nat) (w L : Nat) (j : Nat → rx_K) : rx_K := q_ld q_isR 1 (q_ld q_isR 0 (q_ld q_isI 3 (o_const 8 (q_bi q_Fadd (o_xiald 12 sc L (q_ld q_isR 0 (q_ld q_isI 3 (o_const 16 (q_bi q_Fadd (o_xiald 12 sc L (o_callV 2 12 fX12_change (q_ld q_isR 2 (q_ld q_isR 0 (q_ld q_isI 3 (o_const 8 (q_bi q_Fadd (o_xiald 12 sc L (q_ld q_isR 0 (q_ld q_isI 3 (o_const 16 (q_bi q_Fadd (o_xiald 12 sc L (o_callV 2 13 fX13_change ((bL_law_997 sc w L j)))))))))))))))))))))))))
set_option maxRecDepth 20000 in
theorem kL_law_969 {sc : List Nat} {w L : Nat} (hZ : zO b e D A X) (hS : zS b e D A X sc w L) (j : Nat → rx_K) (hj : ∀ k pc, [18][k]? = some pc → rx_OK (zV b e D A X) mL_law 7 pc (j k)) : rx_OK (zV b e D A X) mL_law 7 969 (bL_law_969 sc w L j) := by
  unfold bL_law_969
  refine rx_by (e_ldR _ _) (s_aload_n hZ.1 dL_law_969 rfl ?_)
  refine rx_by (e_ldR _ _) (s_aload_n hZ.1 dL_law_970 rfl ?_)
  refine rx_by (e_ldI _ _) (s_iload_n hZ.1 dL_law_971 rfl ?_)
  refine s_iconst dL_law_972 (by decide +kernel) ?_
  refine rx_by (e_add _) (s_iadd dL_law_973 ?_)
  refine s_xiald (zs_S hS) dL_law_974 ?_
  refine rx_by (e_ldR _ _) (s_aload_n hZ.1 dL_law_975 rfl ?_)
  refine rx_by (e_ldI _ _) (s_iload_n hZ.1 dL_law_976 rfl ?_)
  refine s_iconst dL_law_977 (by decide +kernel) ?_
  refine rx_by (e_add _) (s_iadd dL_law_978 ?_)
  refine s_xiald (zs_S hS) dL_law_979 ?_
  refine s_callV hZ.1 (met_X12_change hZ) (by decide) zy_X12_change zcl12 zw2683 zw2684 (Or.inl zw2682) dL_law_980 ?_
  refine rx_by (e_ldR _ _) (s_aload_n hZ.1 dL_law_983 rfl ?_)
  refine rx_by (e_ldR _ _) (s_aload_n hZ.1 dL_law_984 rfl ?_)
  refine rx_by (e_ldI _ _) (s_iload_n hZ.1 dL_law_985 rfl ?_)
  refine s_iconst dL_law_986 (by decide +kernel) ?_
  refine rx_by (e_add _) (s_iadd dL_law_987 ?_)
  refine s_xiald (zs_S hS) dL_law_988 ?_
  refine rx_by (e_ldR _ _) (s_aload_n hZ.1 dL_law_989 rfl ?_)
  refine rx_by (e_ldI _ _) (s_iload_n hZ.1 dL_law_990 rfl ?_)
  refine s_iconst dL_law_991 (by decide +kernel) ?_
  refine rx_by (e_add _) (s_iadd dL_law_992 ?_)
  refine s_xiald (zs_S hS) dL_law_993 ?_
  refine s_callV hZ.1 (met_X13_change hZ) (by decide) zy_X13_change zcl13 zw4055 zw4056 (Or.inl zw4054) dL_law_994 ?_
  exact (kL_law_997 hZ hS j hj)
noncomputable def bL_law_952 (sc : List Nat) (w L : Nat) (j : Nat → rx_K) : rx_K := q_ld q_isI 3 (o_const 16 (q_bi q_Fadd (o_xiald 12 sc L (q_ld q_isR 0 (q_ld q_isI 3 (o_const 24 (q_bi q_Fadd (o_xiald 12 sc L (o_callV 3 13 fX13_differ (q_eq2 (bL_law_1341 sc w L j) o_none))))))))))
set_option maxRecDepth 20000 in
theorem kL_law_952 {sc : List Nat} {w L : Nat} (hZ : zO b e D A X) (hS : zS b e D A X sc w L) (j : Nat → rx_K) (hj : ∀ k pc, [18][k]? = some pc → rx_OK (zV b e D A X) mL_law 7 pc (j k)) : rx_OK (zV b e D A X) mL_law 7 952 (bL_law_952 sc w L j) := by
  unfold bL_law_952
  refine rx_by (e_ldI _ _) (s_iload_n hZ.1 dL_law_952 rfl ?_)
  refine s_iconst dL_law_953 (by decide +kernel) ?_
  refine rx_by (e_add _) (s_iadd dL_law_954 ?_)
  refine s_xiald (zs_S hS) dL_law_955 ?_
  refine rx_by (e_ldR _ _) (s_aload_n hZ.1 dL_law_956 rfl ?_)
  refine rx_by (e_ldI _ _) (s_iload_n hZ.1 dL_law_957 rfl ?_)
  refine s_iconst dL_law_958 (by decide +kernel) ?_
  refine rx_by (e_add _) (s_iadd dL_law_959 ?_)
  refine s_xiald (zs_S hS) dL_law_960 ?_
  refine s_callV hZ.1 (met_X13_differ hZ) (by decide) zy_X13_differ zcl13 zw3987 zw3988 (Or.inl zw3986) dL_law_961 ?_
  exact rx_by (e_eq2 _ _) (s_icmp_eq dL_law_964 (by decide) (kL_law_1341 hZ hS j hj) (s_none (pc := 967)))
noncomputable def bL_law_926 (sc : List Nat) (w L : Nat) (j : Nat → rx_K) : rx_K := q_ld q_isR 1 (q_ld q_isR 0 (q_ld q_isI 3 (o_const 8 (q_bi q_Fadd (o_xiald 12 sc L (q_ld q_isR 0 (q_ld q_isI 3 (o_const 16 (q_bi q_Fadd (o_xiald 12 sc L (q_ld q_isR 0 (q_ld q_isI 3 (o_const 24 (q_bi q_Fadd (o_xiald 12 sc L (o_callV 3 12 fX12_differ (q_ld q_isR 2 (q_ld q_isR 0 (q_ld q_isI 3 (o_const 8 (q_bi q_Fadd (o_xiald 12 sc L (q_ld q_isR 0 ((bL_law_952 sc w L j)))))))))))))))))))))))))
set_option maxRecDepth 20000 in
theorem kL_law_926 {sc : List Nat} {w L : Nat} (hZ : zO b e D A X) (hS : zS b e D A X sc w L) (j : Nat → rx_K) (hj : ∀ k pc, [18][k]? = some pc → rx_OK (zV b e D A X) mL_law 7 pc (j k)) : rx_OK (zV b e D A X) mL_law 7 926 (bL_law_926 sc w L j) := by
  unfold bL_law_926
  refine rx_by (e_ldR _ _) (s_aload_n hZ.1 dL_law_926 rfl ?_)
  refine rx_by (e_ldR _ _) (s_aload_n hZ.1 dL_law_927 rfl ?_)
  refine rx_by (e_ldI _ _) (s_iload_n hZ.1 dL_law_928 rfl ?_)
  refine s_iconst dL_law_929 (by decide +kernel) ?_
  refine rx_by (e_add _) (s_iadd dL_law_930 ?_)
  refine s_xiald (zs_S hS) dL_law_931 ?_
  refine rx_by (e_ldR _ _) (s_aload_n hZ.1 dL_law_932 rfl ?_)
  refine rx_by (e_ldI _ _) (s_iload_n hZ.1 dL_law_933 rfl ?_)
  refine s_iconst dL_law_934 (by decide +kernel) ?_
  refine rx_by (e_add _) (s_iadd dL_law_935 ?_)
  refine s_xiald (zs_S hS) dL_law_936 ?_
  refine rx_by (e_ldR _ _) (s_aload_n hZ.1 dL_law_937 rfl ?_)
  refine rx_by (e_ldI _ _) (s_iload_n hZ.1 dL_law_938 rfl ?_)
  refine s_iconst dL_law_939 (by decide +kernel) ?_
  refine rx_by (e_add _) (s_iadd dL_law_940 ?_)
  refine s_xiald (zs_S hS) dL_law_941 ?_
  refine s_callV hZ.1 (met_X12_differ hZ) (by decide) zy_X12_differ zcl12 zw2595 zw2596 (Or.inl zw2594) dL_law_942 ?_
  refine rx_by (e_ldR _ _) (s_aload_n hZ.1 dL_law_945 rfl ?_)
  refine rx_by (e_ldR _ _) (s_aload_n hZ.1 dL_law_946 rfl ?_)
  refine rx_by (e_ldI _ _) (s_iload_n hZ.1 dL_law_947 rfl ?_)
  refine s_iconst dL_law_948 (by decide +kernel) ?_
  refine rx_by (e_add _) (s_iadd dL_law_949 ?_)
  refine s_xiald (zs_S hS) dL_law_950 ?_
  refine rx_by (e_ldR _ _) (s_aload_n hZ.1 dL_law_951 rfl ?_)
  exact (kL_law_952 hZ hS j hj)
noncomputable def bL_law_913 (sc : List Nat) (w L : Nat) (j : Nat → rx_K) : rx_K := q_ld q_isR 1 (o_callV 0 12 fX12_choose (q_ld q_isR 2 (o_callV 0 13 fX13_choose (q_eq2 (bL_law_1341 sc w L j) o_none))))
set_option maxRecDepth 20000 in
theorem kL_law_913 {sc : List Nat} {w L : Nat} (hZ : zO b e D A X) (hS : zS b e D A X sc w L) (j : Nat → rx_K) (hj : ∀ k pc, [18][k]? = some pc → rx_OK (zV b e D A X) mL_law 7 pc (j k)) : rx_OK (zV b e D A X) mL_law 7 913 (bL_law_913 sc w L j) := by
  unfold bL_law_913
  refine rx_by (e_ldR _ _) (s_aload_n hZ.1 dL_law_913 rfl ?_)
  refine s_callV hZ.1 (met_X12_choose hZ) (by decide) zy_X12_choose zcl12 zw2582 zw2583 (Or.inl zw2581) dL_law_914 ?_
  refine rx_by (e_ldR _ _) (s_aload_n hZ.1 dL_law_917 rfl ?_)
  refine s_callV hZ.1 (met_X13_choose hZ) (by decide) zy_X13_choose zcl13 zw3791 zw3792 (Or.inl zw3790) dL_law_918 ?_
  exact rx_by (e_eq2 _ _) (s_icmp_eq dL_law_921 (by decide) (kL_law_1341 hZ hS j hj) (s_none (pc := 924)))
noncomputable def bL_law_900 (sc : List Nat) (w L : Nat) (j : Nat → rx_K) : rx_K := q_ld q_isR 1 (o_callV 0 12 fX12_stale (q_ld q_isR 2 (o_callV 0 13 fX13_stale (q_eq2 (bL_law_1341 sc w L j) o_none))))
set_option maxRecDepth 20000 in
theorem kL_law_900 {sc : List Nat} {w L : Nat} (hZ : zO b e D A X) (hS : zS b e D A X sc w L) (j : Nat → rx_K) (hj : ∀ k pc, [18][k]? = some pc → rx_OK (zV b e D A X) mL_law 7 pc (j k)) : rx_OK (zV b e D A X) mL_law 7 900 (bL_law_900 sc w L j) := by
  unfold bL_law_900
  refine rx_by (e_ldR _ _) (s_aload_n hZ.1 dL_law_900 rfl ?_)
  refine s_callV hZ.1 (met_X12_stale hZ) (by decide) zy_X12_stale zcl12 zw2578 zw2579 (Or.inl zw2577) dL_law_901 ?_
  refine rx_by (e_ldR _ _) (s_aload_n hZ.1 dL_law_904 rfl ?_)
  refine s_callV hZ.1 (met_X13_stale hZ) (by decide) zy_X13_stale zcl13 zw3787 zw3788 (Or.inl zw3786) dL_law_905 ?_
  exact rx_by (e_eq2 _ _) (s_icmp_eq dL_law_908 (by decide) (kL_law_1341 hZ hS j hj) (s_none (pc := 911)))
noncomputable def bL_law_895 (sc : List Nat) (w L : Nat) (j : Nat → rx_K) : rx_K := q_eq2 (bL_law_1341 sc w L j) o_none
set_option maxRecDepth 20000 in
theorem kL_law_895 {sc : List Nat} {w L : Nat} (hZ : zO b e D A X) (hS : zS b e D A X sc w L) (j : Nat → rx_K) (hj : ∀ k pc, [18][k]? = some pc → rx_OK (zV b e D A X) mL_law 7 pc (j k)) : rx_OK (zV b e D A X) mL_law 7 895 (bL_law_895 sc w L j) := by
  unfold bL_law_895
  exact rx_by (e_eq2 _ _) (s_icmp_eq dL_law_895 (by decide) (kL_law_1341 hZ hS j hj) (s_none (pc := 898)))
noncomputable def bL_law_867 (sc : List Nat) (w L : Nat) (j : Nat → rx_K) : rx_K := q_ld q_isR 1 (q_ld q_isR 0 (q_ld q_isI 3 (o_const 8 (q_bi q_Fadd (o_xiald 12 sc L (q_ld q_isR 0 (q_ld q_isI 3 (o_const 16 (q_bi q_Fadd (o_xiald 12 sc L (o_callV 2 12 fX12_brokenAt (q_ld q_isR 2 (q_ld q_isR 0 (q_ld q_isI 3 (o_const 8 (q_bi q_Fadd (o_xiald 12 sc L (q_ld q_isR 0 (q_ld q_isI 3 (o_const 16 (q_bi q_Fadd (o_xiald 12 sc L (o_callV 2 13 fX13_brokenAt ((bL_law_895 sc w L j)))))))))))))))))))))))))
set_option maxRecDepth 20000 in
theorem kL_law_867 {sc : List Nat} {w L : Nat} (hZ : zO b e D A X) (hS : zS b e D A X sc w L) (j : Nat → rx_K) (hj : ∀ k pc, [18][k]? = some pc → rx_OK (zV b e D A X) mL_law 7 pc (j k)) : rx_OK (zV b e D A X) mL_law 7 867 (bL_law_867 sc w L j) := by
  unfold bL_law_867
  refine rx_by (e_ldR _ _) (s_aload_n hZ.1 dL_law_867 rfl ?_)
  refine rx_by (e_ldR _ _) (s_aload_n hZ.1 dL_law_868 rfl ?_)
  refine rx_by (e_ldI _ _) (s_iload_n hZ.1 dL_law_869 rfl ?_)
  refine s_iconst dL_law_870 (by decide +kernel) ?_
  refine rx_by (e_add _) (s_iadd dL_law_871 ?_)
  refine s_xiald (zs_S hS) dL_law_872 ?_
  refine rx_by (e_ldR _ _) (s_aload_n hZ.1 dL_law_873 rfl ?_)
  refine rx_by (e_ldI _ _) (s_iload_n hZ.1 dL_law_874 rfl ?_)
  refine s_iconst dL_law_875 (by decide +kernel) ?_
  refine rx_by (e_add _) (s_iadd dL_law_876 ?_)
  refine s_xiald (zs_S hS) dL_law_877 ?_
  refine s_callV hZ.1 (met_X12_brokenAt hZ) (by decide) zy_X12_brokenAt zcl12 zw2574 zw2575 (Or.inl zw2573) dL_law_878 ?_
  refine rx_by (e_ldR _ _) (s_aload_n hZ.1 dL_law_881 rfl ?_)
  refine rx_by (e_ldR _ _) (s_aload_n hZ.1 dL_law_882 rfl ?_)
  refine rx_by (e_ldI _ _) (s_iload_n hZ.1 dL_law_883 rfl ?_)
  refine s_iconst dL_law_884 (by decide +kernel) ?_
  refine rx_by (e_add _) (s_iadd dL_law_885 ?_)
  refine s_xiald (zs_S hS) dL_law_886 ?_
  refine rx_by (e_ldR _ _) (s_aload_n hZ.1 dL_law_887 rfl ?_)
  refine rx_by (e_ldI _ _) (s_iload_n hZ.1 dL_law_888 rfl ?_)
  refine s_iconst dL_law_889 (by decide +kernel) ?_
  refine rx_by (e_add _) (s_iadd dL_law_890 ?_)
  refine s_xiald (zs_S hS) dL_law_891 ?_
  refine s_callV hZ.1 (met_X13_brokenAt hZ) (by decide) zy_X13_brokenAt zcl13 zw3783 zw3784 (Or.inl zw3782) dL_law_892 ?_
  exact (kL_law_895 hZ hS j hj)
noncomputable def bL_law_854 (sc : List Nat) (w L : Nat) (j : Nat → rx_K) : rx_K := q_ld q_isR 1 (o_callV 0 12 fX12_broken (q_ld q_isR 2 (o_callV 0 13 fX13_broken (q_eq2 (bL_law_1341 sc w L j) o_none))))
set_option maxRecDepth 20000 in
theorem kL_law_854 {sc : List Nat} {w L : Nat} (hZ : zO b e D A X) (hS : zS b e D A X sc w L) (j : Nat → rx_K) (hj : ∀ k pc, [18][k]? = some pc → rx_OK (zV b e D A X) mL_law 7 pc (j k)) : rx_OK (zV b e D A X) mL_law 7 854 (bL_law_854 sc w L j) := by
  unfold bL_law_854
  refine rx_by (e_ldR _ _) (s_aload_n hZ.1 dL_law_854 rfl ?_)
  refine s_callV hZ.1 (met_X12_broken hZ) (by decide) zy_X12_broken zcl12 zw2557 zw2558 (Or.inl zw2556) dL_law_855 ?_
  refine rx_by (e_ldR _ _) (s_aload_n hZ.1 dL_law_858 rfl ?_)
  refine s_callV hZ.1 (met_X13_broken hZ) (by decide) zy_X13_broken zcl13 zw3779 zw3780 (Or.inl zw3778) dL_law_859 ?_
  exact rx_by (e_eq2 _ _) (s_icmp_eq dL_law_862 (by decide) (kL_law_1341 hZ hS j hj) (s_none (pc := 865)))
noncomputable def bL_law_831 (sc : List Nat) (w L : Nat) (j : Nat → rx_K) : rx_K := q_ld q_isR 1 (q_ld q_isR 0 (q_ld q_isI 3 (o_const 8 (q_bi q_Fadd (o_xiald 12 sc L (o_callV 1 12 fX12_looked (q_ld q_isR 2 (q_ld q_isR 0 (q_ld q_isI 3 (o_const 8 (q_bi q_Fadd (o_xiald 12 sc L (o_callV 1 13 fX13_looked (q_eq2 (bL_law_1341 sc w L j) o_none))))))))))))))
set_option maxRecDepth 20000 in
theorem kL_law_831 {sc : List Nat} {w L : Nat} (hZ : zO b e D A X) (hS : zS b e D A X sc w L) (j : Nat → rx_K) (hj : ∀ k pc, [18][k]? = some pc → rx_OK (zV b e D A X) mL_law 7 pc (j k)) : rx_OK (zV b e D A X) mL_law 7 831 (bL_law_831 sc w L j) := by
  unfold bL_law_831
  refine rx_by (e_ldR _ _) (s_aload_n hZ.1 dL_law_831 rfl ?_)
  refine rx_by (e_ldR _ _) (s_aload_n hZ.1 dL_law_832 rfl ?_)
  refine rx_by (e_ldI _ _) (s_iload_n hZ.1 dL_law_833 rfl ?_)
  refine s_iconst dL_law_834 (by decide +kernel) ?_
  refine rx_by (e_add _) (s_iadd dL_law_835 ?_)
  refine s_xiald (zs_S hS) dL_law_836 ?_
  refine s_callV hZ.1 (met_X12_looked hZ) (by decide) zy_X12_looked zcl12 zw2553 zw2554 (Or.inl zw2552) dL_law_837 ?_
  refine rx_by (e_ldR _ _) (s_aload_n hZ.1 dL_law_840 rfl ?_)
  refine rx_by (e_ldR _ _) (s_aload_n hZ.1 dL_law_841 rfl ?_)
  refine rx_by (e_ldI _ _) (s_iload_n hZ.1 dL_law_842 rfl ?_)
  refine s_iconst dL_law_843 (by decide +kernel) ?_
  refine rx_by (e_add _) (s_iadd dL_law_844 ?_)
  refine s_xiald (zs_S hS) dL_law_845 ?_
  refine s_callV hZ.1 (met_X13_looked hZ) (by decide) zy_X13_looked zcl13 zw3775 zw3776 (Or.inl zw3774) dL_law_846 ?_
  exact rx_by (e_eq2 _ _) (s_icmp_eq dL_law_849 (by decide) (kL_law_1341 hZ hS j hj) (s_none (pc := 852)))
noncomputable def bL_law_818 (sc : List Nat) (w L : Nat) (j : Nat → rx_K) : rx_K := q_ld q_isR 1 (o_callV 0 12 fX12_met (q_ld q_isR 2 (o_callV 0 13 fX13_met (q_eq2 (bL_law_1341 sc w L j) o_none))))
set_option maxRecDepth 20000 in
theorem kL_law_818 {sc : List Nat} {w L : Nat} (hZ : zO b e D A X) (hS : zS b e D A X sc w L) (j : Nat → rx_K) (hj : ∀ k pc, [18][k]? = some pc → rx_OK (zV b e D A X) mL_law 7 pc (j k)) : rx_OK (zV b e D A X) mL_law 7 818 (bL_law_818 sc w L j) := by
  unfold bL_law_818
  refine rx_by (e_ldR _ _) (s_aload_n hZ.1 dL_law_818 rfl ?_)
  refine s_callV hZ.1 (met_X12_met hZ) (by decide) zy_X12_met zcl12 zw2549 zw2550 (Or.inl zw2548) dL_law_819 ?_
  refine rx_by (e_ldR _ _) (s_aload_n hZ.1 dL_law_822 rfl ?_)
  refine s_callV hZ.1 (met_X13_met hZ) (by decide) zy_X13_met zcl13 zw3771 zw3772 (Or.inl zw3770) dL_law_823 ?_
  exact rx_by (e_eq2 _ _) (s_icmp_eq dL_law_826 (by decide) (kL_law_1341 hZ hS j hj) (s_none (pc := 829)))
noncomputable def bL_law_801 (sc : List Nat) (w L : Nat) (j : Nat → rx_K) : rx_K := q_ld q_isI 3 (o_const 16 (q_bi q_Fadd (o_xiald 12 sc L (q_ld q_isR 0 (q_ld q_isI 3 (o_const 24 (q_bi q_Fadd (o_xiald 12 sc L (o_callV 3 13 fX13_meet (q_eq2 (bL_law_1341 sc w L j) o_none))))))))))
set_option maxRecDepth 20000 in
theorem kL_law_801 {sc : List Nat} {w L : Nat} (hZ : zO b e D A X) (hS : zS b e D A X sc w L) (j : Nat → rx_K) (hj : ∀ k pc, [18][k]? = some pc → rx_OK (zV b e D A X) mL_law 7 pc (j k)) : rx_OK (zV b e D A X) mL_law 7 801 (bL_law_801 sc w L j) := by
  unfold bL_law_801
  refine rx_by (e_ldI _ _) (s_iload_n hZ.1 dL_law_801 rfl ?_)
  refine s_iconst dL_law_802 (by decide +kernel) ?_
  refine rx_by (e_add _) (s_iadd dL_law_803 ?_)
  refine s_xiald (zs_S hS) dL_law_804 ?_
  refine rx_by (e_ldR _ _) (s_aload_n hZ.1 dL_law_805 rfl ?_)
  refine rx_by (e_ldI _ _) (s_iload_n hZ.1 dL_law_806 rfl ?_)
  refine s_iconst dL_law_807 (by decide +kernel) ?_
  refine rx_by (e_add _) (s_iadd dL_law_808 ?_)
  refine s_xiald (zs_S hS) dL_law_809 ?_
  refine s_callV hZ.1 (met_X13_meet hZ) (by decide) zy_X13_meet zcl13 zw3711 zw3712 (Or.inl zw3710) dL_law_810 ?_
  exact rx_by (e_eq2 _ _) (s_icmp_eq dL_law_813 (by decide) (kL_law_1341 hZ hS j hj) (s_none (pc := 816)))
noncomputable def bL_law_775 (sc : List Nat) (w L : Nat) (j : Nat → rx_K) : rx_K := q_ld q_isR 1 (q_ld q_isR 0 (q_ld q_isI 3 (o_const 8 (q_bi q_Fadd (o_xiald 12 sc L (q_ld q_isR 0 (q_ld q_isI 3 (o_const 16 (q_bi q_Fadd (o_xiald 12 sc L (q_ld q_isR 0 (q_ld q_isI 3 (o_const 24 (q_bi q_Fadd (o_xiald 12 sc L (o_callV 3 12 fX12_meet (q_ld q_isR 2 (q_ld q_isR 0 (q_ld q_isI 3 (o_const 8 (q_bi q_Fadd (o_xiald 12 sc L (q_ld q_isR 0 ((bL_law_801 sc w L j)))))))))))))))))))))))))
set_option maxRecDepth 20000 in
theorem kL_law_775 {sc : List Nat} {w L : Nat} (hZ : zO b e D A X) (hS : zS b e D A X sc w L) (j : Nat → rx_K) (hj : ∀ k pc, [18][k]? = some pc → rx_OK (zV b e D A X) mL_law 7 pc (j k)) : rx_OK (zV b e D A X) mL_law 7 775 (bL_law_775 sc w L j) := by
  unfold bL_law_775
  refine rx_by (e_ldR _ _) (s_aload_n hZ.1 dL_law_775 rfl ?_)
  refine rx_by (e_ldR _ _) (s_aload_n hZ.1 dL_law_776 rfl ?_)
  refine rx_by (e_ldI _ _) (s_iload_n hZ.1 dL_law_777 rfl ?_)
  refine s_iconst dL_law_778 (by decide +kernel) ?_
  refine rx_by (e_add _) (s_iadd dL_law_779 ?_)
  refine s_xiald (zs_S hS) dL_law_780 ?_
  refine rx_by (e_ldR _ _) (s_aload_n hZ.1 dL_law_781 rfl ?_)
  refine rx_by (e_ldI _ _) (s_iload_n hZ.1 dL_law_782 rfl ?_)
  refine s_iconst dL_law_783 (by decide +kernel) ?_
  refine rx_by (e_add _) (s_iadd dL_law_784 ?_)
  refine s_xiald (zs_S hS) dL_law_785 ?_
  refine rx_by (e_ldR _ _) (s_aload_n hZ.1 dL_law_786 rfl ?_)
  refine rx_by (e_ldI _ _) (s_iload_n hZ.1 dL_law_787 rfl ?_)
  refine s_iconst dL_law_788 (by decide +kernel) ?_
  refine rx_by (e_add _) (s_iadd dL_law_789 ?_)
  refine s_xiald (zs_S hS) dL_law_790 ?_
  refine s_callV hZ.1 (met_X12_meet hZ) (by decide) zy_X12_meet zcl12 zw2471 zw2472 (Or.inl zw2470) dL_law_791 ?_
  refine rx_by (e_ldR _ _) (s_aload_n hZ.1 dL_law_794 rfl ?_)
  refine rx_by (e_ldR _ _) (s_aload_n hZ.1 dL_law_795 rfl ?_)
  refine rx_by (e_ldI _ _) (s_iload_n hZ.1 dL_law_796 rfl ?_)
  refine s_iconst dL_law_797 (by decide +kernel) ?_
  refine rx_by (e_add _) (s_iadd dL_law_798 ?_)
  refine s_xiald (zs_S hS) dL_law_799 ?_
  refine rx_by (e_ldR _ _) (s_aload_n hZ.1 dL_law_800 rfl ?_)
  exact (kL_law_801 hZ hS j hj)
noncomputable def bL_law_758 (sc : List Nat) (w L : Nat) (j : Nat → rx_K) : rx_K := q_ld q_isI 3 (o_const 16 (q_bi q_Fadd (o_xiald 12 sc L (q_ld q_isR 0 (q_ld q_isI 3 (o_const 24 (q_bi q_Fadd (o_xiald 12 sc L (o_callV 3 13 fX13_tell (q_eq2 (bL_law_1341 sc w L j) o_none))))))))))
set_option maxRecDepth 20000 in
theorem kL_law_758 {sc : List Nat} {w L : Nat} (hZ : zO b e D A X) (hS : zS b e D A X sc w L) (j : Nat → rx_K) (hj : ∀ k pc, [18][k]? = some pc → rx_OK (zV b e D A X) mL_law 7 pc (j k)) : rx_OK (zV b e D A X) mL_law 7 758 (bL_law_758 sc w L j) := by
  unfold bL_law_758
  refine rx_by (e_ldI _ _) (s_iload_n hZ.1 dL_law_758 rfl ?_)
  refine s_iconst dL_law_759 (by decide +kernel) ?_
  refine rx_by (e_add _) (s_iadd dL_law_760 ?_)
  refine s_xiald (zs_S hS) dL_law_761 ?_
  refine rx_by (e_ldR _ _) (s_aload_n hZ.1 dL_law_762 rfl ?_)
  refine rx_by (e_ldI _ _) (s_iload_n hZ.1 dL_law_763 rfl ?_)
  refine s_iconst dL_law_764 (by decide +kernel) ?_
  refine rx_by (e_add _) (s_iadd dL_law_765 ?_)
  refine s_xiald (zs_S hS) dL_law_766 ?_
  refine s_callV hZ.1 (met_X13_tell hZ) (by decide) zy_X13_tell zcl13 zw3703 zw3704 (Or.inl zw3702) dL_law_767 ?_
  exact rx_by (e_eq2 _ _) (s_icmp_eq dL_law_770 (by decide) (kL_law_1341 hZ hS j hj) (s_none (pc := 773)))
noncomputable def bL_law_732 (sc : List Nat) (w L : Nat) (j : Nat → rx_K) : rx_K := q_ld q_isR 1 (q_ld q_isR 0 (q_ld q_isI 3 (o_const 8 (q_bi q_Fadd (o_xiald 12 sc L (q_ld q_isR 0 (q_ld q_isI 3 (o_const 16 (q_bi q_Fadd (o_xiald 12 sc L (q_ld q_isR 0 (q_ld q_isI 3 (o_const 24 (q_bi q_Fadd (o_xiald 12 sc L (o_callV 3 12 fX12_tell (q_ld q_isR 2 (q_ld q_isR 0 (q_ld q_isI 3 (o_const 8 (q_bi q_Fadd (o_xiald 12 sc L (q_ld q_isR 0 ((bL_law_758 sc w L j)))))))))))))))))))))))))
set_option maxRecDepth 20000 in
theorem kL_law_732 {sc : List Nat} {w L : Nat} (hZ : zO b e D A X) (hS : zS b e D A X sc w L) (j : Nat → rx_K) (hj : ∀ k pc, [18][k]? = some pc → rx_OK (zV b e D A X) mL_law 7 pc (j k)) : rx_OK (zV b e D A X) mL_law 7 732 (bL_law_732 sc w L j) := by
  unfold bL_law_732
  refine rx_by (e_ldR _ _) (s_aload_n hZ.1 dL_law_732 rfl ?_)
  refine rx_by (e_ldR _ _) (s_aload_n hZ.1 dL_law_733 rfl ?_)
  refine rx_by (e_ldI _ _) (s_iload_n hZ.1 dL_law_734 rfl ?_)
  refine s_iconst dL_law_735 (by decide +kernel) ?_
  refine rx_by (e_add _) (s_iadd dL_law_736 ?_)
  refine s_xiald (zs_S hS) dL_law_737 ?_
  refine rx_by (e_ldR _ _) (s_aload_n hZ.1 dL_law_738 rfl ?_)
  refine rx_by (e_ldI _ _) (s_iload_n hZ.1 dL_law_739 rfl ?_)
  refine s_iconst dL_law_740 (by decide +kernel) ?_
  refine rx_by (e_add _) (s_iadd dL_law_741 ?_)
  refine s_xiald (zs_S hS) dL_law_742 ?_
  refine rx_by (e_ldR _ _) (s_aload_n hZ.1 dL_law_743 rfl ?_)
  refine rx_by (e_ldI _ _) (s_iload_n hZ.1 dL_law_744 rfl ?_)
  refine s_iconst dL_law_745 (by decide +kernel) ?_
  refine rx_by (e_add _) (s_iadd dL_law_746 ?_)
  refine s_xiald (zs_S hS) dL_law_747 ?_
  refine s_callV hZ.1 (met_X12_tell hZ) (by decide) zy_X12_tell zcl12 zw2460 zw2461 (Or.inl zw2459) dL_law_748 ?_
  refine rx_by (e_ldR _ _) (s_aload_n hZ.1 dL_law_751 rfl ?_)
  refine rx_by (e_ldR _ _) (s_aload_n hZ.1 dL_law_752 rfl ?_)
  refine rx_by (e_ldI _ _) (s_iload_n hZ.1 dL_law_753 rfl ?_)
  refine s_iconst dL_law_754 (by decide +kernel) ?_
  refine rx_by (e_add _) (s_iadd dL_law_755 ?_)
  refine s_xiald (zs_S hS) dL_law_756 ?_
  refine rx_by (e_ldR _ _) (s_aload_n hZ.1 dL_law_757 rfl ?_)
  exact (kL_law_758 hZ hS j hj)
noncomputable def bL_law_705 (sc : List Nat) (w L : Nat) (j : Nat → rx_K) : rx_K := q_ld q_isI 3 (o_const 8 (q_bi q_Fadd (o_xiald 12 sc L (q_ld q_isR 0 (q_ld q_isI 3 (o_const 16 (q_bi q_Fadd (o_xiald 12 sc L (q_ld q_isR 0 (q_ld q_isI 3 (o_const 24 (q_bi q_Fadd (o_xiald 12 sc L (q_ld q_isR 0 (q_ld q_isI 3 (o_const 32 (q_bi q_Fadd (o_xiald 12 sc L (o_callV 4 13 fX13_use (q_eq2 (bL_law_1341 sc w L j) o_none))))))))))))))))))))
set_option maxRecDepth 20000 in
theorem kL_law_705 {sc : List Nat} {w L : Nat} (hZ : zO b e D A X) (hS : zS b e D A X sc w L) (j : Nat → rx_K) (hj : ∀ k pc, [18][k]? = some pc → rx_OK (zV b e D A X) mL_law 7 pc (j k)) : rx_OK (zV b e D A X) mL_law 7 705 (bL_law_705 sc w L j) := by
  unfold bL_law_705
  refine rx_by (e_ldI _ _) (s_iload_n hZ.1 dL_law_705 rfl ?_)
  refine s_iconst dL_law_706 (by decide +kernel) ?_
  refine rx_by (e_add _) (s_iadd dL_law_707 ?_)
  refine s_xiald (zs_S hS) dL_law_708 ?_
  refine rx_by (e_ldR _ _) (s_aload_n hZ.1 dL_law_709 rfl ?_)
  refine rx_by (e_ldI _ _) (s_iload_n hZ.1 dL_law_710 rfl ?_)
  refine s_iconst dL_law_711 (by decide +kernel) ?_
  refine rx_by (e_add _) (s_iadd dL_law_712 ?_)
  refine s_xiald (zs_S hS) dL_law_713 ?_
  refine rx_by (e_ldR _ _) (s_aload_n hZ.1 dL_law_714 rfl ?_)
  refine rx_by (e_ldI _ _) (s_iload_n hZ.1 dL_law_715 rfl ?_)
  refine s_iconst dL_law_716 (by decide +kernel) ?_
  refine rx_by (e_add _) (s_iadd dL_law_717 ?_)
  refine s_xiald (zs_S hS) dL_law_718 ?_
  refine rx_by (e_ldR _ _) (s_aload_n hZ.1 dL_law_719 rfl ?_)
  refine rx_by (e_ldI _ _) (s_iload_n hZ.1 dL_law_720 rfl ?_)
  refine s_iconst dL_law_721 (by decide +kernel) ?_
  refine rx_by (e_add _) (s_iadd dL_law_722 ?_)
  refine s_xiald (zs_S hS) dL_law_723 ?_
  refine s_callV hZ.1 (met_X13_use hZ) (by decide) zy_X13_use zcl13 zw3695 zw3696 (Or.inl zw3694) dL_law_724 ?_
  exact rx_by (e_eq2 _ _) (s_icmp_eq dL_law_727 (by decide) (kL_law_1341 hZ hS j hj) (s_none (pc := 730)))
noncomputable def bL_law_679 (sc : List Nat) (w L : Nat) (j : Nat → rx_K) : rx_K := q_ld q_isR 1 (q_ld q_isR 0 (q_ld q_isI 3 (o_const 8 (q_bi q_Fadd (o_xiald 12 sc L (q_ld q_isR 0 (q_ld q_isI 3 (o_const 16 (q_bi q_Fadd (o_xiald 12 sc L (q_ld q_isR 0 (q_ld q_isI 3 (o_const 24 (q_bi q_Fadd (o_xiald 12 sc L (q_ld q_isR 0 (q_ld q_isI 3 (o_const 32 (q_bi q_Fadd (o_xiald 12 sc L (o_callV 4 12 fX12_use (q_ld q_isR 2 (q_ld q_isR 0 ((bL_law_705 sc w L j)))))))))))))))))))))))))
set_option maxRecDepth 20000 in
theorem kL_law_679 {sc : List Nat} {w L : Nat} (hZ : zO b e D A X) (hS : zS b e D A X sc w L) (j : Nat → rx_K) (hj : ∀ k pc, [18][k]? = some pc → rx_OK (zV b e D A X) mL_law 7 pc (j k)) : rx_OK (zV b e D A X) mL_law 7 679 (bL_law_679 sc w L j) := by
  unfold bL_law_679
  refine rx_by (e_ldR _ _) (s_aload_n hZ.1 dL_law_679 rfl ?_)
  refine rx_by (e_ldR _ _) (s_aload_n hZ.1 dL_law_680 rfl ?_)
  refine rx_by (e_ldI _ _) (s_iload_n hZ.1 dL_law_681 rfl ?_)
  refine s_iconst dL_law_682 (by decide +kernel) ?_
  refine rx_by (e_add _) (s_iadd dL_law_683 ?_)
  refine s_xiald (zs_S hS) dL_law_684 ?_
  refine rx_by (e_ldR _ _) (s_aload_n hZ.1 dL_law_685 rfl ?_)
  refine rx_by (e_ldI _ _) (s_iload_n hZ.1 dL_law_686 rfl ?_)
  refine s_iconst dL_law_687 (by decide +kernel) ?_
  refine rx_by (e_add _) (s_iadd dL_law_688 ?_)
  refine s_xiald (zs_S hS) dL_law_689 ?_
  refine rx_by (e_ldR _ _) (s_aload_n hZ.1 dL_law_690 rfl ?_)
  refine rx_by (e_ldI _ _) (s_iload_n hZ.1 dL_law_691 rfl ?_)
  refine s_iconst dL_law_692 (by decide +kernel) ?_
  refine rx_by (e_add _) (s_iadd dL_law_693 ?_)
  refine s_xiald (zs_S hS) dL_law_694 ?_
  refine rx_by (e_ldR _ _) (s_aload_n hZ.1 dL_law_695 rfl ?_)
  refine rx_by (e_ldI _ _) (s_iload_n hZ.1 dL_law_696 rfl ?_)
  refine s_iconst dL_law_697 (by decide +kernel) ?_
  refine rx_by (e_add _) (s_iadd dL_law_698 ?_)
  refine s_xiald (zs_S hS) dL_law_699 ?_
  refine s_callV hZ.1 (met_X12_use hZ) (by decide) zy_X12_use zcl12 zw2453 zw2454 (Or.inl zw2452) dL_law_700 ?_
  refine rx_by (e_ldR _ _) (s_aload_n hZ.1 dL_law_703 rfl ?_)
  refine rx_by (e_ldR _ _) (s_aload_n hZ.1 dL_law_704 rfl ?_)
  exact (kL_law_705 hZ hS j hj)
noncomputable def bL_law_674 (sc : List Nat) (w L : Nat) (j : Nat → rx_K) : rx_K := q_eq2 (bL_law_1341 sc w L j) o_none
set_option maxRecDepth 20000 in
theorem kL_law_674 {sc : List Nat} {w L : Nat} (hZ : zO b e D A X) (hS : zS b e D A X sc w L) (j : Nat → rx_K) (hj : ∀ k pc, [18][k]? = some pc → rx_OK (zV b e D A X) mL_law 7 pc (j k)) : rx_OK (zV b e D A X) mL_law 7 674 (bL_law_674 sc w L j) := by
  unfold bL_law_674
  exact rx_by (e_eq2 _ _) (s_icmp_eq dL_law_674 (by decide) (kL_law_1341 hZ hS j hj) (s_none (pc := 677)))
noncomputable def bL_law_646 (sc : List Nat) (w L : Nat) (j : Nat → rx_K) : rx_K := q_ld q_isR 1 (q_ld q_isR 0 (q_ld q_isI 3 (o_const 8 (q_bi q_Fadd (o_xiald 12 sc L (q_ld q_isR 0 (q_ld q_isI 3 (o_const 16 (q_bi q_Fadd (o_xiald 12 sc L (o_callV 2 12 fX12_uses (q_ld q_isR 2 (q_ld q_isR 0 (q_ld q_isI 3 (o_const 8 (q_bi q_Fadd (o_xiald 12 sc L (q_ld q_isR 0 (q_ld q_isI 3 (o_const 16 (q_bi q_Fadd (o_xiald 12 sc L (o_callV 2 13 fX13_uses ((bL_law_674 sc w L j)))))))))))))))))))))))))
set_option maxRecDepth 20000 in
theorem kL_law_646 {sc : List Nat} {w L : Nat} (hZ : zO b e D A X) (hS : zS b e D A X sc w L) (j : Nat → rx_K) (hj : ∀ k pc, [18][k]? = some pc → rx_OK (zV b e D A X) mL_law 7 pc (j k)) : rx_OK (zV b e D A X) mL_law 7 646 (bL_law_646 sc w L j) := by
  unfold bL_law_646
  refine rx_by (e_ldR _ _) (s_aload_n hZ.1 dL_law_646 rfl ?_)
  refine rx_by (e_ldR _ _) (s_aload_n hZ.1 dL_law_647 rfl ?_)
  refine rx_by (e_ldI _ _) (s_iload_n hZ.1 dL_law_648 rfl ?_)
  refine s_iconst dL_law_649 (by decide +kernel) ?_
  refine rx_by (e_add _) (s_iadd dL_law_650 ?_)
  refine s_xiald (zs_S hS) dL_law_651 ?_
  refine rx_by (e_ldR _ _) (s_aload_n hZ.1 dL_law_652 rfl ?_)
  refine rx_by (e_ldI _ _) (s_iload_n hZ.1 dL_law_653 rfl ?_)
  refine s_iconst dL_law_654 (by decide +kernel) ?_
  refine rx_by (e_add _) (s_iadd dL_law_655 ?_)
  refine s_xiald (zs_S hS) dL_law_656 ?_
  refine s_callV hZ.1 (met_X12_uses hZ) (by decide) zy_X12_uses zcl12 zw2449 zw2450 (Or.inl zw2448) dL_law_657 ?_
  refine rx_by (e_ldR _ _) (s_aload_n hZ.1 dL_law_660 rfl ?_)
  refine rx_by (e_ldR _ _) (s_aload_n hZ.1 dL_law_661 rfl ?_)
  refine rx_by (e_ldI _ _) (s_iload_n hZ.1 dL_law_662 rfl ?_)
  refine s_iconst dL_law_663 (by decide +kernel) ?_
  refine rx_by (e_add _) (s_iadd dL_law_664 ?_)
  refine s_xiald (zs_S hS) dL_law_665 ?_
  refine rx_by (e_ldR _ _) (s_aload_n hZ.1 dL_law_666 rfl ?_)
  refine rx_by (e_ldI _ _) (s_iload_n hZ.1 dL_law_667 rfl ?_)
  refine s_iconst dL_law_668 (by decide +kernel) ?_
  refine rx_by (e_add _) (s_iadd dL_law_669 ?_)
  refine s_xiald (zs_S hS) dL_law_670 ?_
  refine s_callV hZ.1 (met_X13_uses hZ) (by decide) zy_X13_uses zcl13 zw3691 zw3692 (Or.inl zw3690) dL_law_671 ?_
  exact (kL_law_674 hZ hS j hj)
noncomputable def bL_law_619 (sc : List Nat) (w L : Nat) (j : Nat → rx_K) : rx_K := q_ld q_isI 3 (o_const 8 (q_bi q_Fadd (o_xiald 12 sc L (q_ld q_isR 0 (q_ld q_isI 3 (o_const 16 (q_bi q_Fadd (o_xiald 12 sc L (q_ld q_isR 0 (q_ld q_isI 3 (o_const 24 (q_bi q_Fadd (o_xiald 12 sc L (q_ld q_isR 0 (q_ld q_isI 3 (o_const 32 (q_bi q_Fadd (o_xiald 12 sc L (o_callV 4 13 fX13_shape (q_eq2 (bL_law_1341 sc w L j) o_none))))))))))))))))))))
set_option maxRecDepth 20000 in
theorem kL_law_619 {sc : List Nat} {w L : Nat} (hZ : zO b e D A X) (hS : zS b e D A X sc w L) (j : Nat → rx_K) (hj : ∀ k pc, [18][k]? = some pc → rx_OK (zV b e D A X) mL_law 7 pc (j k)) : rx_OK (zV b e D A X) mL_law 7 619 (bL_law_619 sc w L j) := by
  unfold bL_law_619
  refine rx_by (e_ldI _ _) (s_iload_n hZ.1 dL_law_619 rfl ?_)
  refine s_iconst dL_law_620 (by decide +kernel) ?_
  refine rx_by (e_add _) (s_iadd dL_law_621 ?_)
  refine s_xiald (zs_S hS) dL_law_622 ?_
  refine rx_by (e_ldR _ _) (s_aload_n hZ.1 dL_law_623 rfl ?_)
  refine rx_by (e_ldI _ _) (s_iload_n hZ.1 dL_law_624 rfl ?_)
  refine s_iconst dL_law_625 (by decide +kernel) ?_
  refine rx_by (e_add _) (s_iadd dL_law_626 ?_)
  refine s_xiald (zs_S hS) dL_law_627 ?_
  refine rx_by (e_ldR _ _) (s_aload_n hZ.1 dL_law_628 rfl ?_)
  refine rx_by (e_ldI _ _) (s_iload_n hZ.1 dL_law_629 rfl ?_)
  refine s_iconst dL_law_630 (by decide +kernel) ?_
  refine rx_by (e_add _) (s_iadd dL_law_631 ?_)
  refine s_xiald (zs_S hS) dL_law_632 ?_
  refine rx_by (e_ldR _ _) (s_aload_n hZ.1 dL_law_633 rfl ?_)
  refine rx_by (e_ldI _ _) (s_iload_n hZ.1 dL_law_634 rfl ?_)
  refine s_iconst dL_law_635 (by decide +kernel) ?_
  refine rx_by (e_add _) (s_iadd dL_law_636 ?_)
  refine s_xiald (zs_S hS) dL_law_637 ?_
  refine s_callV hZ.1 (met_X13_shape hZ) (by decide) zy_X13_shape zcl13 zw3633 zw3634 (Or.inl zw3632) dL_law_638 ?_
  exact rx_by (e_eq2 _ _) (s_icmp_eq dL_law_641 (by decide) (kL_law_1341 hZ hS j hj) (s_none (pc := 644)))
noncomputable def bL_law_593 (sc : List Nat) (w L : Nat) (j : Nat → rx_K) : rx_K := q_ld q_isR 1 (q_ld q_isR 0 (q_ld q_isI 3 (o_const 8 (q_bi q_Fadd (o_xiald 12 sc L (q_ld q_isR 0 (q_ld q_isI 3 (o_const 16 (q_bi q_Fadd (o_xiald 12 sc L (q_ld q_isR 0 (q_ld q_isI 3 (o_const 24 (q_bi q_Fadd (o_xiald 12 sc L (q_ld q_isR 0 (q_ld q_isI 3 (o_const 32 (q_bi q_Fadd (o_xiald 12 sc L (o_callV 4 12 fX12_shape (q_ld q_isR 2 (q_ld q_isR 0 ((bL_law_619 sc w L j)))))))))))))))))))))))))
set_option maxRecDepth 20000 in
theorem kL_law_593 {sc : List Nat} {w L : Nat} (hZ : zO b e D A X) (hS : zS b e D A X sc w L) (j : Nat → rx_K) (hj : ∀ k pc, [18][k]? = some pc → rx_OK (zV b e D A X) mL_law 7 pc (j k)) : rx_OK (zV b e D A X) mL_law 7 593 (bL_law_593 sc w L j) := by
  unfold bL_law_593
  refine rx_by (e_ldR _ _) (s_aload_n hZ.1 dL_law_593 rfl ?_)
  refine rx_by (e_ldR _ _) (s_aload_n hZ.1 dL_law_594 rfl ?_)
  refine rx_by (e_ldI _ _) (s_iload_n hZ.1 dL_law_595 rfl ?_)
  refine s_iconst dL_law_596 (by decide +kernel) ?_
  refine rx_by (e_add _) (s_iadd dL_law_597 ?_)
  refine s_xiald (zs_S hS) dL_law_598 ?_
  refine rx_by (e_ldR _ _) (s_aload_n hZ.1 dL_law_599 rfl ?_)
  refine rx_by (e_ldI _ _) (s_iload_n hZ.1 dL_law_600 rfl ?_)
  refine s_iconst dL_law_601 (by decide +kernel) ?_
  refine rx_by (e_add _) (s_iadd dL_law_602 ?_)
  refine s_xiald (zs_S hS) dL_law_603 ?_
  refine rx_by (e_ldR _ _) (s_aload_n hZ.1 dL_law_604 rfl ?_)
  refine rx_by (e_ldI _ _) (s_iload_n hZ.1 dL_law_605 rfl ?_)
  refine s_iconst dL_law_606 (by decide +kernel) ?_
  refine rx_by (e_add _) (s_iadd dL_law_607 ?_)
  refine s_xiald (zs_S hS) dL_law_608 ?_
  refine rx_by (e_ldR _ _) (s_aload_n hZ.1 dL_law_609 rfl ?_)
  refine rx_by (e_ldI _ _) (s_iload_n hZ.1 dL_law_610 rfl ?_)
  refine s_iconst dL_law_611 (by decide +kernel) ?_
  refine rx_by (e_add _) (s_iadd dL_law_612 ?_)
  refine s_xiald (zs_S hS) dL_law_613 ?_
  refine s_callV hZ.1 (met_X12_shape hZ) (by decide) zy_X12_shape zcl12 zw2373 zw2374 (Or.inl zw2372) dL_law_614 ?_
  refine rx_by (e_ldR _ _) (s_aload_n hZ.1 dL_law_617 rfl ?_)
  refine rx_by (e_ldR _ _) (s_aload_n hZ.1 dL_law_618 rfl ?_)
  exact (kL_law_619 hZ hS j hj)
noncomputable def bL_law_576 (sc : List Nat) (w L : Nat) (j : Nat → rx_K) : rx_K := q_ld q_isI 3 (o_const 16 (q_bi q_Fadd (o_xiald 12 sc L (q_ld q_isR 0 (q_ld q_isI 3 (o_const 24 (q_bi q_Fadd (o_xiald 12 sc L (o_callV 3 13 fX13_members (q_eq2 (bL_law_1341 sc w L j) o_none))))))))))
set_option maxRecDepth 20000 in
theorem kL_law_576 {sc : List Nat} {w L : Nat} (hZ : zO b e D A X) (hS : zS b e D A X sc w L) (j : Nat → rx_K) (hj : ∀ k pc, [18][k]? = some pc → rx_OK (zV b e D A X) mL_law 7 pc (j k)) : rx_OK (zV b e D A X) mL_law 7 576 (bL_law_576 sc w L j) := by
  unfold bL_law_576
  refine rx_by (e_ldI _ _) (s_iload_n hZ.1 dL_law_576 rfl ?_)
  refine s_iconst dL_law_577 (by decide +kernel) ?_
  refine rx_by (e_add _) (s_iadd dL_law_578 ?_)
  refine s_xiald (zs_S hS) dL_law_579 ?_
  refine rx_by (e_ldR _ _) (s_aload_n hZ.1 dL_law_580 rfl ?_)
  refine rx_by (e_ldI _ _) (s_iload_n hZ.1 dL_law_581 rfl ?_)
  refine s_iconst dL_law_582 (by decide +kernel) ?_
  refine rx_by (e_add _) (s_iadd dL_law_583 ?_)
  refine s_xiald (zs_S hS) dL_law_584 ?_
  refine s_callV hZ.1 (met_X13_members hZ) (by decide) zy_X13_members zcl13 zw3621 zw3622 (Or.inl zw3620) dL_law_585 ?_
  exact rx_by (e_eq2 _ _) (s_icmp_eq dL_law_588 (by decide) (kL_law_1341 hZ hS j hj) (s_none (pc := 591)))
noncomputable def bL_law_550 (sc : List Nat) (w L : Nat) (j : Nat → rx_K) : rx_K := q_ld q_isR 1 (q_ld q_isR 0 (q_ld q_isI 3 (o_const 8 (q_bi q_Fadd (o_xiald 12 sc L (q_ld q_isR 0 (q_ld q_isI 3 (o_const 16 (q_bi q_Fadd (o_xiald 12 sc L (q_ld q_isR 0 (q_ld q_isI 3 (o_const 24 (q_bi q_Fadd (o_xiald 12 sc L (o_callV 3 12 fX12_members (q_ld q_isR 2 (q_ld q_isR 0 (q_ld q_isI 3 (o_const 8 (q_bi q_Fadd (o_xiald 12 sc L (q_ld q_isR 0 ((bL_law_576 sc w L j)))))))))))))))))))))))))
set_option maxRecDepth 20000 in
theorem kL_law_550 {sc : List Nat} {w L : Nat} (hZ : zO b e D A X) (hS : zS b e D A X sc w L) (j : Nat → rx_K) (hj : ∀ k pc, [18][k]? = some pc → rx_OK (zV b e D A X) mL_law 7 pc (j k)) : rx_OK (zV b e D A X) mL_law 7 550 (bL_law_550 sc w L j) := by
  unfold bL_law_550
  refine rx_by (e_ldR _ _) (s_aload_n hZ.1 dL_law_550 rfl ?_)
  refine rx_by (e_ldR _ _) (s_aload_n hZ.1 dL_law_551 rfl ?_)
  refine rx_by (e_ldI _ _) (s_iload_n hZ.1 dL_law_552 rfl ?_)
  refine s_iconst dL_law_553 (by decide +kernel) ?_
  refine rx_by (e_add _) (s_iadd dL_law_554 ?_)
  refine s_xiald (zs_S hS) dL_law_555 ?_
  refine rx_by (e_ldR _ _) (s_aload_n hZ.1 dL_law_556 rfl ?_)
  refine rx_by (e_ldI _ _) (s_iload_n hZ.1 dL_law_557 rfl ?_)
  refine s_iconst dL_law_558 (by decide +kernel) ?_
  refine rx_by (e_add _) (s_iadd dL_law_559 ?_)
  refine s_xiald (zs_S hS) dL_law_560 ?_
  refine rx_by (e_ldR _ _) (s_aload_n hZ.1 dL_law_561 rfl ?_)
  refine rx_by (e_ldI _ _) (s_iload_n hZ.1 dL_law_562 rfl ?_)
  refine s_iconst dL_law_563 (by decide +kernel) ?_
  refine rx_by (e_add _) (s_iadd dL_law_564 ?_)
  refine s_xiald (zs_S hS) dL_law_565 ?_
  refine s_callV hZ.1 (met_X12_members hZ) (by decide) zy_X12_members zcl12 zw2365 zw2366 (Or.inl zw2364) dL_law_566 ?_
  refine rx_by (e_ldR _ _) (s_aload_n hZ.1 dL_law_569 rfl ?_)
  refine rx_by (e_ldR _ _) (s_aload_n hZ.1 dL_law_570 rfl ?_)
  refine rx_by (e_ldI _ _) (s_iload_n hZ.1 dL_law_571 rfl ?_)
  refine s_iconst dL_law_572 (by decide +kernel) ?_
  refine rx_by (e_add _) (s_iadd dL_law_573 ?_)
  refine s_xiald (zs_S hS) dL_law_574 ?_
  refine rx_by (e_ldR _ _) (s_aload_n hZ.1 dL_law_575 rfl ?_)
  exact (kL_law_576 hZ hS j hj)
noncomputable def bL_law_545 (sc : List Nat) (w L : Nat) (j : Nat → rx_K) : rx_K := q_eq2 (bL_law_1341 sc w L j) o_none
set_option maxRecDepth 20000 in
theorem kL_law_545 {sc : List Nat} {w L : Nat} (hZ : zO b e D A X) (hS : zS b e D A X sc w L) (j : Nat → rx_K) (hj : ∀ k pc, [18][k]? = some pc → rx_OK (zV b e D A X) mL_law 7 pc (j k)) : rx_OK (zV b e D A X) mL_law 7 545 (bL_law_545 sc w L j) := by
  unfold bL_law_545
  exact rx_by (e_eq2 _ _) (s_icmp_eq dL_law_545 (by decide) (kL_law_1341 hZ hS j hj) (s_none (pc := 548)))
noncomputable def bL_law_517 (sc : List Nat) (w L : Nat) (j : Nat → rx_K) : rx_K := q_ld q_isR 1 (q_ld q_isR 0 (q_ld q_isI 3 (o_const 8 (q_bi q_Fadd (o_xiald 12 sc L (q_ld q_isR 0 (q_ld q_isI 3 (o_const 16 (q_bi q_Fadd (o_xiald 12 sc L (o_callV 2 12 fX12_classes (q_ld q_isR 2 (q_ld q_isR 0 (q_ld q_isI 3 (o_const 8 (q_bi q_Fadd (o_xiald 12 sc L (q_ld q_isR 0 (q_ld q_isI 3 (o_const 16 (q_bi q_Fadd (o_xiald 12 sc L (o_callV 2 13 fX13_classes ((bL_law_545 sc w L j)))))))))))))))))))))))))
set_option maxRecDepth 20000 in
theorem kL_law_517 {sc : List Nat} {w L : Nat} (hZ : zO b e D A X) (hS : zS b e D A X sc w L) (j : Nat → rx_K) (hj : ∀ k pc, [18][k]? = some pc → rx_OK (zV b e D A X) mL_law 7 pc (j k)) : rx_OK (zV b e D A X) mL_law 7 517 (bL_law_517 sc w L j) := by
  unfold bL_law_517
  refine rx_by (e_ldR _ _) (s_aload_n hZ.1 dL_law_517 rfl ?_)
  refine rx_by (e_ldR _ _) (s_aload_n hZ.1 dL_law_518 rfl ?_)
  refine rx_by (e_ldI _ _) (s_iload_n hZ.1 dL_law_519 rfl ?_)
  refine s_iconst dL_law_520 (by decide +kernel) ?_
  refine rx_by (e_add _) (s_iadd dL_law_521 ?_)
  refine s_xiald (zs_S hS) dL_law_522 ?_
  refine rx_by (e_ldR _ _) (s_aload_n hZ.1 dL_law_523 rfl ?_)
  refine rx_by (e_ldI _ _) (s_iload_n hZ.1 dL_law_524 rfl ?_)
  refine s_iconst dL_law_525 (by decide +kernel) ?_
  refine rx_by (e_add _) (s_iadd dL_law_526 ?_)
  refine s_xiald (zs_S hS) dL_law_527 ?_
  refine s_callV hZ.1 (met_X12_classes hZ) (by decide) zy_X12_classes zcl12 zw2361 zw2362 (Or.inl zw2360) dL_law_528 ?_
  refine rx_by (e_ldR _ _) (s_aload_n hZ.1 dL_law_531 rfl ?_)
  refine rx_by (e_ldR _ _) (s_aload_n hZ.1 dL_law_532 rfl ?_)
  refine rx_by (e_ldI _ _) (s_iload_n hZ.1 dL_law_533 rfl ?_)
  refine s_iconst dL_law_534 (by decide +kernel) ?_
  refine rx_by (e_add _) (s_iadd dL_law_535 ?_)
  refine s_xiald (zs_S hS) dL_law_536 ?_
  refine rx_by (e_ldR _ _) (s_aload_n hZ.1 dL_law_537 rfl ?_)
  refine rx_by (e_ldI _ _) (s_iload_n hZ.1 dL_law_538 rfl ?_)
  refine s_iconst dL_law_539 (by decide +kernel) ?_
  refine rx_by (e_add _) (s_iadd dL_law_540 ?_)
  refine s_xiald (zs_S hS) dL_law_541 ?_
  refine s_callV hZ.1 (met_X13_classes hZ) (by decide) zy_X13_classes zcl13 zw3617 zw3618 (Or.inl zw3616) dL_law_542 ?_
  exact (kL_law_545 hZ hS j hj)
noncomputable def bL_law_494 (sc : List Nat) (w L : Nat) (j : Nat → rx_K) : rx_K := q_ld q_isR 1 (q_ld q_isR 0 (q_ld q_isI 3 (o_const 8 (q_bi q_Fadd (o_xiald 12 sc L (o_callV 1 12 fX12_picked (q_ld q_isR 2 (q_ld q_isR 0 (q_ld q_isI 3 (o_const 8 (q_bi q_Fadd (o_xiald 12 sc L (o_callV 1 13 fX13_picked (q_eq2 (bL_law_1341 sc w L j) o_none))))))))))))))
set_option maxRecDepth 20000 in
theorem kL_law_494 {sc : List Nat} {w L : Nat} (hZ : zO b e D A X) (hS : zS b e D A X sc w L) (j : Nat → rx_K) (hj : ∀ k pc, [18][k]? = some pc → rx_OK (zV b e D A X) mL_law 7 pc (j k)) : rx_OK (zV b e D A X) mL_law 7 494 (bL_law_494 sc w L j) := by
  unfold bL_law_494
  refine rx_by (e_ldR _ _) (s_aload_n hZ.1 dL_law_494 rfl ?_)
  refine rx_by (e_ldR _ _) (s_aload_n hZ.1 dL_law_495 rfl ?_)
  refine rx_by (e_ldI _ _) (s_iload_n hZ.1 dL_law_496 rfl ?_)
  refine s_iconst dL_law_497 (by decide +kernel) ?_
  refine rx_by (e_add _) (s_iadd dL_law_498 ?_)
  refine s_xiald (zs_S hS) dL_law_499 ?_
  refine s_callV hZ.1 (met_X12_picked hZ) (by decide) zy_X12_picked zcl12 zw2357 zw2358 (Or.inl zw2356) dL_law_500 ?_
  refine rx_by (e_ldR _ _) (s_aload_n hZ.1 dL_law_503 rfl ?_)
  refine rx_by (e_ldR _ _) (s_aload_n hZ.1 dL_law_504 rfl ?_)
  refine rx_by (e_ldI _ _) (s_iload_n hZ.1 dL_law_505 rfl ?_)
  refine s_iconst dL_law_506 (by decide +kernel) ?_
  refine rx_by (e_add _) (s_iadd dL_law_507 ?_)
  refine s_xiald (zs_S hS) dL_law_508 ?_
  refine s_callV hZ.1 (met_X13_picked hZ) (by decide) zy_X13_picked zcl13 zw3592 zw3593 (Or.inl zw3615) dL_law_509 ?_
  exact rx_by (e_eq2 _ _) (s_icmp_eq dL_law_512 (by decide) (kL_law_1341 hZ hS j hj) (s_none (pc := 515)))
noncomputable def bL_law_489 (sc : List Nat) (w L : Nat) (j : Nat → rx_K) : rx_K := q_eq2 (bL_law_1341 sc w L j) o_none
set_option maxRecDepth 20000 in
theorem kL_law_489 {sc : List Nat} {w L : Nat} (hZ : zO b e D A X) (hS : zS b e D A X sc w L) (j : Nat → rx_K) (hj : ∀ k pc, [18][k]? = some pc → rx_OK (zV b e D A X) mL_law 7 pc (j k)) : rx_OK (zV b e D A X) mL_law 7 489 (bL_law_489 sc w L j) := by
  unfold bL_law_489
  exact rx_by (e_eq2 _ _) (s_icmp_eq dL_law_489 (by decide) (kL_law_1341 hZ hS j hj) (s_none (pc := 492)))
noncomputable def bL_law_461 (sc : List Nat) (w L : Nat) (j : Nat → rx_K) : rx_K := q_ld q_isR 1 (q_ld q_isR 0 (q_ld q_isI 3 (o_const 8 (q_bi q_Fadd (o_xiald 12 sc L (q_ld q_isR 0 (q_ld q_isI 3 (o_const 16 (q_bi q_Fadd (o_xiald 12 sc L (o_callV 2 12 fX12_pick (q_ld q_isR 2 (q_ld q_isR 0 (q_ld q_isI 3 (o_const 8 (q_bi q_Fadd (o_xiald 12 sc L (q_ld q_isR 0 (q_ld q_isI 3 (o_const 16 (q_bi q_Fadd (o_xiald 12 sc L (o_callV 2 13 fX13_pick ((bL_law_489 sc w L j)))))))))))))))))))))))))
set_option maxRecDepth 20000 in
theorem kL_law_461 {sc : List Nat} {w L : Nat} (hZ : zO b e D A X) (hS : zS b e D A X sc w L) (j : Nat → rx_K) (hj : ∀ k pc, [18][k]? = some pc → rx_OK (zV b e D A X) mL_law 7 pc (j k)) : rx_OK (zV b e D A X) mL_law 7 461 (bL_law_461 sc w L j) := by
  unfold bL_law_461
  refine rx_by (e_ldR _ _) (s_aload_n hZ.1 dL_law_461 rfl ?_)
  refine rx_by (e_ldR _ _) (s_aload_n hZ.1 dL_law_462 rfl ?_)
  refine rx_by (e_ldI _ _) (s_iload_n hZ.1 dL_law_463 rfl ?_)
  refine s_iconst dL_law_464 (by decide +kernel) ?_
  refine rx_by (e_add _) (s_iadd dL_law_465 ?_)
  refine s_xiald (zs_S hS) dL_law_466 ?_
  refine rx_by (e_ldR _ _) (s_aload_n hZ.1 dL_law_467 rfl ?_)
  refine rx_by (e_ldI _ _) (s_iload_n hZ.1 dL_law_468 rfl ?_)
  refine s_iconst dL_law_469 (by decide +kernel) ?_
  refine rx_by (e_add _) (s_iadd dL_law_470 ?_)
  refine s_xiald (zs_S hS) dL_law_471 ?_
  refine s_callV hZ.1 (met_X12_pick hZ) (by decide) zy_X12_pick zcl12 zw2349 zw2350 (Or.inl zw2348) dL_law_472 ?_
  refine rx_by (e_ldR _ _) (s_aload_n hZ.1 dL_law_475 rfl ?_)
  refine rx_by (e_ldR _ _) (s_aload_n hZ.1 dL_law_476 rfl ?_)
  refine rx_by (e_ldI _ _) (s_iload_n hZ.1 dL_law_477 rfl ?_)
  refine s_iconst dL_law_478 (by decide +kernel) ?_
  refine rx_by (e_add _) (s_iadd dL_law_479 ?_)
  refine s_xiald (zs_S hS) dL_law_480 ?_
  refine rx_by (e_ldR _ _) (s_aload_n hZ.1 dL_law_481 rfl ?_)
  refine rx_by (e_ldI _ _) (s_iload_n hZ.1 dL_law_482 rfl ?_)
  refine s_iconst dL_law_483 (by decide +kernel) ?_
  refine rx_by (e_add _) (s_iadd dL_law_484 ?_)
  refine s_xiald (zs_S hS) dL_law_485 ?_
  refine s_callV hZ.1 (met_X13_pick hZ) (by decide) zy_X13_pick zcl13 zw3588 zw3589 (Or.inl zw3587) dL_law_486 ?_
  exact (kL_law_489 hZ hS j hj)
noncomputable def bL_law_438 (sc : List Nat) (w L : Nat) (j : Nat → rx_K) : rx_K := q_ld q_isR 1 (q_ld q_isR 0 (q_ld q_isI 3 (o_const 8 (q_bi q_Fadd (o_xiald 12 sc L (o_callV 1 12 fX12_builds (q_ld q_isR 2 (q_ld q_isR 0 (q_ld q_isI 3 (o_const 8 (q_bi q_Fadd (o_xiald 12 sc L (o_callV 1 13 fX13_builds (q_eq2 (bL_law_1341 sc w L j) o_none))))))))))))))
set_option maxRecDepth 20000 in
theorem kL_law_438 {sc : List Nat} {w L : Nat} (hZ : zO b e D A X) (hS : zS b e D A X sc w L) (j : Nat → rx_K) (hj : ∀ k pc, [18][k]? = some pc → rx_OK (zV b e D A X) mL_law 7 pc (j k)) : rx_OK (zV b e D A X) mL_law 7 438 (bL_law_438 sc w L j) := by
  unfold bL_law_438
  refine rx_by (e_ldR _ _) (s_aload_n hZ.1 dL_law_438 rfl ?_)
  refine rx_by (e_ldR _ _) (s_aload_n hZ.1 dL_law_439 rfl ?_)
  refine rx_by (e_ldI _ _) (s_iload_n hZ.1 dL_law_440 rfl ?_)
  refine s_iconst dL_law_441 (by decide +kernel) ?_
  refine rx_by (e_add _) (s_iadd dL_law_442 ?_)
  refine s_xiald (zs_S hS) dL_law_443 ?_
  refine s_callV hZ.1 (met_X12_builds hZ) (by decide) zy_X12_builds zcl12 zw2345 zw2346 (Or.inl zw2344) dL_law_444 ?_
  refine rx_by (e_ldR _ _) (s_aload_n hZ.1 dL_law_447 rfl ?_)
  refine rx_by (e_ldR _ _) (s_aload_n hZ.1 dL_law_448 rfl ?_)
  refine rx_by (e_ldI _ _) (s_iload_n hZ.1 dL_law_449 rfl ?_)
  refine s_iconst dL_law_450 (by decide +kernel) ?_
  refine rx_by (e_add _) (s_iadd dL_law_451 ?_)
  refine s_xiald (zs_S hS) dL_law_452 ?_
  refine s_callV hZ.1 (met_X13_builds hZ) (by decide) zy_X13_builds zcl13 zw3576 zw3577 (Or.inl zw3575) dL_law_453 ?_
  exact rx_by (e_eq2 _ _) (s_icmp_eq dL_law_456 (by decide) (kL_law_1341 hZ hS j hj) (s_none (pc := 459)))
noncomputable def bL_law_425 (sc : List Nat) (w L : Nat) (j : Nat → rx_K) : rx_K := q_ld q_isR 1 (o_callV 0 12 fX12_place (q_ld q_isR 2 (o_callV 0 13 fX13_place (q_eq2 (bL_law_1341 sc w L j) o_none))))
set_option maxRecDepth 20000 in
theorem kL_law_425 {sc : List Nat} {w L : Nat} (hZ : zO b e D A X) (hS : zS b e D A X sc w L) (j : Nat → rx_K) (hj : ∀ k pc, [18][k]? = some pc → rx_OK (zV b e D A X) mL_law 7 pc (j k)) : rx_OK (zV b e D A X) mL_law 7 425 (bL_law_425 sc w L j) := by
  unfold bL_law_425
  refine rx_by (e_ldR _ _) (s_aload_n hZ.1 dL_law_425 rfl ?_)
  refine s_callV hZ.1 (met_X12_place hZ) (by decide) zy_X12_place zcl12 zw2341 zw2342 (Or.inl zw2340) dL_law_426 ?_
  refine rx_by (e_ldR _ _) (s_aload_n hZ.1 dL_law_429 rfl ?_)
  refine s_callV hZ.1 (met_X13_place hZ) (by decide) zy_X13_place zcl13 zw3572 zw3573 (Or.inl zw3571) dL_law_430 ?_
  exact rx_by (e_eq2 _ _) (s_icmp_eq dL_law_433 (by decide) (kL_law_1341 hZ hS j hj) (s_none (pc := 436)))
noncomputable def bL_law_402 (sc : List Nat) (w L : Nat) (j : Nat → rx_K) : rx_K := q_ld q_isR 1 (q_ld q_isR 0 (q_ld q_isI 3 (o_const 8 (q_bi q_Fadd (o_xiald 12 sc L (o_callV 1 12 fX12_make (q_ld q_isR 2 (q_ld q_isR 0 (q_ld q_isI 3 (o_const 8 (q_bi q_Fadd (o_xiald 12 sc L (o_callV 1 13 fX13_make (q_eq2 (bL_law_1341 sc w L j) o_none))))))))))))))
set_option maxRecDepth 20000 in
theorem kL_law_402 {sc : List Nat} {w L : Nat} (hZ : zO b e D A X) (hS : zS b e D A X sc w L) (j : Nat → rx_K) (hj : ∀ k pc, [18][k]? = some pc → rx_OK (zV b e D A X) mL_law 7 pc (j k)) : rx_OK (zV b e D A X) mL_law 7 402 (bL_law_402 sc w L j) := by
  unfold bL_law_402
  refine rx_by (e_ldR _ _) (s_aload_n hZ.1 dL_law_402 rfl ?_)
  refine rx_by (e_ldR _ _) (s_aload_n hZ.1 dL_law_403 rfl ?_)
  refine rx_by (e_ldI _ _) (s_iload_n hZ.1 dL_law_404 rfl ?_)
  refine s_iconst dL_law_405 (by decide +kernel) ?_
  refine rx_by (e_add _) (s_iadd dL_law_406 ?_)
  refine s_xiald (zs_S hS) dL_law_407 ?_
  refine s_callV hZ.1 (met_X12_make hZ) (by decide) zy_X12_make zcl12 zw1706 zw1707 (Or.inl zw1705) dL_law_408 ?_
  refine rx_by (e_ldR _ _) (s_aload_n hZ.1 dL_law_411 rfl ?_)
  refine rx_by (e_ldR _ _) (s_aload_n hZ.1 dL_law_412 rfl ?_)
  refine rx_by (e_ldI _ _) (s_iload_n hZ.1 dL_law_413 rfl ?_)
  refine s_iconst dL_law_414 (by decide +kernel) ?_
  refine rx_by (e_add _) (s_iadd dL_law_415 ?_)
  refine s_xiald (zs_S hS) dL_law_416 ?_
  refine s_callV hZ.1 (met_X13_make hZ) (by decide) zy_X13_make zcl13 zw2927 zw2928 (Or.inl zw2926) dL_law_417 ?_
  exact rx_by (e_eq2 _ _) (s_icmp_eq dL_law_420 (by decide) (kL_law_1341 hZ hS j hj) (s_none (pc := 423)))
noncomputable def bL_law_379 (sc : List Nat) (w L : Nat) (j : Nat → rx_K) : rx_K := q_ld q_isR 1 (q_ld q_isR 0 (q_ld q_isI 3 (o_const 8 (q_bi q_Fadd (o_xiald 12 sc L (o_callV 1 12 fX12_octet (q_ld q_isR 2 (q_ld q_isR 0 (q_ld q_isI 3 (o_const 8 (q_bi q_Fadd (o_xiald 12 sc L (o_callV 1 13 fX13_octet (q_eq2 (bL_law_1341 sc w L j) o_none))))))))))))))
set_option maxRecDepth 20000 in
theorem kL_law_379 {sc : List Nat} {w L : Nat} (hZ : zO b e D A X) (hS : zS b e D A X sc w L) (j : Nat → rx_K) (hj : ∀ k pc, [18][k]? = some pc → rx_OK (zV b e D A X) mL_law 7 pc (j k)) : rx_OK (zV b e D A X) mL_law 7 379 (bL_law_379 sc w L j) := by
  unfold bL_law_379
  refine rx_by (e_ldR _ _) (s_aload_n hZ.1 dL_law_379 rfl ?_)
  refine rx_by (e_ldR _ _) (s_aload_n hZ.1 dL_law_380 rfl ?_)
  refine rx_by (e_ldI _ _) (s_iload_n hZ.1 dL_law_381 rfl ?_)
  refine s_iconst dL_law_382 (by decide +kernel) ?_
  refine rx_by (e_add _) (s_iadd dL_law_383 ?_)
  refine s_xiald (zs_S hS) dL_law_384 ?_
  refine s_callV hZ.1 (met_X12_octet hZ) (by decide) zy_X12_octet zcl12 zw1702 zw1703 (Or.inl zw1701) dL_law_385 ?_
  refine rx_by (e_ldR _ _) (s_aload_n hZ.1 dL_law_388 rfl ?_)
  refine rx_by (e_ldR _ _) (s_aload_n hZ.1 dL_law_389 rfl ?_)
  refine rx_by (e_ldI _ _) (s_iload_n hZ.1 dL_law_390 rfl ?_)
  refine s_iconst dL_law_391 (by decide +kernel) ?_
  refine rx_by (e_add _) (s_iadd dL_law_392 ?_)
  refine s_xiald (zs_S hS) dL_law_393 ?_
  refine s_callV hZ.1 (met_X13_octet hZ) (by decide) zy_X13_octet zcl13 zw2923 zw2924 (Or.inl zw2922) dL_law_394 ?_
  exact rx_by (e_eq2 _ _) (s_icmp_eq dL_law_397 (by decide) (kL_law_1341 hZ hS j hj) (s_none (pc := 400)))
noncomputable def bL_law_366 (sc : List Nat) (w L : Nat) (j : Nat → rx_K) : rx_K := q_ld q_isR 1 (o_callV 0 12 fX12_size (q_ld q_isR 2 (o_callV 0 13 fX13_size (q_eq2 (bL_law_1341 sc w L j) o_none))))
set_option maxRecDepth 20000 in
theorem kL_law_366 {sc : List Nat} {w L : Nat} (hZ : zO b e D A X) (hS : zS b e D A X sc w L) (j : Nat → rx_K) (hj : ∀ k pc, [18][k]? = some pc → rx_OK (zV b e D A X) mL_law 7 pc (j k)) : rx_OK (zV b e D A X) mL_law 7 366 (bL_law_366 sc w L j) := by
  unfold bL_law_366
  refine rx_by (e_ldR _ _) (s_aload_n hZ.1 dL_law_366 rfl ?_)
  refine s_callV hZ.1 (met_X12_size hZ) (by decide) zy_X12_size zcl12 zw1698 zw1699 (Or.inl zw1697) dL_law_367 ?_
  refine rx_by (e_ldR _ _) (s_aload_n hZ.1 dL_law_370 rfl ?_)
  refine s_callV hZ.1 (met_X13_size hZ) (by decide) zy_X13_size zcl13 zw2919 zw2920 (Or.inl zw2918) dL_law_371 ?_
  exact rx_by (e_eq2 _ _) (s_icmp_eq dL_law_374 (by decide) (kL_law_1341 hZ hS j hj) (s_none (pc := 377)))
noncomputable def bL_law_361 (sc : List Nat) (w L : Nat) (j : Nat → rx_K) : rx_K := q_eq2 (bL_law_1341 sc w L j) o_none
set_option maxRecDepth 20000 in
theorem kL_law_361 {sc : List Nat} {w L : Nat} (hZ : zO b e D A X) (hS : zS b e D A X sc w L) (j : Nat → rx_K) (hj : ∀ k pc, [18][k]? = some pc → rx_OK (zV b e D A X) mL_law 7 pc (j k)) : rx_OK (zV b e D A X) mL_law 7 361 (bL_law_361 sc w L j) := by
  unfold bL_law_361
  exact rx_by (e_eq2 _ _) (s_icmp_eq dL_law_361 (by decide) (kL_law_1341 hZ hS j hj) (s_none (pc := 364)))
noncomputable def bL_law_333 (sc : List Nat) (w L : Nat) (j : Nat → rx_K) : rx_K := q_ld q_isR 1 (q_ld q_isR 0 (q_ld q_isI 3 (o_const 8 (q_bi q_Fadd (o_xiald 12 sc L (q_ld q_isR 0 (q_ld q_isI 3 (o_const 16 (q_bi q_Fadd (o_xiald 12 sc L (o_callV 2 12 fX12_text (q_ld q_isR 2 (q_ld q_isR 0 (q_ld q_isI 3 (o_const 8 (q_bi q_Fadd (o_xiald 12 sc L (q_ld q_isR 0 (q_ld q_isI 3 (o_const 16 (q_bi q_Fadd (o_xiald 12 sc L (o_callV 2 13 fX13_text ((bL_law_361 sc w L j)))))))))))))))))))))))))
set_option maxRecDepth 20000 in
theorem kL_law_333 {sc : List Nat} {w L : Nat} (hZ : zO b e D A X) (hS : zS b e D A X sc w L) (j : Nat → rx_K) (hj : ∀ k pc, [18][k]? = some pc → rx_OK (zV b e D A X) mL_law 7 pc (j k)) : rx_OK (zV b e D A X) mL_law 7 333 (bL_law_333 sc w L j) := by
  unfold bL_law_333
  refine rx_by (e_ldR _ _) (s_aload_n hZ.1 dL_law_333 rfl ?_)
  refine rx_by (e_ldR _ _) (s_aload_n hZ.1 dL_law_334 rfl ?_)
  refine rx_by (e_ldI _ _) (s_iload_n hZ.1 dL_law_335 rfl ?_)
  refine s_iconst dL_law_336 (by decide +kernel) ?_
  refine rx_by (e_add _) (s_iadd dL_law_337 ?_)
  refine s_xiald (zs_S hS) dL_law_338 ?_
  refine rx_by (e_ldR _ _) (s_aload_n hZ.1 dL_law_339 rfl ?_)
  refine rx_by (e_ldI _ _) (s_iload_n hZ.1 dL_law_340 rfl ?_)
  refine s_iconst dL_law_341 (by decide +kernel) ?_
  refine rx_by (e_add _) (s_iadd dL_law_342 ?_)
  refine s_xiald (zs_S hS) dL_law_343 ?_
  refine s_callV hZ.1 (met_X12_text hZ) (by decide) zy_X12_text zcl12 zw1694 zw1695 (Or.inl zw1693) dL_law_344 ?_
  refine rx_by (e_ldR _ _) (s_aload_n hZ.1 dL_law_347 rfl ?_)
  refine rx_by (e_ldR _ _) (s_aload_n hZ.1 dL_law_348 rfl ?_)
  refine rx_by (e_ldI _ _) (s_iload_n hZ.1 dL_law_349 rfl ?_)
  refine s_iconst dL_law_350 (by decide +kernel) ?_
  refine rx_by (e_add _) (s_iadd dL_law_351 ?_)
  refine s_xiald (zs_S hS) dL_law_352 ?_
  refine rx_by (e_ldR _ _) (s_aload_n hZ.1 dL_law_353 rfl ?_)
  refine rx_by (e_ldI _ _) (s_iload_n hZ.1 dL_law_354 rfl ?_)
  refine s_iconst dL_law_355 (by decide +kernel) ?_
  refine rx_by (e_add _) (s_iadd dL_law_356 ?_)
  refine s_xiald (zs_S hS) dL_law_357 ?_
  refine s_callV hZ.1 (met_X13_text hZ) (by decide) zy_X13_text zcl13 zw3580 zw3581 (Or.inl zw3579) dL_law_358 ?_
  exact (kL_law_361 hZ hS j hj)
noncomputable def bL_law_316 (sc : List Nat) (w L : Nat) (j : Nat → rx_K) : rx_K := q_ld q_isI 3 (o_const 16 (q_bi q_Fadd (o_xiald 12 sc L (q_ld q_isR 0 (q_ld q_isI 3 (o_const 24 (q_bi q_Fadd (o_xiald 12 sc L (o_callV 3 13 fX13_splice (q_eq2 (bL_law_1341 sc w L j) o_none))))))))))
set_option maxRecDepth 20000 in
theorem kL_law_316 {sc : List Nat} {w L : Nat} (hZ : zO b e D A X) (hS : zS b e D A X sc w L) (j : Nat → rx_K) (hj : ∀ k pc, [18][k]? = some pc → rx_OK (zV b e D A X) mL_law 7 pc (j k)) : rx_OK (zV b e D A X) mL_law 7 316 (bL_law_316 sc w L j) := by
  unfold bL_law_316
  refine rx_by (e_ldI _ _) (s_iload_n hZ.1 dL_law_316 rfl ?_)
  refine s_iconst dL_law_317 (by decide +kernel) ?_
  refine rx_by (e_add _) (s_iadd dL_law_318 ?_)
  refine s_xiald (zs_S hS) dL_law_319 ?_
  refine rx_by (e_ldR _ _) (s_aload_n hZ.1 dL_law_320 rfl ?_)
  refine rx_by (e_ldI _ _) (s_iload_n hZ.1 dL_law_321 rfl ?_)
  refine s_iconst dL_law_322 (by decide +kernel) ?_
  refine rx_by (e_add _) (s_iadd dL_law_323 ?_)
  refine s_xiald (zs_S hS) dL_law_324 ?_
  refine s_callV hZ.1 (met_X13_splice hZ) (by decide) zy_X13_splice zcl13 zw2915 zw2916 (Or.inl zw2914) dL_law_325 ?_
  exact rx_by (e_eq2 _ _) (s_icmp_eq dL_law_328 (by decide) (kL_law_1341 hZ hS j hj) (s_none (pc := 331)))
noncomputable def bL_law_290 (sc : List Nat) (w L : Nat) (j : Nat → rx_K) : rx_K := q_ld q_isR 1 (q_ld q_isR 0 (q_ld q_isI 3 (o_const 8 (q_bi q_Fadd (o_xiald 12 sc L (q_ld q_isR 0 (q_ld q_isI 3 (o_const 16 (q_bi q_Fadd (o_xiald 12 sc L (q_ld q_isR 0 (q_ld q_isI 3 (o_const 24 (q_bi q_Fadd (o_xiald 12 sc L (o_callV 3 12 fX12_splice (q_ld q_isR 2 (q_ld q_isR 0 (q_ld q_isI 3 (o_const 8 (q_bi q_Fadd (o_xiald 12 sc L (q_ld q_isR 0 ((bL_law_316 sc w L j)))))))))))))))))))))))))
set_option maxRecDepth 20000 in
theorem kL_law_290 {sc : List Nat} {w L : Nat} (hZ : zO b e D A X) (hS : zS b e D A X sc w L) (j : Nat → rx_K) (hj : ∀ k pc, [18][k]? = some pc → rx_OK (zV b e D A X) mL_law 7 pc (j k)) : rx_OK (zV b e D A X) mL_law 7 290 (bL_law_290 sc w L j) := by
  unfold bL_law_290
  refine rx_by (e_ldR _ _) (s_aload_n hZ.1 dL_law_290 rfl ?_)
  refine rx_by (e_ldR _ _) (s_aload_n hZ.1 dL_law_291 rfl ?_)
  refine rx_by (e_ldI _ _) (s_iload_n hZ.1 dL_law_292 rfl ?_)
  refine s_iconst dL_law_293 (by decide +kernel) ?_
  refine rx_by (e_add _) (s_iadd dL_law_294 ?_)
  refine s_xiald (zs_S hS) dL_law_295 ?_
  refine rx_by (e_ldR _ _) (s_aload_n hZ.1 dL_law_296 rfl ?_)
  refine rx_by (e_ldI _ _) (s_iload_n hZ.1 dL_law_297 rfl ?_)
  refine s_iconst dL_law_298 (by decide +kernel) ?_
  refine rx_by (e_add _) (s_iadd dL_law_299 ?_)
  refine s_xiald (zs_S hS) dL_law_300 ?_
  refine rx_by (e_ldR _ _) (s_aload_n hZ.1 dL_law_301 rfl ?_)
  refine rx_by (e_ldI _ _) (s_iload_n hZ.1 dL_law_302 rfl ?_)
  refine s_iconst dL_law_303 (by decide +kernel) ?_
  refine rx_by (e_add _) (s_iadd dL_law_304 ?_)
  refine s_xiald (zs_S hS) dL_law_305 ?_
  refine s_callV hZ.1 (met_X12_splice hZ) (by decide) zy_X12_splice zcl12 zw1680 zw1681 (Or.inl zw1679) dL_law_306 ?_
  refine rx_by (e_ldR _ _) (s_aload_n hZ.1 dL_law_309 rfl ?_)
  refine rx_by (e_ldR _ _) (s_aload_n hZ.1 dL_law_310 rfl ?_)
  refine rx_by (e_ldI _ _) (s_iload_n hZ.1 dL_law_311 rfl ?_)
  refine s_iconst dL_law_312 (by decide +kernel) ?_
  refine rx_by (e_add _) (s_iadd dL_law_313 ?_)
  refine s_xiald (zs_S hS) dL_law_314 ?_
  refine rx_by (e_ldR _ _) (s_aload_n hZ.1 dL_law_315 rfl ?_)
  exact (kL_law_316 hZ hS j hj)
noncomputable def bL_law_267 (sc : List Nat) (w L : Nat) (j : Nat → rx_K) : rx_K := q_ld q_isR 1 (q_ld q_isR 0 (q_ld q_isI 3 (o_const 8 (q_bi q_Fadd (o_xiald 12 sc L (o_callV 1 12 fX12_cut (q_ld q_isR 2 (q_ld q_isR 0 (q_ld q_isI 3 (o_const 8 (q_bi q_Fadd (o_xiald 12 sc L (o_callV 1 13 fX13_cut (q_eq2 (bL_law_1341 sc w L j) o_none))))))))))))))
set_option maxRecDepth 20000 in
theorem kL_law_267 {sc : List Nat} {w L : Nat} (hZ : zO b e D A X) (hS : zS b e D A X sc w L) (j : Nat → rx_K) (hj : ∀ k pc, [18][k]? = some pc → rx_OK (zV b e D A X) mL_law 7 pc (j k)) : rx_OK (zV b e D A X) mL_law 7 267 (bL_law_267 sc w L j) := by
  unfold bL_law_267
  refine rx_by (e_ldR _ _) (s_aload_n hZ.1 dL_law_267 rfl ?_)
  refine rx_by (e_ldR _ _) (s_aload_n hZ.1 dL_law_268 rfl ?_)
  refine rx_by (e_ldI _ _) (s_iload_n hZ.1 dL_law_269 rfl ?_)
  refine s_iconst dL_law_270 (by decide +kernel) ?_
  refine rx_by (e_add _) (s_iadd dL_law_271 ?_)
  refine s_xiald (zs_S hS) dL_law_272 ?_
  refine s_callV hZ.1 (met_X12_cut hZ) (by decide) zy_X12_cut zcl12 zw1676 zw1677 (Or.inl zw1675) dL_law_273 ?_
  refine rx_by (e_ldR _ _) (s_aload_n hZ.1 dL_law_276 rfl ?_)
  refine rx_by (e_ldR _ _) (s_aload_n hZ.1 dL_law_277 rfl ?_)
  refine rx_by (e_ldI _ _) (s_iload_n hZ.1 dL_law_278 rfl ?_)
  refine s_iconst dL_law_279 (by decide +kernel) ?_
  refine rx_by (e_add _) (s_iadd dL_law_280 ?_)
  refine s_xiald (zs_S hS) dL_law_281 ?_
  refine s_callV hZ.1 (met_X13_cut hZ) (by decide) zy_X13_cut zcl13 zw2911 zw2912 (Or.inl zw2910) dL_law_282 ?_
  exact rx_by (e_eq2 _ _) (s_icmp_eq dL_law_285 (by decide) (kL_law_1341 hZ hS j hj) (s_none (pc := 288)))
noncomputable def bL_law_254 (sc : List Nat) (w L : Nat) (j : Nat → rx_K) : rx_K := q_ld q_isR 0 (q_ld q_isI 3 (o_const 40 (q_bi q_Fadd (o_xiald 12 sc L (o_callV 5 13 fX13_feed (q_eq2 (bL_law_1341 sc w L j) o_none))))))
set_option maxRecDepth 20000 in
theorem kL_law_254 {sc : List Nat} {w L : Nat} (hZ : zO b e D A X) (hS : zS b e D A X sc w L) (j : Nat → rx_K) (hj : ∀ k pc, [18][k]? = some pc → rx_OK (zV b e D A X) mL_law 7 pc (j k)) : rx_OK (zV b e D A X) mL_law 7 254 (bL_law_254 sc w L j) := by
  unfold bL_law_254
  refine rx_by (e_ldR _ _) (s_aload_n hZ.1 dL_law_254 rfl ?_)
  refine rx_by (e_ldI _ _) (s_iload_n hZ.1 dL_law_255 rfl ?_)
  refine s_iconst dL_law_256 (by decide +kernel) ?_
  refine rx_by (e_add _) (s_iadd dL_law_257 ?_)
  refine s_xiald (zs_S hS) dL_law_258 ?_
  refine s_callV hZ.1 (met_X13_feed hZ) (by decide) zy_X13_feed zcl13 zw2902 zw2903 (Or.inl zw2901) dL_law_259 ?_
  exact rx_by (e_eq2 _ _) (s_icmp_eq dL_law_262 (by decide) (kL_law_1341 hZ hS j hj) (s_none (pc := 265)))
noncomputable def bL_law_228 (sc : List Nat) (w L : Nat) (j : Nat → rx_K) : rx_K := q_bi q_Fadd (o_xiald 12 sc L (o_callV 5 12 fX12_feed (q_ld q_isR 2 (q_ld q_isR 0 (q_ld q_isI 3 (o_const 8 (q_bi q_Fadd (o_xiald 12 sc L (q_ld q_isR 0 (q_ld q_isI 3 (o_const 16 (q_bi q_Fadd (o_xiald 12 sc L (q_ld q_isR 0 (q_ld q_isI 3 (o_const 24 (q_bi q_Fadd (o_xiald 12 sc L (q_ld q_isR 0 (q_ld q_isI 3 (o_const 32 (q_bi q_Fadd (o_xiald 12 sc L ((bL_law_254 sc w L j)))))))))))))))))))))))))
set_option maxRecDepth 20000 in
theorem kL_law_228 {sc : List Nat} {w L : Nat} (hZ : zO b e D A X) (hS : zS b e D A X sc w L) (j : Nat → rx_K) (hj : ∀ k pc, [18][k]? = some pc → rx_OK (zV b e D A X) mL_law 7 pc (j k)) : rx_OK (zV b e D A X) mL_law 7 228 (bL_law_228 sc w L j) := by
  unfold bL_law_228
  refine rx_by (e_add _) (s_iadd dL_law_228 ?_)
  refine s_xiald (zs_S hS) dL_law_229 ?_
  refine s_callV hZ.1 (met_X12_feed hZ) (by decide) zy_X12_feed zcl12 zw1668 zw1669 (Or.inl zw1667) dL_law_230 ?_
  refine rx_by (e_ldR _ _) (s_aload_n hZ.1 dL_law_233 rfl ?_)
  refine rx_by (e_ldR _ _) (s_aload_n hZ.1 dL_law_234 rfl ?_)
  refine rx_by (e_ldI _ _) (s_iload_n hZ.1 dL_law_235 rfl ?_)
  refine s_iconst dL_law_236 (by decide +kernel) ?_
  refine rx_by (e_add _) (s_iadd dL_law_237 ?_)
  refine s_xiald (zs_S hS) dL_law_238 ?_
  refine rx_by (e_ldR _ _) (s_aload_n hZ.1 dL_law_239 rfl ?_)
  refine rx_by (e_ldI _ _) (s_iload_n hZ.1 dL_law_240 rfl ?_)
  refine s_iconst dL_law_241 (by decide +kernel) ?_
  refine rx_by (e_add _) (s_iadd dL_law_242 ?_)
  refine s_xiald (zs_S hS) dL_law_243 ?_
  refine rx_by (e_ldR _ _) (s_aload_n hZ.1 dL_law_244 rfl ?_)
  refine rx_by (e_ldI _ _) (s_iload_n hZ.1 dL_law_245 rfl ?_)
  refine s_iconst dL_law_246 (by decide +kernel) ?_
  refine rx_by (e_add _) (s_iadd dL_law_247 ?_)
  refine s_xiald (zs_S hS) dL_law_248 ?_
  refine rx_by (e_ldR _ _) (s_aload_n hZ.1 dL_law_249 rfl ?_)
  refine rx_by (e_ldI _ _) (s_iload_n hZ.1 dL_law_250 rfl ?_)
  refine s_iconst dL_law_251 (by decide +kernel) ?_
  refine rx_by (e_add _) (s_iadd dL_law_252 ?_)
  refine s_xiald (zs_S hS) dL_law_253 ?_
  exact (kL_law_254 hZ hS j hj)
noncomputable def bL_law_204 (sc : List Nat) (w L : Nat) (j : Nat → rx_K) : rx_K := q_ld q_isR 1 (q_ld q_isR 0 (q_ld q_isI 3 (o_const 8 (q_bi q_Fadd (o_xiald 12 sc L (q_ld q_isR 0 (q_ld q_isI 3 (o_const 16 (q_bi q_Fadd (o_xiald 12 sc L (q_ld q_isR 0 (q_ld q_isI 3 (o_const 24 (q_bi q_Fadd (o_xiald 12 sc L (q_ld q_isR 0 (q_ld q_isI 3 (o_const 32 (q_bi q_Fadd (o_xiald 12 sc L (q_ld q_isR 0 (q_ld q_isI 3 (o_const 40 ((bL_law_228 sc w L j)))))))))))))))))))))))))
set_option maxRecDepth 20000 in
theorem kL_law_204 {sc : List Nat} {w L : Nat} (hZ : zO b e D A X) (hS : zS b e D A X sc w L) (j : Nat → rx_K) (hj : ∀ k pc, [18][k]? = some pc → rx_OK (zV b e D A X) mL_law 7 pc (j k)) : rx_OK (zV b e D A X) mL_law 7 204 (bL_law_204 sc w L j) := by
  unfold bL_law_204
  refine rx_by (e_ldR _ _) (s_aload_n hZ.1 dL_law_204 rfl ?_)
  refine rx_by (e_ldR _ _) (s_aload_n hZ.1 dL_law_205 rfl ?_)
  refine rx_by (e_ldI _ _) (s_iload_n hZ.1 dL_law_206 rfl ?_)
  refine s_iconst dL_law_207 (by decide +kernel) ?_
  refine rx_by (e_add _) (s_iadd dL_law_208 ?_)
  refine s_xiald (zs_S hS) dL_law_209 ?_
  refine rx_by (e_ldR _ _) (s_aload_n hZ.1 dL_law_210 rfl ?_)
  refine rx_by (e_ldI _ _) (s_iload_n hZ.1 dL_law_211 rfl ?_)
  refine s_iconst dL_law_212 (by decide +kernel) ?_
  refine rx_by (e_add _) (s_iadd dL_law_213 ?_)
  refine s_xiald (zs_S hS) dL_law_214 ?_
  refine rx_by (e_ldR _ _) (s_aload_n hZ.1 dL_law_215 rfl ?_)
  refine rx_by (e_ldI _ _) (s_iload_n hZ.1 dL_law_216 rfl ?_)
  refine s_iconst dL_law_217 (by decide +kernel) ?_
  refine rx_by (e_add _) (s_iadd dL_law_218 ?_)
  refine s_xiald (zs_S hS) dL_law_219 ?_
  refine rx_by (e_ldR _ _) (s_aload_n hZ.1 dL_law_220 rfl ?_)
  refine rx_by (e_ldI _ _) (s_iload_n hZ.1 dL_law_221 rfl ?_)
  refine s_iconst dL_law_222 (by decide +kernel) ?_
  refine rx_by (e_add _) (s_iadd dL_law_223 ?_)
  refine s_xiald (zs_S hS) dL_law_224 ?_
  refine rx_by (e_ldR _ _) (s_aload_n hZ.1 dL_law_225 rfl ?_)
  refine rx_by (e_ldI _ _) (s_iload_n hZ.1 dL_law_226 rfl ?_)
  refine s_iconst dL_law_227 (by decide +kernel) ?_
  exact (kL_law_228 hZ hS j hj)
noncomputable def bL_law_27 (sc : List Nat) (w L : Nat) (j : Nat → rx_K) : rx_K := q_ld q_isR 0 (q_ld q_isI 3 (o_s63 12 w L (o_sw 0 [204, 267, 290, 333, 366, 379, 402, 425, 438, 461, 494, 517, 550, 593, 646, 679, 732, 775, 818, 831, 854, 867, 900, 913, 926, 969, 1002, 1045, 1088, 1101, 1144, 1157, 1170, 1193, 1216, 1239, 1262, 1285, 1308] 1341 (rx_pk [(204, (bL_law_204 sc w L j)), (267, (bL_law_267 sc w L j)), (290, (bL_law_290 sc w L j)), (333, (bL_law_333 sc w L j)), (366, (bL_law_366 sc w L j)), (379, (bL_law_379 sc w L j)), (402, (bL_law_402 sc w L j)), (425, (bL_law_425 sc w L j)), (438, (bL_law_438 sc w L j)), (461, (bL_law_461 sc w L j)), (494, (bL_law_494 sc w L j)), (517, (bL_law_517 sc w L j)), (550, (bL_law_550 sc w L j)), (593, (bL_law_593 sc w L j)), (646, (bL_law_646 sc w L j)), (679, (bL_law_679 sc w L j)), (732, (bL_law_732 sc w L j)), (775, (bL_law_775 sc w L j)), (818, (bL_law_818 sc w L j)), (831, (bL_law_831 sc w L j)), (854, (bL_law_854 sc w L j)), (867, (bL_law_867 sc w L j)), (900, (bL_law_900 sc w L j)), (913, (bL_law_913 sc w L j)), (926, (bL_law_926 sc w L j)), (969, (bL_law_969 sc w L j)), (1002, (bL_law_1002 sc w L j)), (1045, (bL_law_1045 sc w L j)), (1088, (bL_law_1088 sc w L j)), (1101, (bL_law_1101 sc w L j)), (1144, (bL_law_1144 sc w L j)), (1157, (bL_law_1157 sc w L j)), (1170, (bL_law_1170 sc w L j)), (1193, (bL_law_1193 sc w L j)), (1216, (bL_law_1216 sc w L j)), (1239, (bL_law_1239 sc w L j)), (1262, (bL_law_1262 sc w L j)), (1285, (bL_law_1285 sc w L j)), (1308, (bL_law_1308 sc w L j)), (1341, (bL_law_1341 sc w L j))]))))
set_option maxRecDepth 20000 in
theorem kL_law_27 {sc : List Nat} {w L : Nat} (hZ : zO b e D A X) (hS : zS b e D A X sc w L) (j : Nat → rx_K) (hj : ∀ k pc, [18][k]? = some pc → rx_OK (zV b e D A X) mL_law 7 pc (j k)) : rx_OK (zV b e D A X) mL_law 7 27 (bL_law_27 sc w L j) := by
  unfold bL_law_27
  refine rx_by (e_ldR _ _) (s_aload_n hZ.1 dL_law_27 rfl ?_)
  refine rx_by (e_ldI _ _) (s_iload_n hZ.1 dL_law_28 rfl ?_)
  refine s_s63 (zs_W hS) dL_law_29 dL_law_30 dL_law_32 ?_
  exact s_sw dL_law_33 (by decide) (by decide) (by decide) (by decide) (by decide) (fun b _ => (rx_pk_ok (List.forall_mem_cons.mpr ⟨(kL_law_204 hZ hS j hj), List.forall_mem_cons.mpr ⟨(kL_law_267 hZ hS j hj), List.forall_mem_cons.mpr ⟨(kL_law_290 hZ hS j hj), List.forall_mem_cons.mpr ⟨(kL_law_333 hZ hS j hj), List.forall_mem_cons.mpr ⟨(kL_law_366 hZ hS j hj), List.forall_mem_cons.mpr ⟨(kL_law_379 hZ hS j hj), List.forall_mem_cons.mpr ⟨(kL_law_402 hZ hS j hj), List.forall_mem_cons.mpr ⟨(kL_law_425 hZ hS j hj), List.forall_mem_cons.mpr ⟨(kL_law_438 hZ hS j hj), List.forall_mem_cons.mpr ⟨(kL_law_461 hZ hS j hj), List.forall_mem_cons.mpr ⟨(kL_law_494 hZ hS j hj), List.forall_mem_cons.mpr ⟨(kL_law_517 hZ hS j hj), List.forall_mem_cons.mpr ⟨(kL_law_550 hZ hS j hj), List.forall_mem_cons.mpr ⟨(kL_law_593 hZ hS j hj), List.forall_mem_cons.mpr ⟨(kL_law_646 hZ hS j hj), List.forall_mem_cons.mpr ⟨(kL_law_679 hZ hS j hj), List.forall_mem_cons.mpr ⟨(kL_law_732 hZ hS j hj), List.forall_mem_cons.mpr ⟨(kL_law_775 hZ hS j hj), List.forall_mem_cons.mpr ⟨(kL_law_818 hZ hS j hj), List.forall_mem_cons.mpr ⟨(kL_law_831 hZ hS j hj), List.forall_mem_cons.mpr ⟨(kL_law_854 hZ hS j hj), List.forall_mem_cons.mpr ⟨(kL_law_867 hZ hS j hj), List.forall_mem_cons.mpr ⟨(kL_law_900 hZ hS j hj), List.forall_mem_cons.mpr ⟨(kL_law_913 hZ hS j hj), List.forall_mem_cons.mpr ⟨(kL_law_926 hZ hS j hj), List.forall_mem_cons.mpr ⟨(kL_law_969 hZ hS j hj), List.forall_mem_cons.mpr ⟨(kL_law_1002 hZ hS j hj), List.forall_mem_cons.mpr ⟨(kL_law_1045 hZ hS j hj), List.forall_mem_cons.mpr ⟨(kL_law_1088 hZ hS j hj), List.forall_mem_cons.mpr ⟨(kL_law_1101 hZ hS j hj), List.forall_mem_cons.mpr ⟨(kL_law_1144 hZ hS j hj), List.forall_mem_cons.mpr ⟨(kL_law_1157 hZ hS j hj), List.forall_mem_cons.mpr ⟨(kL_law_1170 hZ hS j hj), List.forall_mem_cons.mpr ⟨(kL_law_1193 hZ hS j hj), List.forall_mem_cons.mpr ⟨(kL_law_1216 hZ hS j hj), List.forall_mem_cons.mpr ⟨(kL_law_1239 hZ hS j hj), List.forall_mem_cons.mpr ⟨(kL_law_1262 hZ hS j hj), List.forall_mem_cons.mpr ⟨(kL_law_1285 hZ hS j hj), List.forall_mem_cons.mpr ⟨(kL_law_1308 hZ hS j hj), List.forall_mem_cons.mpr ⟨(kL_law_1341 hZ hS j hj), fun _ h => absurd h List.not_mem_nil⟩⟩⟩⟩⟩⟩⟩⟩⟩⟩⟩⟩⟩⟩⟩⟩⟩⟩⟩⟩⟩⟩⟩⟩⟩⟩⟩⟩⟩⟩⟩⟩⟩⟩⟩⟩⟩⟩⟩⟩)) b)
noncomputable def bL_law_18 (sc : List Nat) (w L : Nat) (j : Nat → rx_K) : rx_K := q_ld q_isI 3 (q_ld q_isR 0 (o_xv 12 (8 * L) (o_const 48 (q_bi q_Fsub (q_gt2 (bL_law_1347 sc w L j) (bL_law_27 sc w L j))))))
set_option maxRecDepth 20000 in
theorem kL_law_18 {sc : List Nat} {w L : Nat} (hZ : zO b e D A X) (hS : zS b e D A X sc w L) (j : Nat → rx_K) (hj : ∀ k pc, [18][k]? = some pc → rx_OK (zV b e D A X) mL_law 7 pc (j k)) : rx_OK (zV b e D A X) mL_law 7 18 (bL_law_18 sc w L j) := by
  unfold bL_law_18
  refine rx_by (e_ldI _ _) (s_iload_n hZ.1 dL_law_18 rfl ?_)
  refine rx_by (e_ldR _ _) (s_aload_n hZ.1 dL_law_19 rfl ?_)
  refine s_xalen (n := L) (zs_T hS) dL_law_20 ?_
  refine s_bipush dL_law_21 (by decide +kernel) ?_
  refine rx_by (e_sub _) (s_isub dL_law_23 ?_)
  exact rx_by (e_gt2 _ _) (s_icmp_gt dL_law_24 (by decide) (kL_law_1347 hZ hS j hj) (kL_law_27 hZ hS j hj))
noncomputable def bL_law_16 (sc : List Nat) (w L : Nat) (j : Nat → rx_K) : rx_K := o_const 0 (q_st q_isI 3 ((bL_law_18 sc w L j)))
set_option maxRecDepth 20000 in
theorem kL_law_16 {sc : List Nat} {w L : Nat} (hZ : zO b e D A X) (hS : zS b e D A X sc w L) (j : Nat → rx_K) (hj : ∀ k pc, [18][k]? = some pc → rx_OK (zV b e D A X) mL_law 7 pc (j k)) : rx_OK (zV b e D A X) mL_law 7 16 (bL_law_16 sc w L j) := by
  unfold bL_law_16
  refine s_iconst dL_law_16 (by decide +kernel) ?_
  refine rx_by (e_stI _ _) (s_istore_n hZ.1 dL_law_17 rfl (Nat.le_of_ble_eq_true rfl) ?_)
  exact (kL_law_18 hZ hS j hj)
noncomputable def hL_law (sc : List Nat) (w L : Nat) (j : Nat → rx_K) : List rx_K := [bL_law_18 sc w L j]
theorem lL_law {sc : List Nat} {w L : Nat} (hZ : zO b e D A X) (hS : zS b e D A X sc w L) : ∀ n k pc, [18][k]? = some pc → rx_OK (zV b e D A X) mL_law 7 pc (rx_J (hL_law sc w L) n k) := rx_loop fun j hj k pc h => by
  match k, h with
  | 0, h =>
    have e9 := Option.some.inj (show some 18 = some pc from h)
    subst e9
    exact kL_law_18 hZ hS j hj
  | _ + 1, h => exact absurd h (by simp)
noncomputable def fL (sc : List Nat) (w L : Nat) : rx_K := bL_law_16 sc w L (rx_J (hL_law sc w L) 1000)
theorem okL {sc : List Nat} {w L : Nat} (hZ : zO b e D A X) (hS : zS b e D A X sc w L) : rx_OK (zV b e D A X) mL_law 7 16 (fL sc w L) := kL_law_16 hZ hS _ (lL_law hZ hS 1000)
noncomputable def fL0 (iv : List (Int × Int)) (sc : List Nat) (w L : Nat) : rx_K := q_new 12 21 zfs12 (q_dup (o_callI 0 fX12_g0 (q_st q_isR 1 (q_new 13 180 zfs13 (q_dup (o_callI 0 fX13_init (q_st q_isR 2 (o_know iv (fL sc w L)))))))))
theorem okL0 {iv : List (Int × Int)} {sc : List Nat} {w L : Nat} (hZ : zO b e D A X) (hS : zS b e D A X sc w L) (hiv : ∀ (k : Nat) (lo hi : Int), iv[k]? = some (lo, hi) → k < 5 ∧ ∃ v, e k = .int v ∧ lo ≤ v.toInt ∧ v.toInt ≤ hi) : rx_OK (zV b e D A X) mL_law 7 0 (fL0 iv sc w L) := by
  unfold fL0
  refine rx_by (e_new _ _ _ _) (s_new zcl12 zfk12 dL_law_0 zw434 zw435 zw413 ?_)
  refine rx_by (e_dup _) (s_dup hZ.1 dL_law_3 ?_)
  refine s_callI hZ.1 (met_X12_g0 hZ) (by decide) zy_X12_init rfl rfl zw437 (Or.inl zw436) dL_law_4 ?_
  refine rx_by (e_stR _ _) (s_astore_n hZ.1 dL_law_7 rfl (Nat.le_of_ble_eq_true rfl) ?_)
  refine rx_by (e_new _ _ _ _) (s_new zcl13 zfk13 dL_law_8 zw4104 zw2908 zw431 ?_)
  refine rx_by (e_dup _) (s_dup hZ.1 dL_law_11 ?_)
  refine s_callI hZ.1 (met_X13_init hZ) (by decide) zy_X13_init rfl rfl zw4106 (Or.inl zw4105) dL_law_12 ?_
  refine rx_by (e_stR _ _) (s_astore_n hZ.1 dL_law_15 rfl (Nat.le_of_ble_eq_true rfl) ?_)
  exact s_know hiv (okL hZ hS)
end ZL

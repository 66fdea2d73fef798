section ZL
variable {b : Nat} {e : Nat → Value} {D : va_G} {A : Nat → ClassId} {X : State → Prop}
def zS (b : Nat) (e : Nat → Value) (D : va_G) (A : Nat → ClassId) (X : State → Prop) (sc : List Nat) : Prop := (∀ s, X s → ∃ q, e 500 = .ref q ∧ va_T .int q sc.length (fun j => rx_v (zV b e D A X) (rx_nth sc j 7)) (fun q => b ≤ q) s s.heap) ∧ sc.length < 2147483648
abbrev mL_law : rx_M := (R_law, cL_law, 4, (some .boolean), false)
noncomputable def vL_law_1347 (sc : List Nat) (j : Nat → rx_K) : rx_K := o_const 8 (o_ret1 rx_isZ)
set_option maxRecDepth 20000 in
theorem wL_law_1347 {sc : List Nat} (hZ : zO b e D A X) (hS : zS b e D A X sc) (j : Nat → rx_K) (hj : ∀ k pc, [18][k]? = some pc → rx_OK (zV b e D A X) mL_law 1235 pc (j k)) : rx_OK (zV b e D A X) mL_law 1235 1347 (vL_law_1347 sc j) := by
  unfold vL_law_1347
  refine s_iconst dL_law_1347 (by decide +kernel) ?_
  exact s_zret rx_z_ok rfl dL_law_1348
noncomputable def vL_law_1341 (sc : List Nat) (j : Nat → rx_K) : rx_K := o_inc 3 (6) ((j 0))
set_option maxRecDepth 20000 in
theorem wL_law_1341 {sc : List Nat} (hZ : zO b e D A X) (hS : zS b e D A X sc) (j : Nat → rx_K) (hj : ∀ k pc, [18][k]? = some pc → rx_OK (zV b e D A X) mL_law 1235 pc (j k)) : rx_OK (zV b e D A X) mL_law 1235 1341 (vL_law_1341 sc j) := by
  unfold vL_law_1341
  refine s_iinc hZ.1 dL_law_1341 (Nat.le_of_ble_eq_true rfl) ?_
  exact s_goto dL_law_1344 (by decide) (hj 0 18 rfl)
noncomputable def vL_law_1334 (sc : List Nat) (j : Nat → rx_K) : rx_K := o_callV 2 13 FX13_fieldOf (o_pop ((vL_law_1341 sc j)))
set_option maxRecDepth 20000 in
theorem wL_law_1334 {sc : List Nat} (hZ : zO b e D A X) (hS : zS b e D A X sc) (j : Nat → rx_K) (hj : ∀ k pc, [18][k]? = some pc → rx_OK (zV b e D A X) mL_law 1235 pc (j k)) : rx_OK (zV b e D A X) mL_law 1235 1334 (vL_law_1334 sc j) := by
  unfold vL_law_1334
  refine s_callV hZ.1 (Met_X13_fieldOf hZ) (Nat.le_of_ble_eq_true rfl) vy_X13_fieldOf zcl13 zw3983 zw3984 (Or.inl zw3982) dL_law_1334 ?_
  refine s_pop hZ.1 dL_law_1337 ?_
  exact s_goto dL_law_1338 (by decide) (wL_law_1341 hZ hS j hj)
noncomputable def vL_law_1308 (sc : List Nat) (j : Nat → rx_K) : rx_K := o_ld rx_isR 1 (o_ld rx_isR 0 (o_ld rx_isI 3 (o_const 8 (o_bi (fun x y => x + y) (o_xald 500 sc (o_ld rx_isR 0 (o_ld rx_isI 3 (o_const 16 (o_bi (fun x y => x + y) (o_xald 500 sc (o_callV 2 12 FX12_fieldOf (o_pop (o_ld rx_isR 2 (o_ld rx_isR 0 (o_ld rx_isI 3 (o_const 8 (o_bi (fun x y => x + y) (o_xald 500 sc (o_ld rx_isR 0 (o_ld rx_isI 3 (o_const 16 (o_bi (fun x y => x + y) (o_xald 500 sc ((vL_law_1334 sc j)))))))))))))))))))))))))
set_option maxRecDepth 20000 in
theorem wL_law_1308 {sc : List Nat} (hZ : zO b e D A X) (hS : zS b e D A X sc) (j : Nat → rx_K) (hj : ∀ k pc, [18][k]? = some pc → rx_OK (zV b e D A X) mL_law 1235 pc (j k)) : rx_OK (zV b e D A X) mL_law 1235 1308 (vL_law_1308 sc j) := by
  unfold vL_law_1308
  refine s_aload_n hZ.1 dL_law_1308 rfl ?_
  refine s_aload_n hZ.1 dL_law_1309 rfl ?_
  refine s_iload_n hZ.1 dL_law_1310 rfl ?_
  refine s_iconst dL_law_1311 (by decide +kernel) ?_
  refine s_iadd dL_law_1312 ?_
  refine s_xiw hS.2 hS.1 dL_law_1313 ?_
  refine s_aload_n hZ.1 dL_law_1314 rfl ?_
  refine s_iload_n hZ.1 dL_law_1315 rfl ?_
  refine s_iconst dL_law_1316 (by decide +kernel) ?_
  refine s_iadd dL_law_1317 ?_
  refine s_xiw hS.2 hS.1 dL_law_1318 ?_
  refine s_callV hZ.1 (Met_X12_fieldOf hZ) (Nat.le_of_ble_eq_true rfl) vy_X12_fieldOf zcl12 zw2897 zw2898 (Or.inl zw2896) dL_law_1319 ?_
  refine s_pop hZ.1 dL_law_1322 ?_
  refine s_aload_n hZ.1 dL_law_1323 rfl ?_
  refine s_aload_n hZ.1 dL_law_1324 rfl ?_
  refine s_iload_n hZ.1 dL_law_1325 rfl ?_
  refine s_iconst dL_law_1326 (by decide +kernel) ?_
  refine s_iadd dL_law_1327 ?_
  refine s_xiw hS.2 hS.1 dL_law_1328 ?_
  refine s_aload_n hZ.1 dL_law_1329 rfl ?_
  refine s_iload_n hZ.1 dL_law_1330 rfl ?_
  refine s_iconst dL_law_1331 (by decide +kernel) ?_
  refine s_iadd dL_law_1332 ?_
  refine s_xiw hS.2 hS.1 dL_law_1333 ?_
  exact (wL_law_1334 hZ hS j hj)
noncomputable def vL_law_1285 (sc : List Nat) (j : Nat → rx_K) : rx_K := o_ld rx_isR 1 (o_ld rx_isR 0 (o_ld rx_isI 3 (o_const 8 (o_bi (fun x y => x + y) (o_xald 500 sc (o_callV 1 12 FX12_classOf (o_pop (o_ld rx_isR 2 (o_ld rx_isR 0 (o_ld rx_isI 3 (o_const 8 (o_bi (fun x y => x + y) (o_xald 500 sc (o_callV 1 13 FX13_classOf (o_pop ((vL_law_1341 sc j)))))))))))))))))
set_option maxRecDepth 20000 in
theorem wL_law_1285 {sc : List Nat} (hZ : zO b e D A X) (hS : zS b e D A X sc) (j : Nat → rx_K) (hj : ∀ k pc, [18][k]? = some pc → rx_OK (zV b e D A X) mL_law 1235 pc (j k)) : rx_OK (zV b e D A X) mL_law 1235 1285 (vL_law_1285 sc j) := by
  unfold vL_law_1285
  refine s_aload_n hZ.1 dL_law_1285 rfl ?_
  refine s_aload_n hZ.1 dL_law_1286 rfl ?_
  refine s_iload_n hZ.1 dL_law_1287 rfl ?_
  refine s_iconst dL_law_1288 (by decide +kernel) ?_
  refine s_iadd dL_law_1289 ?_
  refine s_xiw hS.2 hS.1 dL_law_1290 ?_
  refine s_callV hZ.1 (Met_X12_classOf hZ) (Nat.le_of_ble_eq_true rfl) vy_X12_classOf zcl12 zw2893 zw2894 (Or.inl zw2892) dL_law_1291 ?_
  refine s_pop hZ.1 dL_law_1294 ?_
  refine s_aload_n hZ.1 dL_law_1295 rfl ?_
  refine s_aload_n hZ.1 dL_law_1296 rfl ?_
  refine s_iload_n hZ.1 dL_law_1297 rfl ?_
  refine s_iconst dL_law_1298 (by decide +kernel) ?_
  refine s_iadd dL_law_1299 ?_
  refine s_xiw hS.2 hS.1 dL_law_1300 ?_
  refine s_callV hZ.1 (Met_X13_classOf hZ) (Nat.le_of_ble_eq_true rfl) vy_X13_classOf zcl13 zw3979 zw3980 (Or.inl zw3978) dL_law_1301 ?_
  refine s_pop hZ.1 dL_law_1304 ?_
  exact s_goto dL_law_1305 (by decide) (wL_law_1341 hZ hS j hj)
noncomputable def vL_law_1262 (sc : List Nat) (j : Nat → rx_K) : rx_K := o_ld rx_isR 1 (o_ld rx_isR 0 (o_ld rx_isI 3 (o_const 8 (o_bi (fun x y => x + y) (o_xald 500 sc (o_callV 1 12 FX12_state (o_pop (o_ld rx_isR 2 (o_ld rx_isR 0 (o_ld rx_isI 3 (o_const 8 (o_bi (fun x y => x + y) (o_xald 500 sc (o_callV 1 13 FX13_state (o_pop ((vL_law_1341 sc j)))))))))))))))))
set_option maxRecDepth 20000 in
theorem wL_law_1262 {sc : List Nat} (hZ : zO b e D A X) (hS : zS b e D A X sc) (j : Nat → rx_K) (hj : ∀ k pc, [18][k]? = some pc → rx_OK (zV b e D A X) mL_law 1235 pc (j k)) : rx_OK (zV b e D A X) mL_law 1235 1262 (vL_law_1262 sc j) := by
  unfold vL_law_1262
  refine s_aload_n hZ.1 dL_law_1262 rfl ?_
  refine s_aload_n hZ.1 dL_law_1263 rfl ?_
  refine s_iload_n hZ.1 dL_law_1264 rfl ?_
  refine s_iconst dL_law_1265 (by decide +kernel) ?_
  refine s_iadd dL_law_1266 ?_
  refine s_xiw hS.2 hS.1 dL_law_1267 ?_
  refine s_callV hZ.1 (Met_X12_state hZ) (Nat.le_of_ble_eq_true rfl) vy_X12_state zcl12 zw2889 zw2890 (Or.inl zw2888) dL_law_1268 ?_
  refine s_pop hZ.1 dL_law_1271 ?_
  refine s_aload_n hZ.1 dL_law_1272 rfl ?_
  refine s_aload_n hZ.1 dL_law_1273 rfl ?_
  refine s_iload_n hZ.1 dL_law_1274 rfl ?_
  refine s_iconst dL_law_1275 (by decide +kernel) ?_
  refine s_iadd dL_law_1276 ?_
  refine s_xiw hS.2 hS.1 dL_law_1277 ?_
  refine s_callV hZ.1 (Met_X13_state hZ) (Nat.le_of_ble_eq_true rfl) vy_X13_state zcl13 zw3975 zw3976 (Or.inl zw3974) dL_law_1278 ?_
  refine s_pop hZ.1 dL_law_1281 ?_
  exact s_goto dL_law_1282 (by decide) (wL_law_1341 hZ hS j hj)
noncomputable def vL_law_1239 (sc : List Nat) (j : Nat → rx_K) : rx_K := o_ld rx_isR 1 (o_ld rx_isR 0 (o_ld rx_isI 3 (o_const 8 (o_bi (fun x y => x + y) (o_xald 500 sc (o_callV 1 12 FX12_name (o_pop (o_ld rx_isR 2 (o_ld rx_isR 0 (o_ld rx_isI 3 (o_const 8 (o_bi (fun x y => x + y) (o_xald 500 sc (o_callV 1 13 FX13_name (o_pop ((vL_law_1341 sc j)))))))))))))))))
set_option maxRecDepth 20000 in
theorem wL_law_1239 {sc : List Nat} (hZ : zO b e D A X) (hS : zS b e D A X sc) (j : Nat → rx_K) (hj : ∀ k pc, [18][k]? = some pc → rx_OK (zV b e D A X) mL_law 1235 pc (j k)) : rx_OK (zV b e D A X) mL_law 1235 1239 (vL_law_1239 sc j) := by
  unfold vL_law_1239
  refine s_aload_n hZ.1 dL_law_1239 rfl ?_
  refine s_aload_n hZ.1 dL_law_1240 rfl ?_
  refine s_iload_n hZ.1 dL_law_1241 rfl ?_
  refine s_iconst dL_law_1242 (by decide +kernel) ?_
  refine s_iadd dL_law_1243 ?_
  refine s_xiw hS.2 hS.1 dL_law_1244 ?_
  refine s_callV hZ.1 (Met_X12_name hZ) (Nat.le_of_ble_eq_true rfl) vy_X12_name zcl12 zw2885 zw2886 (Or.inl zw2884) dL_law_1245 ?_
  refine s_pop hZ.1 dL_law_1248 ?_
  refine s_aload_n hZ.1 dL_law_1249 rfl ?_
  refine s_aload_n hZ.1 dL_law_1250 rfl ?_
  refine s_iload_n hZ.1 dL_law_1251 rfl ?_
  refine s_iconst dL_law_1252 (by decide +kernel) ?_
  refine s_iadd dL_law_1253 ?_
  refine s_xiw hS.2 hS.1 dL_law_1254 ?_
  refine s_callV hZ.1 (Met_X13_name hZ) (Nat.le_of_ble_eq_true rfl) vy_X13_name zcl13 zw3971 zw3972 (Or.inl zw3970) dL_law_1255 ?_
  refine s_pop hZ.1 dL_law_1258 ?_
  exact s_goto dL_law_1259 (by decide) (wL_law_1341 hZ hS j hj)
noncomputable def vL_law_1216 (sc : List Nat) (j : Nat → rx_K) : rx_K := o_ld rx_isR 1 (o_ld rx_isR 0 (o_ld rx_isI 3 (o_const 8 (o_bi (fun x y => x + y) (o_xald 500 sc (o_callV 1 12 FX12_event (o_pop (o_ld rx_isR 2 (o_ld rx_isR 0 (o_ld rx_isI 3 (o_const 8 (o_bi (fun x y => x + y) (o_xald 500 sc (o_callV 1 13 FX13_event_ (o_pop ((vL_law_1341 sc j)))))))))))))))))
set_option maxRecDepth 20000 in
theorem wL_law_1216 {sc : List Nat} (hZ : zO b e D A X) (hS : zS b e D A X sc) (j : Nat → rx_K) (hj : ∀ k pc, [18][k]? = some pc → rx_OK (zV b e D A X) mL_law 1235 pc (j k)) : rx_OK (zV b e D A X) mL_law 1235 1216 (vL_law_1216 sc j) := by
  unfold vL_law_1216
  refine s_aload_n hZ.1 dL_law_1216 rfl ?_
  refine s_aload_n hZ.1 dL_law_1217 rfl ?_
  refine s_iload_n hZ.1 dL_law_1218 rfl ?_
  refine s_iconst dL_law_1219 (by decide +kernel) ?_
  refine s_iadd dL_law_1220 ?_
  refine s_xiw hS.2 hS.1 dL_law_1221 ?_
  refine s_callV hZ.1 (Met_X12_event hZ) (Nat.le_of_ble_eq_true rfl) vy_X12_event zcl12 zw2881 zw2882 (Or.inl zw2880) dL_law_1222 ?_
  refine s_pop hZ.1 dL_law_1225 ?_
  refine s_aload_n hZ.1 dL_law_1226 rfl ?_
  refine s_aload_n hZ.1 dL_law_1227 rfl ?_
  refine s_iload_n hZ.1 dL_law_1228 rfl ?_
  refine s_iconst dL_law_1229 (by decide +kernel) ?_
  refine s_iadd dL_law_1230 ?_
  refine s_xiw hS.2 hS.1 dL_law_1231 ?_
  refine s_callV hZ.1 (Met_X13_event_ hZ) (Nat.le_of_ble_eq_true rfl) vy_X13_event_ zcl13 zw3967 zw3968 (Or.inl zw3966) dL_law_1232 ?_
  refine s_pop hZ.1 dL_law_1235 ?_
  exact s_goto dL_law_1236 (by decide) (wL_law_1341 hZ hS j hj)
noncomputable def vL_law_1193 (sc : List Nat) (j : Nat → rx_K) : rx_K := o_ld rx_isR 1 (o_ld rx_isR 0 (o_ld rx_isI 3 (o_const 8 (o_bi (fun x y => x + y) (o_xald 500 sc (o_callV 1 12 FX12_number (o_pop (o_ld rx_isR 2 (o_ld rx_isR 0 (o_ld rx_isI 3 (o_const 8 (o_bi (fun x y => x + y) (o_xald 500 sc (o_callV 1 13 FX13_number (o_pop ((vL_law_1341 sc j)))))))))))))))))
set_option maxRecDepth 20000 in
theorem wL_law_1193 {sc : List Nat} (hZ : zO b e D A X) (hS : zS b e D A X sc) (j : Nat → rx_K) (hj : ∀ k pc, [18][k]? = some pc → rx_OK (zV b e D A X) mL_law 1235 pc (j k)) : rx_OK (zV b e D A X) mL_law 1235 1193 (vL_law_1193 sc j) := by
  unfold vL_law_1193
  refine s_aload_n hZ.1 dL_law_1193 rfl ?_
  refine s_aload_n hZ.1 dL_law_1194 rfl ?_
  refine s_iload_n hZ.1 dL_law_1195 rfl ?_
  refine s_iconst dL_law_1196 (by decide +kernel) ?_
  refine s_iadd dL_law_1197 ?_
  refine s_xiw hS.2 hS.1 dL_law_1198 ?_
  refine s_callV hZ.1 (Met_X12_number hZ) (Nat.le_of_ble_eq_true rfl) vy_X12_number zcl12 zw2877 zw2878 (Or.inl zw2876) dL_law_1199 ?_
  refine s_pop hZ.1 dL_law_1202 ?_
  refine s_aload_n hZ.1 dL_law_1203 rfl ?_
  refine s_aload_n hZ.1 dL_law_1204 rfl ?_
  refine s_iload_n hZ.1 dL_law_1205 rfl ?_
  refine s_iconst dL_law_1206 (by decide +kernel) ?_
  refine s_iadd dL_law_1207 ?_
  refine s_xiw hS.2 hS.1 dL_law_1208 ?_
  refine s_callV hZ.1 (Met_X13_number hZ) (Nat.le_of_ble_eq_true rfl) vy_X13_number zcl13 zw3963 zw3964 (Or.inl zw3962) dL_law_1209 ?_
  refine s_pop hZ.1 dL_law_1212 ?_
  exact s_goto dL_law_1213 (by decide) (wL_law_1341 hZ hS j hj)
noncomputable def vL_law_1170 (sc : List Nat) (j : Nat → rx_K) : rx_K := o_ld rx_isR 1 (o_ld rx_isR 0 (o_ld rx_isI 3 (o_const 8 (o_bi (fun x y => x + y) (o_xald 500 sc (o_callV 1 12 FX12_told (o_pop (o_ld rx_isR 2 (o_ld rx_isR 0 (o_ld rx_isI 3 (o_const 8 (o_bi (fun x y => x + y) (o_xald 500 sc (o_callV 1 13 FX13_told (o_pop ((vL_law_1341 sc j)))))))))))))))))
set_option maxRecDepth 20000 in
theorem wL_law_1170 {sc : List Nat} (hZ : zO b e D A X) (hS : zS b e D A X sc) (j : Nat → rx_K) (hj : ∀ k pc, [18][k]? = some pc → rx_OK (zV b e D A X) mL_law 1235 pc (j k)) : rx_OK (zV b e D A X) mL_law 1235 1170 (vL_law_1170 sc j) := by
  unfold vL_law_1170
  refine s_aload_n hZ.1 dL_law_1170 rfl ?_
  refine s_aload_n hZ.1 dL_law_1171 rfl ?_
  refine s_iload_n hZ.1 dL_law_1172 rfl ?_
  refine s_iconst dL_law_1173 (by decide +kernel) ?_
  refine s_iadd dL_law_1174 ?_
  refine s_xiw hS.2 hS.1 dL_law_1175 ?_
  refine s_callV hZ.1 (Met_X12_told hZ) (Nat.le_of_ble_eq_true rfl) vy_X12_told zcl12 zw2873 zw2874 (Or.inl zw2872) dL_law_1176 ?_
  refine s_pop hZ.1 dL_law_1179 ?_
  refine s_aload_n hZ.1 dL_law_1180 rfl ?_
  refine s_aload_n hZ.1 dL_law_1181 rfl ?_
  refine s_iload_n hZ.1 dL_law_1182 rfl ?_
  refine s_iconst dL_law_1183 (by decide +kernel) ?_
  refine s_iadd dL_law_1184 ?_
  refine s_xiw hS.2 hS.1 dL_law_1185 ?_
  refine s_callV hZ.1 (Met_X13_told hZ) (Nat.le_of_ble_eq_true rfl) vy_X13_told zcl13 zw3959 zw3960 (Or.inl zw3958) dL_law_1186 ?_
  refine s_pop hZ.1 dL_law_1189 ?_
  exact s_goto dL_law_1190 (by decide) (wL_law_1341 hZ hS j hj)
noncomputable def vL_law_1157 (sc : List Nat) (j : Nat → rx_K) : rx_K := o_ld rx_isR 1 (o_callV 0 12 FX12_value (o_pop (o_ld rx_isR 2 (o_callV 0 13 FX13_value (o_pop ((vL_law_1341 sc j)))))))
set_option maxRecDepth 20000 in
theorem wL_law_1157 {sc : List Nat} (hZ : zO b e D A X) (hS : zS b e D A X sc) (j : Nat → rx_K) (hj : ∀ k pc, [18][k]? = some pc → rx_OK (zV b e D A X) mL_law 1235 pc (j k)) : rx_OK (zV b e D A X) mL_law 1235 1157 (vL_law_1157 sc j) := by
  unfold vL_law_1157
  refine s_aload_n hZ.1 dL_law_1157 rfl ?_
  refine s_callV hZ.1 (Met_X12_value hZ) (Nat.le_of_ble_eq_true rfl) vy_X12_value zcl12 zw2869 zw2870 (Or.inl zw2868) dL_law_1158 ?_
  refine s_pop hZ.1 dL_law_1161 ?_
  refine s_aload_n hZ.1 dL_law_1162 rfl ?_
  refine s_callV hZ.1 (Met_X13_value hZ) (Nat.le_of_ble_eq_true rfl) vy_X13_value zcl13 zw3955 zw3956 (Or.inl zw3954) dL_law_1163 ?_
  refine s_pop hZ.1 dL_law_1166 ?_
  exact s_goto dL_law_1167 (by decide) (wL_law_1341 hZ hS j hj)
noncomputable def vL_law_1144 (sc : List Nat) (j : Nat → rx_K) : rx_K := o_ld rx_isR 1 (o_callV 0 12 FX12_run (o_pop (o_ld rx_isR 2 (o_callV 0 13 FX13_run (o_pop ((vL_law_1341 sc j)))))))
set_option maxRecDepth 20000 in
theorem wL_law_1144 {sc : List Nat} (hZ : zO b e D A X) (hS : zS b e D A X sc) (j : Nat → rx_K) (hj : ∀ k pc, [18][k]? = some pc → rx_OK (zV b e D A X) mL_law 1235 pc (j k)) : rx_OK (zV b e D A X) mL_law 1235 1144 (vL_law_1144 sc j) := by
  unfold vL_law_1144
  refine s_aload_n hZ.1 dL_law_1144 rfl ?_
  refine s_callV hZ.1 (Met_X12_run hZ) (Nat.le_of_ble_eq_true rfl) vy_X12_run zcl12 zw2730 zw2731 (Or.inl zw2729) dL_law_1145 ?_
  refine s_pop hZ.1 dL_law_1148 ?_
  refine s_aload_n hZ.1 dL_law_1149 rfl ?_
  refine s_callV hZ.1 (Met_X13_run hZ) (Nat.le_of_ble_eq_true rfl) vy_X13_run zcl13 zw3807 zw3808 (Or.inl zw3806) dL_law_1150 ?_
  refine s_pop hZ.1 dL_law_1153 ?_
  exact s_goto dL_law_1154 (by decide) (wL_law_1341 hZ hS j hj)
noncomputable def vL_law_1127 (sc : List Nat) (j : Nat → rx_K) : rx_K := o_ld rx_isR 0 (o_ld rx_isI 3 (o_const 16 (o_bi (fun x y => x + y) (o_xald 500 sc (o_ld rx_isR 0 (o_ld rx_isI 3 (o_const 24 (o_bi (fun x y => x + y) (o_xald 500 sc (o_callV 3 13 FX13_touch (o_pop ((vL_law_1341 sc j)))))))))))))
set_option maxRecDepth 20000 in
theorem wL_law_1127 {sc : List Nat} (hZ : zO b e D A X) (hS : zS b e D A X sc) (j : Nat → rx_K) (hj : ∀ k pc, [18][k]? = some pc → rx_OK (zV b e D A X) mL_law 1235 pc (j k)) : rx_OK (zV b e D A X) mL_law 1235 1127 (vL_law_1127 sc j) := by
  unfold vL_law_1127
  refine s_aload_n hZ.1 dL_law_1127 rfl ?_
  refine s_iload_n hZ.1 dL_law_1128 rfl ?_
  refine s_iconst dL_law_1129 (by decide +kernel) ?_
  refine s_iadd dL_law_1130 ?_
  refine s_xiw hS.2 hS.1 dL_law_1131 ?_
  refine s_aload_n hZ.1 dL_law_1132 rfl ?_
  refine s_iload_n hZ.1 dL_law_1133 rfl ?_
  refine s_iconst dL_law_1134 (by decide +kernel) ?_
  refine s_iadd dL_law_1135 ?_
  refine s_xiw hS.2 hS.1 dL_law_1136 ?_
  refine s_callV hZ.1 (Met_X13_touch hZ) (Nat.le_of_ble_eq_true rfl) vy_X13_touch zcl13 zw3803 zw3804 (Or.inl zw3802) dL_law_1137 ?_
  refine s_pop hZ.1 dL_law_1140 ?_
  exact s_goto dL_law_1141 (by decide) (wL_law_1341 hZ hS j hj)
noncomputable def vL_law_1101 (sc : List Nat) (j : Nat → rx_K) : rx_K := o_ld rx_isR 1 (o_ld rx_isR 0 (o_ld rx_isI 3 (o_const 8 (o_bi (fun x y => x + y) (o_xald 500 sc (o_ld rx_isR 0 (o_ld rx_isI 3 (o_const 16 (o_bi (fun x y => x + y) (o_xald 500 sc (o_ld rx_isR 0 (o_ld rx_isI 3 (o_const 24 (o_bi (fun x y => x + y) (o_xald 500 sc (o_callV 3 12 FX12_touch (o_pop (o_ld rx_isR 2 (o_ld rx_isR 0 (o_ld rx_isI 3 (o_const 8 (o_bi (fun x y => x + y) (o_xald 500 sc ((vL_law_1127 sc j)))))))))))))))))))))))))
set_option maxRecDepth 20000 in
theorem wL_law_1101 {sc : List Nat} (hZ : zO b e D A X) (hS : zS b e D A X sc) (j : Nat → rx_K) (hj : ∀ k pc, [18][k]? = some pc → rx_OK (zV b e D A X) mL_law 1235 pc (j k)) : rx_OK (zV b e D A X) mL_law 1235 1101 (vL_law_1101 sc j) := by
  unfold vL_law_1101
  refine s_aload_n hZ.1 dL_law_1101 rfl ?_
  refine s_aload_n hZ.1 dL_law_1102 rfl ?_
  refine s_iload_n hZ.1 dL_law_1103 rfl ?_
  refine s_iconst dL_law_1104 (by decide +kernel) ?_
  refine s_iadd dL_law_1105 ?_
  refine s_xiw hS.2 hS.1 dL_law_1106 ?_
  refine s_aload_n hZ.1 dL_law_1107 rfl ?_
  refine s_iload_n hZ.1 dL_law_1108 rfl ?_
  refine s_iconst dL_law_1109 (by decide +kernel) ?_
  refine s_iadd dL_law_1110 ?_
  refine s_xiw hS.2 hS.1 dL_law_1111 ?_
  refine s_aload_n hZ.1 dL_law_1112 rfl ?_
  refine s_iload_n hZ.1 dL_law_1113 rfl ?_
  refine s_iconst dL_law_1114 (by decide +kernel) ?_
  refine s_iadd dL_law_1115 ?_
  refine s_xiw hS.2 hS.1 dL_law_1116 ?_
  refine s_callV hZ.1 (Met_X12_touch hZ) (Nat.le_of_ble_eq_true rfl) vy_X12_touch zcl12 zw2726 zw2727 (Or.inl zw2725) dL_law_1117 ?_
  refine s_pop hZ.1 dL_law_1120 ?_
  refine s_aload_n hZ.1 dL_law_1121 rfl ?_
  refine s_aload_n hZ.1 dL_law_1122 rfl ?_
  refine s_iload_n hZ.1 dL_law_1123 rfl ?_
  refine s_iconst dL_law_1124 (by decide +kernel) ?_
  refine s_iadd dL_law_1125 ?_
  refine s_xiw hS.2 hS.1 dL_law_1126 ?_
  exact (wL_law_1127 hZ hS j hj)
noncomputable def vL_law_1088 (sc : List Nat) (j : Nat → rx_K) : rx_K := o_ld rx_isR 1 (o_callV 0 12 FX12_fresh (o_pop (o_ld rx_isR 2 (o_callV 0 13 FX13_fresh (o_pop ((vL_law_1341 sc j)))))))
set_option maxRecDepth 20000 in
theorem wL_law_1088 {sc : List Nat} (hZ : zO b e D A X) (hS : zS b e D A X sc) (j : Nat → rx_K) (hj : ∀ k pc, [18][k]? = some pc → rx_OK (zV b e D A X) mL_law 1235 pc (j k)) : rx_OK (zV b e D A X) mL_law 1235 1088 (vL_law_1088 sc j) := by
  unfold vL_law_1088
  refine s_aload_n hZ.1 dL_law_1088 rfl ?_
  refine s_callV hZ.1 (Met_X12_fresh hZ) (Nat.le_of_ble_eq_true rfl) vy_X12_fresh zcl12 zw2718 zw2719 (Or.inl zw2717) dL_law_1089 ?_
  refine s_pop hZ.1 dL_law_1092 ?_
  refine s_aload_n hZ.1 dL_law_1093 rfl ?_
  refine s_callV hZ.1 (Met_X13_fresh hZ) (Nat.le_of_ble_eq_true rfl) vy_X13_fresh zcl13 zw3799 zw3800 (Or.inl zw3798) dL_law_1094 ?_
  refine s_pop hZ.1 dL_law_1097 ?_
  exact s_goto dL_law_1098 (by decide) (wL_law_1341 hZ hS j hj)
noncomputable def vL_law_1071 (sc : List Nat) (j : Nat → rx_K) : rx_K := o_ld rx_isR 0 (o_ld rx_isI 3 (o_const 16 (o_bi (fun x y => x + y) (o_xald 500 sc (o_ld rx_isR 0 (o_ld rx_isI 3 (o_const 24 (o_bi (fun x y => x + y) (o_xald 500 sc (o_callV 3 13 FX13_weave (o_pop ((vL_law_1341 sc j)))))))))))))
set_option maxRecDepth 20000 in
theorem wL_law_1071 {sc : List Nat} (hZ : zO b e D A X) (hS : zS b e D A X sc) (j : Nat → rx_K) (hj : ∀ k pc, [18][k]? = some pc → rx_OK (zV b e D A X) mL_law 1235 pc (j k)) : rx_OK (zV b e D A X) mL_law 1235 1071 (vL_law_1071 sc j) := by
  unfold vL_law_1071
  refine s_aload_n hZ.1 dL_law_1071 rfl ?_
  refine s_iload_n hZ.1 dL_law_1072 rfl ?_
  refine s_iconst dL_law_1073 (by decide +kernel) ?_
  refine s_iadd dL_law_1074 ?_
  refine s_xiw hS.2 hS.1 dL_law_1075 ?_
  refine s_aload_n hZ.1 dL_law_1076 rfl ?_
  refine s_iload_n hZ.1 dL_law_1077 rfl ?_
  refine s_iconst dL_law_1078 (by decide +kernel) ?_
  refine s_iadd dL_law_1079 ?_
  refine s_xiw hS.2 hS.1 dL_law_1080 ?_
  refine s_callV hZ.1 (Met_X13_weave hZ) (Nat.le_of_ble_eq_true rfl) vy_X13_weave zcl13 zw4069 zw4070 (Or.inl zw4068) dL_law_1081 ?_
  refine s_pop hZ.1 dL_law_1084 ?_
  exact s_goto dL_law_1085 (by decide) (wL_law_1341 hZ hS j hj)
noncomputable def vL_law_1045 (sc : List Nat) (j : Nat → rx_K) : rx_K := o_ld rx_isR 1 (o_ld rx_isR 0 (o_ld rx_isI 3 (o_const 8 (o_bi (fun x y => x + y) (o_xald 500 sc (o_ld rx_isR 0 (o_ld rx_isI 3 (o_const 16 (o_bi (fun x y => x + y) (o_xald 500 sc (o_ld rx_isR 0 (o_ld rx_isI 3 (o_const 24 (o_bi (fun x y => x + y) (o_xald 500 sc (o_callV 3 12 FX12_weave (o_pop (o_ld rx_isR 2 (o_ld rx_isR 0 (o_ld rx_isI 3 (o_const 8 (o_bi (fun x y => x + y) (o_xald 500 sc ((vL_law_1071 sc j)))))))))))))))))))))))))
set_option maxRecDepth 20000 in
theorem wL_law_1045 {sc : List Nat} (hZ : zO b e D A X) (hS : zS b e D A X sc) (j : Nat → rx_K) (hj : ∀ k pc, [18][k]? = some pc → rx_OK (zV b e D A X) mL_law 1235 pc (j k)) : rx_OK (zV b e D A X) mL_law 1235 1045 (vL_law_1045 sc j) := by
  unfold vL_law_1045
  refine s_aload_n hZ.1 dL_law_1045 rfl ?_
  refine s_aload_n hZ.1 dL_law_1046 rfl ?_
  refine s_iload_n hZ.1 dL_law_1047 rfl ?_
  refine s_iconst dL_law_1048 (by decide +kernel) ?_
  refine s_iadd dL_law_1049 ?_
  refine s_xiw hS.2 hS.1 dL_law_1050 ?_
  refine s_aload_n hZ.1 dL_law_1051 rfl ?_
  refine s_iload_n hZ.1 dL_law_1052 rfl ?_
  refine s_iconst dL_law_1053 (by decide +kernel) ?_
  refine s_iadd dL_law_1054 ?_
  refine s_xiw hS.2 hS.1 dL_law_1055 ?_
  refine s_aload_n hZ.1 dL_law_1056 rfl ?_
  refine s_iload_n hZ.1 dL_law_1057 rfl ?_
  refine s_iconst dL_law_1058 (by decide +kernel) ?_
  refine s_iadd dL_law_1059 ?_
  refine s_xiw hS.2 hS.1 dL_law_1060 ?_
  refine s_callV hZ.1 (Met_X12_weave hZ) (Nat.le_of_ble_eq_true rfl) vy_X12_weave zcl12 zw2691 zw2692 (Or.inl zw2690) dL_law_1061 ?_
  refine s_pop hZ.1 dL_law_1064 ?_
  refine s_aload_n hZ.1 dL_law_1065 rfl ?_
  refine s_aload_n hZ.1 dL_law_1066 rfl ?_
  refine s_iload_n hZ.1 dL_law_1067 rfl ?_
  refine s_iconst dL_law_1068 (by decide +kernel) ?_
  refine s_iadd dL_law_1069 ?_
  refine s_xiw hS.2 hS.1 dL_law_1070 ?_
  exact (wL_law_1071 hZ hS j hj)
noncomputable def vL_law_1028 (sc : List Nat) (j : Nat → rx_K) : rx_K := o_ld rx_isR 0 (o_ld rx_isI 3 (o_const 16 (o_bi (fun x y => x + y) (o_xald 500 sc (o_ld rx_isR 0 (o_ld rx_isI 3 (o_const 24 (o_bi (fun x y => x + y) (o_xald 500 sc (o_callV 3 13 FX13_word (o_pop ((vL_law_1341 sc j)))))))))))))
set_option maxRecDepth 20000 in
theorem wL_law_1028 {sc : List Nat} (hZ : zO b e D A X) (hS : zS b e D A X sc) (j : Nat → rx_K) (hj : ∀ k pc, [18][k]? = some pc → rx_OK (zV b e D A X) mL_law 1235 pc (j k)) : rx_OK (zV b e D A X) mL_law 1235 1028 (vL_law_1028 sc j) := by
  unfold vL_law_1028
  refine s_aload_n hZ.1 dL_law_1028 rfl ?_
  refine s_iload_n hZ.1 dL_law_1029 rfl ?_
  refine s_iconst dL_law_1030 (by decide +kernel) ?_
  refine s_iadd dL_law_1031 ?_
  refine s_xiw hS.2 hS.1 dL_law_1032 ?_
  refine s_aload_n hZ.1 dL_law_1033 rfl ?_
  refine s_iload_n hZ.1 dL_law_1034 rfl ?_
  refine s_iconst dL_law_1035 (by decide +kernel) ?_
  refine s_iadd dL_law_1036 ?_
  refine s_xiw hS.2 hS.1 dL_law_1037 ?_
  refine s_callV hZ.1 (Met_X13_word hZ) (Nat.le_of_ble_eq_true rfl) vy_X13_word zcl13 zw4059 zw4060 (Or.inl zw4058) dL_law_1038 ?_
  refine s_pop hZ.1 dL_law_1041 ?_
  exact s_goto dL_law_1042 (by decide) (wL_law_1341 hZ hS j hj)
noncomputable def vL_law_1002 (sc : List Nat) (j : Nat → rx_K) : rx_K := o_ld rx_isR 1 (o_ld rx_isR 0 (o_ld rx_isI 3 (o_const 8 (o_bi (fun x y => x + y) (o_xald 500 sc (o_ld rx_isR 0 (o_ld rx_isI 3 (o_const 16 (o_bi (fun x y => x + y) (o_xald 500 sc (o_ld rx_isR 0 (o_ld rx_isI 3 (o_const 24 (o_bi (fun x y => x + y) (o_xald 500 sc (o_callV 3 12 FX12_word (o_pop (o_ld rx_isR 2 (o_ld rx_isR 0 (o_ld rx_isI 3 (o_const 8 (o_bi (fun x y => x + y) (o_xald 500 sc ((vL_law_1028 sc j)))))))))))))))))))))))))
set_option maxRecDepth 20000 in
theorem wL_law_1002 {sc : List Nat} (hZ : zO b e D A X) (hS : zS b e D A X sc) (j : Nat → rx_K) (hj : ∀ k pc, [18][k]? = some pc → rx_OK (zV b e D A X) mL_law 1235 pc (j k)) : rx_OK (zV b e D A X) mL_law 1235 1002 (vL_law_1002 sc j) := by
  unfold vL_law_1002
  refine s_aload_n hZ.1 dL_law_1002 rfl ?_
  refine s_aload_n hZ.1 dL_law_1003 rfl ?_
  refine s_iload_n hZ.1 dL_law_1004 rfl ?_
  refine s_iconst dL_law_1005 (by decide +kernel) ?_
  refine s_iadd dL_law_1006 ?_
  refine s_xiw hS.2 hS.1 dL_law_1007 ?_
  refine s_aload_n hZ.1 dL_law_1008 rfl ?_
  refine s_iload_n hZ.1 dL_law_1009 rfl ?_
  refine s_iconst dL_law_1010 (by decide +kernel) ?_
  refine s_iadd dL_law_1011 ?_
  refine s_xiw hS.2 hS.1 dL_law_1012 ?_
  refine s_aload_n hZ.1 dL_law_1013 rfl ?_
  refine s_iload_n hZ.1 dL_law_1014 rfl ?_
  refine s_iconst dL_law_1015 (by decide +kernel) ?_
  refine s_iadd dL_law_1016 ?_
  refine s_xiw hS.2 hS.1 dL_law_1017 ?_
  refine s_callV hZ.1 (Met_X12_word hZ) (Nat.le_of_ble_eq_true rfl) vy_X12_word zcl12 zw2687 zw2688 (Or.inl zw2686) dL_law_1018 ?_
  refine s_pop hZ.1 dL_law_1021 ?_
  refine s_aload_n hZ.1 dL_law_1022 rfl ?_
  refine s_aload_n hZ.1 dL_law_1023 rfl ?_
  refine s_iload_n hZ.1 dL_law_1024 rfl ?_
  refine s_iconst dL_law_1025 (by decide +kernel) ?_
  refine s_iadd dL_law_1026 ?_
  refine s_xiw hS.2 hS.1 dL_law_1027 ?_
  exact (wL_law_1028 hZ hS j hj)
noncomputable def vL_law_995 (sc : List Nat) (j : Nat → rx_K) : rx_K := o_callV 2 13 FX13_change (o_pop ((vL_law_1341 sc j)))
set_option maxRecDepth 20000 in
theorem wL_law_995 {sc : List Nat} (hZ : zO b e D A X) (hS : zS b e D A X sc) (j : Nat → rx_K) (hj : ∀ k pc, [18][k]? = some pc → rx_OK (zV b e D A X) mL_law 1235 pc (j k)) : rx_OK (zV b e D A X) mL_law 1235 995 (vL_law_995 sc j) := by
  unfold vL_law_995
  refine s_callV hZ.1 (Met_X13_change hZ) (Nat.le_of_ble_eq_true rfl) vy_X13_change zcl13 zw4055 zw4056 (Or.inl zw4054) dL_law_995 ?_
  refine s_pop hZ.1 dL_law_998 ?_
  exact s_goto dL_law_999 (by decide) (wL_law_1341 hZ hS j hj)
noncomputable def vL_law_969 (sc : List Nat) (j : Nat → rx_K) : rx_K := o_ld rx_isR 1 (o_ld rx_isR 0 (o_ld rx_isI 3 (o_const 8 (o_bi (fun x y => x + y) (o_xald 500 sc (o_ld rx_isR 0 (o_ld rx_isI 3 (o_const 16 (o_bi (fun x y => x + y) (o_xald 500 sc (o_callV 2 12 FX12_change (o_pop (o_ld rx_isR 2 (o_ld rx_isR 0 (o_ld rx_isI 3 (o_const 8 (o_bi (fun x y => x + y) (o_xald 500 sc (o_ld rx_isR 0 (o_ld rx_isI 3 (o_const 16 (o_bi (fun x y => x + y) (o_xald 500 sc ((vL_law_995 sc j)))))))))))))))))))))))))
set_option maxRecDepth 20000 in
theorem wL_law_969 {sc : List Nat} (hZ : zO b e D A X) (hS : zS b e D A X sc) (j : Nat → rx_K) (hj : ∀ k pc, [18][k]? = some pc → rx_OK (zV b e D A X) mL_law 1235 pc (j k)) : rx_OK (zV b e D A X) mL_law 1235 969 (vL_law_969 sc j) := by
  unfold vL_law_969
  refine s_aload_n hZ.1 dL_law_969 rfl ?_
  refine s_aload_n hZ.1 dL_law_970 rfl ?_
  refine s_iload_n hZ.1 dL_law_971 rfl ?_
  refine s_iconst dL_law_972 (by decide +kernel) ?_
  refine s_iadd dL_law_973 ?_
  refine s_xiw hS.2 hS.1 dL_law_974 ?_
  refine s_aload_n hZ.1 dL_law_975 rfl ?_
  refine s_iload_n hZ.1 dL_law_976 rfl ?_
  refine s_iconst dL_law_977 (by decide +kernel) ?_
  refine s_iadd dL_law_978 ?_
  refine s_xiw hS.2 hS.1 dL_law_979 ?_
  refine s_callV hZ.1 (Met_X12_change hZ) (Nat.le_of_ble_eq_true rfl) vy_X12_change zcl12 zw2683 zw2684 (Or.inl zw2682) dL_law_980 ?_
  refine s_pop hZ.1 dL_law_983 ?_
  refine s_aload_n hZ.1 dL_law_984 rfl ?_
  refine s_aload_n hZ.1 dL_law_985 rfl ?_
  refine s_iload_n hZ.1 dL_law_986 rfl ?_
  refine s_iconst dL_law_987 (by decide +kernel) ?_
  refine s_iadd dL_law_988 ?_
  refine s_xiw hS.2 hS.1 dL_law_989 ?_
  refine s_aload_n hZ.1 dL_law_990 rfl ?_
  refine s_iload_n hZ.1 dL_law_991 rfl ?_
  refine s_iconst dL_law_992 (by decide +kernel) ?_
  refine s_iadd dL_law_993 ?_
  refine s_xiw hS.2 hS.1 dL_law_994 ?_
  exact (wL_law_995 hZ hS j hj)
noncomputable def vL_law_952 (sc : List Nat) (j : Nat → rx_K) : rx_K := o_ld rx_isR 0 (o_ld rx_isI 3 (o_const 16 (o_bi (fun x y => x + y) (o_xald 500 sc (o_ld rx_isR 0 (o_ld rx_isI 3 (o_const 24 (o_bi (fun x y => x + y) (o_xald 500 sc (o_callV 3 13 FX13_differ (o_pop ((vL_law_1341 sc j)))))))))))))
set_option maxRecDepth 20000 in
theorem wL_law_952 {sc : List Nat} (hZ : zO b e D A X) (hS : zS b e D A X sc) (j : Nat → rx_K) (hj : ∀ k pc, [18][k]? = some pc → rx_OK (zV b e D A X) mL_law 1235 pc (j k)) : rx_OK (zV b e D A X) mL_law 1235 952 (vL_law_952 sc j) := by
  unfold vL_law_952
  refine s_aload_n hZ.1 dL_law_952 rfl ?_
  refine s_iload_n hZ.1 dL_law_953 rfl ?_
  refine s_iconst dL_law_954 (by decide +kernel) ?_
  refine s_iadd dL_law_955 ?_
  refine s_xiw hS.2 hS.1 dL_law_956 ?_
  refine s_aload_n hZ.1 dL_law_957 rfl ?_
  refine s_iload_n hZ.1 dL_law_958 rfl ?_
  refine s_iconst dL_law_959 (by decide +kernel) ?_
  refine s_iadd dL_law_960 ?_
  refine s_xiw hS.2 hS.1 dL_law_961 ?_
  refine s_callV hZ.1 (Met_X13_differ hZ) (Nat.le_of_ble_eq_true rfl) vy_X13_differ zcl13 zw3987 zw3988 (Or.inl zw3986) dL_law_962 ?_
  refine s_pop hZ.1 dL_law_965 ?_
  exact s_goto dL_law_966 (by decide) (wL_law_1341 hZ hS j hj)
noncomputable def vL_law_926 (sc : List Nat) (j : Nat → rx_K) : rx_K := o_ld rx_isR 1 (o_ld rx_isR 0 (o_ld rx_isI 3 (o_const 8 (o_bi (fun x y => x + y) (o_xald 500 sc (o_ld rx_isR 0 (o_ld rx_isI 3 (o_const 16 (o_bi (fun x y => x + y) (o_xald 500 sc (o_ld rx_isR 0 (o_ld rx_isI 3 (o_const 24 (o_bi (fun x y => x + y) (o_xald 500 sc (o_callV 3 12 FX12_differ (o_pop (o_ld rx_isR 2 (o_ld rx_isR 0 (o_ld rx_isI 3 (o_const 8 (o_bi (fun x y => x + y) (o_xald 500 sc ((vL_law_952 sc j)))))))))))))))))))))))))
set_option maxRecDepth 20000 in
theorem wL_law_926 {sc : List Nat} (hZ : zO b e D A X) (hS : zS b e D A X sc) (j : Nat → rx_K) (hj : ∀ k pc, [18][k]? = some pc → rx_OK (zV b e D A X) mL_law 1235 pc (j k)) : rx_OK (zV b e D A X) mL_law 1235 926 (vL_law_926 sc j) := by
  unfold vL_law_926
  refine s_aload_n hZ.1 dL_law_926 rfl ?_
  refine s_aload_n hZ.1 dL_law_927 rfl ?_
  refine s_iload_n hZ.1 dL_law_928 rfl ?_
  refine s_iconst dL_law_929 (by decide +kernel) ?_
  refine s_iadd dL_law_930 ?_
  refine s_xiw hS.2 hS.1 dL_law_931 ?_
  refine s_aload_n hZ.1 dL_law_932 rfl ?_
  refine s_iload_n hZ.1 dL_law_933 rfl ?_
  refine s_iconst dL_law_934 (by decide +kernel) ?_
  refine s_iadd dL_law_935 ?_
  refine s_xiw hS.2 hS.1 dL_law_936 ?_
  refine s_aload_n hZ.1 dL_law_937 rfl ?_
  refine s_iload_n hZ.1 dL_law_938 rfl ?_
  refine s_iconst dL_law_939 (by decide +kernel) ?_
  refine s_iadd dL_law_940 ?_
  refine s_xiw hS.2 hS.1 dL_law_941 ?_
  refine s_callV hZ.1 (Met_X12_differ hZ) (Nat.le_of_ble_eq_true rfl) vy_X12_differ zcl12 zw2595 zw2596 (Or.inl zw2594) dL_law_942 ?_
  refine s_pop hZ.1 dL_law_945 ?_
  refine s_aload_n hZ.1 dL_law_946 rfl ?_
  refine s_aload_n hZ.1 dL_law_947 rfl ?_
  refine s_iload_n hZ.1 dL_law_948 rfl ?_
  refine s_iconst dL_law_949 (by decide +kernel) ?_
  refine s_iadd dL_law_950 ?_
  refine s_xiw hS.2 hS.1 dL_law_951 ?_
  exact (wL_law_952 hZ hS j hj)
noncomputable def vL_law_913 (sc : List Nat) (j : Nat → rx_K) : rx_K := o_ld rx_isR 1 (o_callV 0 12 FX12_choose (o_pop (o_ld rx_isR 2 (o_callV 0 13 FX13_choose (o_pop ((vL_law_1341 sc j)))))))
set_option maxRecDepth 20000 in
theorem wL_law_913 {sc : List Nat} (hZ : zO b e D A X) (hS : zS b e D A X sc) (j : Nat → rx_K) (hj : ∀ k pc, [18][k]? = some pc → rx_OK (zV b e D A X) mL_law 1235 pc (j k)) : rx_OK (zV b e D A X) mL_law 1235 913 (vL_law_913 sc j) := by
  unfold vL_law_913
  refine s_aload_n hZ.1 dL_law_913 rfl ?_
  refine s_callV hZ.1 (Met_X12_choose hZ) (Nat.le_of_ble_eq_true rfl) vy_X12_choose zcl12 zw2582 zw2583 (Or.inl zw2581) dL_law_914 ?_
  refine s_pop hZ.1 dL_law_917 ?_
  refine s_aload_n hZ.1 dL_law_918 rfl ?_
  refine s_callV hZ.1 (Met_X13_choose hZ) (Nat.le_of_ble_eq_true rfl) vy_X13_choose zcl13 zw3791 zw3792 (Or.inl zw3790) dL_law_919 ?_
  refine s_pop hZ.1 dL_law_922 ?_
  exact s_goto dL_law_923 (by decide) (wL_law_1341 hZ hS j hj)
noncomputable def vL_law_900 (sc : List Nat) (j : Nat → rx_K) : rx_K := o_ld rx_isR 1 (o_callV 0 12 FX12_stale (o_pop (o_ld rx_isR 2 (o_callV 0 13 FX13_stale (o_pop ((vL_law_1341 sc j)))))))
set_option maxRecDepth 20000 in
theorem wL_law_900 {sc : List Nat} (hZ : zO b e D A X) (hS : zS b e D A X sc) (j : Nat → rx_K) (hj : ∀ k pc, [18][k]? = some pc → rx_OK (zV b e D A X) mL_law 1235 pc (j k)) : rx_OK (zV b e D A X) mL_law 1235 900 (vL_law_900 sc j) := by
  unfold vL_law_900
  refine s_aload_n hZ.1 dL_law_900 rfl ?_
  refine s_callV hZ.1 (Met_X12_stale hZ) (Nat.le_of_ble_eq_true rfl) vy_X12_stale zcl12 zw2578 zw2579 (Or.inl zw2577) dL_law_901 ?_
  refine s_pop hZ.1 dL_law_904 ?_
  refine s_aload_n hZ.1 dL_law_905 rfl ?_
  refine s_callV hZ.1 (Met_X13_stale hZ) (Nat.le_of_ble_eq_true rfl) vy_X13_stale zcl13 zw3787 zw3788 (Or.inl zw3786) dL_law_906 ?_
  refine s_pop hZ.1 dL_law_909 ?_
  exact s_goto dL_law_910 (by decide) (wL_law_1341 hZ hS j hj)
noncomputable def vL_law_893 (sc : List Nat) (j : Nat → rx_K) : rx_K := o_callV 2 13 FX13_brokenAt (o_pop ((vL_law_1341 sc j)))
set_option maxRecDepth 20000 in
theorem wL_law_893 {sc : List Nat} (hZ : zO b e D A X) (hS : zS b e D A X sc) (j : Nat → rx_K) (hj : ∀ k pc, [18][k]? = some pc → rx_OK (zV b e D A X) mL_law 1235 pc (j k)) : rx_OK (zV b e D A X) mL_law 1235 893 (vL_law_893 sc j) := by
  unfold vL_law_893
  refine s_callV hZ.1 (Met_X13_brokenAt hZ) (Nat.le_of_ble_eq_true rfl) vy_X13_brokenAt zcl13 zw3783 zw3784 (Or.inl zw3782) dL_law_893 ?_
  refine s_pop hZ.1 dL_law_896 ?_
  exact s_goto dL_law_897 (by decide) (wL_law_1341 hZ hS j hj)
noncomputable def vL_law_867 (sc : List Nat) (j : Nat → rx_K) : rx_K := o_ld rx_isR 1 (o_ld rx_isR 0 (o_ld rx_isI 3 (o_const 8 (o_bi (fun x y => x + y) (o_xald 500 sc (o_ld rx_isR 0 (o_ld rx_isI 3 (o_const 16 (o_bi (fun x y => x + y) (o_xald 500 sc (o_callV 2 12 FX12_brokenAt (o_pop (o_ld rx_isR 2 (o_ld rx_isR 0 (o_ld rx_isI 3 (o_const 8 (o_bi (fun x y => x + y) (o_xald 500 sc (o_ld rx_isR 0 (o_ld rx_isI 3 (o_const 16 (o_bi (fun x y => x + y) (o_xald 500 sc ((vL_law_893 sc j)))))))))))))))))))))))))
set_option maxRecDepth 20000 in
theorem wL_law_867 {sc : List Nat} (hZ : zO b e D A X) (hS : zS b e D A X sc) (j : Nat → rx_K) (hj : ∀ k pc, [18][k]? = some pc → rx_OK (zV b e D A X) mL_law 1235 pc (j k)) : rx_OK (zV b e D A X) mL_law 1235 867 (vL_law_867 sc j) := by
  unfold vL_law_867
  refine s_aload_n hZ.1 dL_law_867 rfl ?_
  refine s_aload_n hZ.1 dL_law_868 rfl ?_
  refine s_iload_n hZ.1 dL_law_869 rfl ?_
  refine s_iconst dL_law_870 (by decide +kernel) ?_
  refine s_iadd dL_law_871 ?_
  refine s_xiw hS.2 hS.1 dL_law_872 ?_
  refine s_aload_n hZ.1 dL_law_873 rfl ?_
  refine s_iload_n hZ.1 dL_law_874 rfl ?_
  refine s_iconst dL_law_875 (by decide +kernel) ?_
  refine s_iadd dL_law_876 ?_
  refine s_xiw hS.2 hS.1 dL_law_877 ?_
  refine s_callV hZ.1 (Met_X12_brokenAt hZ) (Nat.le_of_ble_eq_true rfl) vy_X12_brokenAt zcl12 zw2574 zw2575 (Or.inl zw2573) dL_law_878 ?_
  refine s_pop hZ.1 dL_law_881 ?_
  refine s_aload_n hZ.1 dL_law_882 rfl ?_
  refine s_aload_n hZ.1 dL_law_883 rfl ?_
  refine s_iload_n hZ.1 dL_law_884 rfl ?_
  refine s_iconst dL_law_885 (by decide +kernel) ?_
  refine s_iadd dL_law_886 ?_
  refine s_xiw hS.2 hS.1 dL_law_887 ?_
  refine s_aload_n hZ.1 dL_law_888 rfl ?_
  refine s_iload_n hZ.1 dL_law_889 rfl ?_
  refine s_iconst dL_law_890 (by decide +kernel) ?_
  refine s_iadd dL_law_891 ?_
  refine s_xiw hS.2 hS.1 dL_law_892 ?_
  exact (wL_law_893 hZ hS j hj)
noncomputable def vL_law_854 (sc : List Nat) (j : Nat → rx_K) : rx_K := o_ld rx_isR 1 (o_callV 0 12 FX12_broken (o_pop (o_ld rx_isR 2 (o_callV 0 13 FX13_broken (o_pop ((vL_law_1341 sc j)))))))
set_option maxRecDepth 20000 in
theorem wL_law_854 {sc : List Nat} (hZ : zO b e D A X) (hS : zS b e D A X sc) (j : Nat → rx_K) (hj : ∀ k pc, [18][k]? = some pc → rx_OK (zV b e D A X) mL_law 1235 pc (j k)) : rx_OK (zV b e D A X) mL_law 1235 854 (vL_law_854 sc j) := by
  unfold vL_law_854
  refine s_aload_n hZ.1 dL_law_854 rfl ?_
  refine s_callV hZ.1 (Met_X12_broken hZ) (Nat.le_of_ble_eq_true rfl) vy_X12_broken zcl12 zw2557 zw2558 (Or.inl zw2556) dL_law_855 ?_
  refine s_pop hZ.1 dL_law_858 ?_
  refine s_aload_n hZ.1 dL_law_859 rfl ?_
  refine s_callV hZ.1 (Met_X13_broken hZ) (Nat.le_of_ble_eq_true rfl) vy_X13_broken zcl13 zw3779 zw3780 (Or.inl zw3778) dL_law_860 ?_
  refine s_pop hZ.1 dL_law_863 ?_
  exact s_goto dL_law_864 (by decide) (wL_law_1341 hZ hS j hj)
noncomputable def vL_law_831 (sc : List Nat) (j : Nat → rx_K) : rx_K := o_ld rx_isR 1 (o_ld rx_isR 0 (o_ld rx_isI 3 (o_const 8 (o_bi (fun x y => x + y) (o_xald 500 sc (o_callV 1 12 FX12_looked (o_pop (o_ld rx_isR 2 (o_ld rx_isR 0 (o_ld rx_isI 3 (o_const 8 (o_bi (fun x y => x + y) (o_xald 500 sc (o_callV 1 13 FX13_looked (o_pop ((vL_law_1341 sc j)))))))))))))))))
set_option maxRecDepth 20000 in
theorem wL_law_831 {sc : List Nat} (hZ : zO b e D A X) (hS : zS b e D A X sc) (j : Nat → rx_K) (hj : ∀ k pc, [18][k]? = some pc → rx_OK (zV b e D A X) mL_law 1235 pc (j k)) : rx_OK (zV b e D A X) mL_law 1235 831 (vL_law_831 sc j) := by
  unfold vL_law_831
  refine s_aload_n hZ.1 dL_law_831 rfl ?_
  refine s_aload_n hZ.1 dL_law_832 rfl ?_
  refine s_iload_n hZ.1 dL_law_833 rfl ?_
  refine s_iconst dL_law_834 (by decide +kernel) ?_
  refine s_iadd dL_law_835 ?_
  refine s_xiw hS.2 hS.1 dL_law_836 ?_
  refine s_callV hZ.1 (Met_X12_looked hZ) (Nat.le_of_ble_eq_true rfl) vy_X12_looked zcl12 zw2553 zw2554 (Or.inl zw2552) dL_law_837 ?_
  refine s_pop hZ.1 dL_law_840 ?_
  refine s_aload_n hZ.1 dL_law_841 rfl ?_
  refine s_aload_n hZ.1 dL_law_842 rfl ?_
  refine s_iload_n hZ.1 dL_law_843 rfl ?_
  refine s_iconst dL_law_844 (by decide +kernel) ?_
  refine s_iadd dL_law_845 ?_
  refine s_xiw hS.2 hS.1 dL_law_846 ?_
  refine s_callV hZ.1 (Met_X13_looked hZ) (Nat.le_of_ble_eq_true rfl) vy_X13_looked zcl13 zw3775 zw3776 (Or.inl zw3774) dL_law_847 ?_
  refine s_pop hZ.1 dL_law_850 ?_
  exact s_goto dL_law_851 (by decide) (wL_law_1341 hZ hS j hj)
noncomputable def vL_law_818 (sc : List Nat) (j : Nat → rx_K) : rx_K := o_ld rx_isR 1 (o_callV 0 12 FX12_met (o_pop (o_ld rx_isR 2 (o_callV 0 13 FX13_met (o_pop ((vL_law_1341 sc j)))))))
set_option maxRecDepth 20000 in
theorem wL_law_818 {sc : List Nat} (hZ : zO b e D A X) (hS : zS b e D A X sc) (j : Nat → rx_K) (hj : ∀ k pc, [18][k]? = some pc → rx_OK (zV b e D A X) mL_law 1235 pc (j k)) : rx_OK (zV b e D A X) mL_law 1235 818 (vL_law_818 sc j) := by
  unfold vL_law_818
  refine s_aload_n hZ.1 dL_law_818 rfl ?_
  refine s_callV hZ.1 (Met_X12_met hZ) (Nat.le_of_ble_eq_true rfl) vy_X12_met zcl12 zw2549 zw2550 (Or.inl zw2548) dL_law_819 ?_
  refine s_pop hZ.1 dL_law_822 ?_
  refine s_aload_n hZ.1 dL_law_823 rfl ?_
  refine s_callV hZ.1 (Met_X13_met hZ) (Nat.le_of_ble_eq_true rfl) vy_X13_met zcl13 zw3771 zw3772 (Or.inl zw3770) dL_law_824 ?_
  refine s_pop hZ.1 dL_law_827 ?_
  exact s_goto dL_law_828 (by decide) (wL_law_1341 hZ hS j hj)
noncomputable def vL_law_801 (sc : List Nat) (j : Nat → rx_K) : rx_K := o_ld rx_isR 0 (o_ld rx_isI 3 (o_const 16 (o_bi (fun x y => x + y) (o_xald 500 sc (o_ld rx_isR 0 (o_ld rx_isI 3 (o_const 24 (o_bi (fun x y => x + y) (o_xald 500 sc (o_callV 3 13 FX13_meet (o_pop ((vL_law_1341 sc j)))))))))))))
set_option maxRecDepth 20000 in
theorem wL_law_801 {sc : List Nat} (hZ : zO b e D A X) (hS : zS b e D A X sc) (j : Nat → rx_K) (hj : ∀ k pc, [18][k]? = some pc → rx_OK (zV b e D A X) mL_law 1235 pc (j k)) : rx_OK (zV b e D A X) mL_law 1235 801 (vL_law_801 sc j) := by
  unfold vL_law_801
  refine s_aload_n hZ.1 dL_law_801 rfl ?_
  refine s_iload_n hZ.1 dL_law_802 rfl ?_
  refine s_iconst dL_law_803 (by decide +kernel) ?_
  refine s_iadd dL_law_804 ?_
  refine s_xiw hS.2 hS.1 dL_law_805 ?_
  refine s_aload_n hZ.1 dL_law_806 rfl ?_
  refine s_iload_n hZ.1 dL_law_807 rfl ?_
  refine s_iconst dL_law_808 (by decide +kernel) ?_
  refine s_iadd dL_law_809 ?_
  refine s_xiw hS.2 hS.1 dL_law_810 ?_
  refine s_callV hZ.1 (Met_X13_meet hZ) (Nat.le_of_ble_eq_true rfl) vy_X13_meet zcl13 zw3711 zw3712 (Or.inl zw3710) dL_law_811 ?_
  refine s_pop hZ.1 dL_law_814 ?_
  exact s_goto dL_law_815 (by decide) (wL_law_1341 hZ hS j hj)
noncomputable def vL_law_775 (sc : List Nat) (j : Nat → rx_K) : rx_K := o_ld rx_isR 1 (o_ld rx_isR 0 (o_ld rx_isI 3 (o_const 8 (o_bi (fun x y => x + y) (o_xald 500 sc (o_ld rx_isR 0 (o_ld rx_isI 3 (o_const 16 (o_bi (fun x y => x + y) (o_xald 500 sc (o_ld rx_isR 0 (o_ld rx_isI 3 (o_const 24 (o_bi (fun x y => x + y) (o_xald 500 sc (o_callV 3 12 FX12_meet (o_pop (o_ld rx_isR 2 (o_ld rx_isR 0 (o_ld rx_isI 3 (o_const 8 (o_bi (fun x y => x + y) (o_xald 500 sc ((vL_law_801 sc j)))))))))))))))))))))))))
set_option maxRecDepth 20000 in
theorem wL_law_775 {sc : List Nat} (hZ : zO b e D A X) (hS : zS b e D A X sc) (j : Nat → rx_K) (hj : ∀ k pc, [18][k]? = some pc → rx_OK (zV b e D A X) mL_law 1235 pc (j k)) : rx_OK (zV b e D A X) mL_law 1235 775 (vL_law_775 sc j) := by
  unfold vL_law_775
  refine s_aload_n hZ.1 dL_law_775 rfl ?_
  refine s_aload_n hZ.1 dL_law_776 rfl ?_
  refine s_iload_n hZ.1 dL_law_777 rfl ?_
  refine s_iconst dL_law_778 (by decide +kernel) ?_
  refine s_iadd dL_law_779 ?_
  refine s_xiw hS.2 hS.1 dL_law_780 ?_
  refine s_aload_n hZ.1 dL_law_781 rfl ?_
  refine s_iload_n hZ.1 dL_law_782 rfl ?_
  refine s_iconst dL_law_783 (by decide +kernel) ?_
  refine s_iadd dL_law_784 ?_
  refine s_xiw hS.2 hS.1 dL_law_785 ?_
  refine s_aload_n hZ.1 dL_law_786 rfl ?_
  refine s_iload_n hZ.1 dL_law_787 rfl ?_
  refine s_iconst dL_law_788 (by decide +kernel) ?_
  refine s_iadd dL_law_789 ?_
  refine s_xiw hS.2 hS.1 dL_law_790 ?_
  refine s_callV hZ.1 (Met_X12_meet hZ) (Nat.le_of_ble_eq_true rfl) vy_X12_meet zcl12 zw2471 zw2472 (Or.inl zw2470) dL_law_791 ?_
  refine s_pop hZ.1 dL_law_794 ?_
  refine s_aload_n hZ.1 dL_law_795 rfl ?_
  refine s_aload_n hZ.1 dL_law_796 rfl ?_
  refine s_iload_n hZ.1 dL_law_797 rfl ?_
  refine s_iconst dL_law_798 (by decide +kernel) ?_
  refine s_iadd dL_law_799 ?_
  refine s_xiw hS.2 hS.1 dL_law_800 ?_
  exact (wL_law_801 hZ hS j hj)
noncomputable def vL_law_758 (sc : List Nat) (j : Nat → rx_K) : rx_K := o_ld rx_isR 0 (o_ld rx_isI 3 (o_const 16 (o_bi (fun x y => x + y) (o_xald 500 sc (o_ld rx_isR 0 (o_ld rx_isI 3 (o_const 24 (o_bi (fun x y => x + y) (o_xald 500 sc (o_callV 3 13 FX13_tell (o_pop ((vL_law_1341 sc j)))))))))))))
set_option maxRecDepth 20000 in
theorem wL_law_758 {sc : List Nat} (hZ : zO b e D A X) (hS : zS b e D A X sc) (j : Nat → rx_K) (hj : ∀ k pc, [18][k]? = some pc → rx_OK (zV b e D A X) mL_law 1235 pc (j k)) : rx_OK (zV b e D A X) mL_law 1235 758 (vL_law_758 sc j) := by
  unfold vL_law_758
  refine s_aload_n hZ.1 dL_law_758 rfl ?_
  refine s_iload_n hZ.1 dL_law_759 rfl ?_
  refine s_iconst dL_law_760 (by decide +kernel) ?_
  refine s_iadd dL_law_761 ?_
  refine s_xiw hS.2 hS.1 dL_law_762 ?_
  refine s_aload_n hZ.1 dL_law_763 rfl ?_
  refine s_iload_n hZ.1 dL_law_764 rfl ?_
  refine s_iconst dL_law_765 (by decide +kernel) ?_
  refine s_iadd dL_law_766 ?_
  refine s_xiw hS.2 hS.1 dL_law_767 ?_
  refine s_callV hZ.1 (Met_X13_tell hZ) (Nat.le_of_ble_eq_true rfl) vy_X13_tell zcl13 zw3703 zw3704 (Or.inl zw3702) dL_law_768 ?_
  refine s_pop hZ.1 dL_law_771 ?_
  exact s_goto dL_law_772 (by decide) (wL_law_1341 hZ hS j hj)
noncomputable def vL_law_732 (sc : List Nat) (j : Nat → rx_K) : rx_K := o_ld rx_isR 1 (o_ld rx_isR 0 (o_ld rx_isI 3 (o_const 8 (o_bi (fun x y => x + y) (o_xald 500 sc (o_ld rx_isR 0 (o_ld rx_isI 3 (o_const 16 (o_bi (fun x y => x + y) (o_xald 500 sc (o_ld rx_isR 0 (o_ld rx_isI 3 (o_const 24 (o_bi (fun x y => x + y) (o_xald 500 sc (o_callV 3 12 FX12_tell (o_pop (o_ld rx_isR 2 (o_ld rx_isR 0 (o_ld rx_isI 3 (o_const 8 (o_bi (fun x y => x + y) (o_xald 500 sc ((vL_law_758 sc j)))))))))))))))))))))))))
set_option maxRecDepth 20000 in
theorem wL_law_732 {sc : List Nat} (hZ : zO b e D A X) (hS : zS b e D A X sc) (j : Nat → rx_K) (hj : ∀ k pc, [18][k]? = some pc → rx_OK (zV b e D A X) mL_law 1235 pc (j k)) : rx_OK (zV b e D A X) mL_law 1235 732 (vL_law_732 sc j) := by
  unfold vL_law_732
  refine s_aload_n hZ.1 dL_law_732 rfl ?_
  refine s_aload_n hZ.1 dL_law_733 rfl ?_
  refine s_iload_n hZ.1 dL_law_734 rfl ?_
  refine s_iconst dL_law_735 (by decide +kernel) ?_
  refine s_iadd dL_law_736 ?_
  refine s_xiw hS.2 hS.1 dL_law_737 ?_
  refine s_aload_n hZ.1 dL_law_738 rfl ?_
  refine s_iload_n hZ.1 dL_law_739 rfl ?_
  refine s_iconst dL_law_740 (by decide +kernel) ?_
  refine s_iadd dL_law_741 ?_
  refine s_xiw hS.2 hS.1 dL_law_742 ?_
  refine s_aload_n hZ.1 dL_law_743 rfl ?_
  refine s_iload_n hZ.1 dL_law_744 rfl ?_
  refine s_iconst dL_law_745 (by decide +kernel) ?_
  refine s_iadd dL_law_746 ?_
  refine s_xiw hS.2 hS.1 dL_law_747 ?_
  refine s_callV hZ.1 (Met_X12_tell hZ) (Nat.le_of_ble_eq_true rfl) vy_X12_tell zcl12 zw2460 zw2461 (Or.inl zw2459) dL_law_748 ?_
  refine s_pop hZ.1 dL_law_751 ?_
  refine s_aload_n hZ.1 dL_law_752 rfl ?_
  refine s_aload_n hZ.1 dL_law_753 rfl ?_
  refine s_iload_n hZ.1 dL_law_754 rfl ?_
  refine s_iconst dL_law_755 (by decide +kernel) ?_
  refine s_iadd dL_law_756 ?_
  refine s_xiw hS.2 hS.1 dL_law_757 ?_
  exact (wL_law_758 hZ hS j hj)
noncomputable def vL_law_705 (sc : List Nat) (j : Nat → rx_K) : rx_K := o_ld rx_isR 0 (o_ld rx_isI 3 (o_const 8 (o_bi (fun x y => x + y) (o_xald 500 sc (o_ld rx_isR 0 (o_ld rx_isI 3 (o_const 16 (o_bi (fun x y => x + y) (o_xald 500 sc (o_ld rx_isR 0 (o_ld rx_isI 3 (o_const 24 (o_bi (fun x y => x + y) (o_xald 500 sc (o_ld rx_isR 0 (o_ld rx_isI 3 (o_const 32 (o_bi (fun x y => x + y) (o_xald 500 sc (o_callV 4 13 FX13_use (o_pop ((vL_law_1341 sc j)))))))))))))))))))))))
set_option maxRecDepth 20000 in
theorem wL_law_705 {sc : List Nat} (hZ : zO b e D A X) (hS : zS b e D A X sc) (j : Nat → rx_K) (hj : ∀ k pc, [18][k]? = some pc → rx_OK (zV b e D A X) mL_law 1235 pc (j k)) : rx_OK (zV b e D A X) mL_law 1235 705 (vL_law_705 sc j) := by
  unfold vL_law_705
  refine s_aload_n hZ.1 dL_law_705 rfl ?_
  refine s_iload_n hZ.1 dL_law_706 rfl ?_
  refine s_iconst dL_law_707 (by decide +kernel) ?_
  refine s_iadd dL_law_708 ?_
  refine s_xiw hS.2 hS.1 dL_law_709 ?_
  refine s_aload_n hZ.1 dL_law_710 rfl ?_
  refine s_iload_n hZ.1 dL_law_711 rfl ?_
  refine s_iconst dL_law_712 (by decide +kernel) ?_
  refine s_iadd dL_law_713 ?_
  refine s_xiw hS.2 hS.1 dL_law_714 ?_
  refine s_aload_n hZ.1 dL_law_715 rfl ?_
  refine s_iload_n hZ.1 dL_law_716 rfl ?_
  refine s_iconst dL_law_717 (by decide +kernel) ?_
  refine s_iadd dL_law_718 ?_
  refine s_xiw hS.2 hS.1 dL_law_719 ?_
  refine s_aload_n hZ.1 dL_law_720 rfl ?_
  refine s_iload_n hZ.1 dL_law_721 rfl ?_
  refine s_iconst dL_law_722 (by decide +kernel) ?_
  refine s_iadd dL_law_723 ?_
  refine s_xiw hS.2 hS.1 dL_law_724 ?_
  refine s_callV hZ.1 (Met_X13_use hZ) (Nat.le_of_ble_eq_true rfl) vy_X13_use zcl13 zw3695 zw3696 (Or.inl zw3694) dL_law_725 ?_
  refine s_pop hZ.1 dL_law_728 ?_
  exact s_goto dL_law_729 (by decide) (wL_law_1341 hZ hS j hj)
noncomputable def vL_law_679 (sc : List Nat) (j : Nat → rx_K) : rx_K := o_ld rx_isR 1 (o_ld rx_isR 0 (o_ld rx_isI 3 (o_const 8 (o_bi (fun x y => x + y) (o_xald 500 sc (o_ld rx_isR 0 (o_ld rx_isI 3 (o_const 16 (o_bi (fun x y => x + y) (o_xald 500 sc (o_ld rx_isR 0 (o_ld rx_isI 3 (o_const 24 (o_bi (fun x y => x + y) (o_xald 500 sc (o_ld rx_isR 0 (o_ld rx_isI 3 (o_const 32 (o_bi (fun x y => x + y) (o_xald 500 sc (o_callV 4 12 FX12_use (o_pop (o_ld rx_isR 2 ((vL_law_705 sc j)))))))))))))))))))))))))
set_option maxRecDepth 20000 in
theorem wL_law_679 {sc : List Nat} (hZ : zO b e D A X) (hS : zS b e D A X sc) (j : Nat → rx_K) (hj : ∀ k pc, [18][k]? = some pc → rx_OK (zV b e D A X) mL_law 1235 pc (j k)) : rx_OK (zV b e D A X) mL_law 1235 679 (vL_law_679 sc j) := by
  unfold vL_law_679
  refine s_aload_n hZ.1 dL_law_679 rfl ?_
  refine s_aload_n hZ.1 dL_law_680 rfl ?_
  refine s_iload_n hZ.1 dL_law_681 rfl ?_
  refine s_iconst dL_law_682 (by decide +kernel) ?_
  refine s_iadd dL_law_683 ?_
  refine s_xiw hS.2 hS.1 dL_law_684 ?_
  refine s_aload_n hZ.1 dL_law_685 rfl ?_
  refine s_iload_n hZ.1 dL_law_686 rfl ?_
  refine s_iconst dL_law_687 (by decide +kernel) ?_
  refine s_iadd dL_law_688 ?_
  refine s_xiw hS.2 hS.1 dL_law_689 ?_
  refine s_aload_n hZ.1 dL_law_690 rfl ?_
  refine s_iload_n hZ.1 dL_law_691 rfl ?_
  refine s_iconst dL_law_692 (by decide +kernel) ?_
  refine s_iadd dL_law_693 ?_
  refine s_xiw hS.2 hS.1 dL_law_694 ?_
  refine s_aload_n hZ.1 dL_law_695 rfl ?_
  refine s_iload_n hZ.1 dL_law_696 rfl ?_
  refine s_iconst dL_law_697 (by decide +kernel) ?_
  refine s_iadd dL_law_698 ?_
  refine s_xiw hS.2 hS.1 dL_law_699 ?_
  refine s_callV hZ.1 (Met_X12_use hZ) (Nat.le_of_ble_eq_true rfl) vy_X12_use zcl12 zw2453 zw2454 (Or.inl zw2452) dL_law_700 ?_
  refine s_pop hZ.1 dL_law_703 ?_
  refine s_aload_n hZ.1 dL_law_704 rfl ?_
  exact (wL_law_705 hZ hS j hj)
noncomputable def vL_law_672 (sc : List Nat) (j : Nat → rx_K) : rx_K := o_callV 2 13 FX13_uses (o_pop ((vL_law_1341 sc j)))
set_option maxRecDepth 20000 in
theorem wL_law_672 {sc : List Nat} (hZ : zO b e D A X) (hS : zS b e D A X sc) (j : Nat → rx_K) (hj : ∀ k pc, [18][k]? = some pc → rx_OK (zV b e D A X) mL_law 1235 pc (j k)) : rx_OK (zV b e D A X) mL_law 1235 672 (vL_law_672 sc j) := by
  unfold vL_law_672
  refine s_callV hZ.1 (Met_X13_uses hZ) (Nat.le_of_ble_eq_true rfl) vy_X13_uses zcl13 zw3691 zw3692 (Or.inl zw3690) dL_law_672 ?_
  refine s_pop hZ.1 dL_law_675 ?_
  exact s_goto dL_law_676 (by decide) (wL_law_1341 hZ hS j hj)
noncomputable def vL_law_646 (sc : List Nat) (j : Nat → rx_K) : rx_K := o_ld rx_isR 1 (o_ld rx_isR 0 (o_ld rx_isI 3 (o_const 8 (o_bi (fun x y => x + y) (o_xald 500 sc (o_ld rx_isR 0 (o_ld rx_isI 3 (o_const 16 (o_bi (fun x y => x + y) (o_xald 500 sc (o_callV 2 12 FX12_uses (o_pop (o_ld rx_isR 2 (o_ld rx_isR 0 (o_ld rx_isI 3 (o_const 8 (o_bi (fun x y => x + y) (o_xald 500 sc (o_ld rx_isR 0 (o_ld rx_isI 3 (o_const 16 (o_bi (fun x y => x + y) (o_xald 500 sc ((vL_law_672 sc j)))))))))))))))))))))))))
set_option maxRecDepth 20000 in
theorem wL_law_646 {sc : List Nat} (hZ : zO b e D A X) (hS : zS b e D A X sc) (j : Nat → rx_K) (hj : ∀ k pc, [18][k]? = some pc → rx_OK (zV b e D A X) mL_law 1235 pc (j k)) : rx_OK (zV b e D A X) mL_law 1235 646 (vL_law_646 sc j) := by
  unfold vL_law_646
  refine s_aload_n hZ.1 dL_law_646 rfl ?_
  refine s_aload_n hZ.1 dL_law_647 rfl ?_
  refine s_iload_n hZ.1 dL_law_648 rfl ?_
  refine s_iconst dL_law_649 (by decide +kernel) ?_
  refine s_iadd dL_law_650 ?_
  refine s_xiw hS.2 hS.1 dL_law_651 ?_
  refine s_aload_n hZ.1 dL_law_652 rfl ?_
  refine s_iload_n hZ.1 dL_law_653 rfl ?_
  refine s_iconst dL_law_654 (by decide +kernel) ?_
  refine s_iadd dL_law_655 ?_
  refine s_xiw hS.2 hS.1 dL_law_656 ?_
  refine s_callV hZ.1 (Met_X12_uses hZ) (Nat.le_of_ble_eq_true rfl) vy_X12_uses zcl12 zw2449 zw2450 (Or.inl zw2448) dL_law_657 ?_
  refine s_pop hZ.1 dL_law_660 ?_
  refine s_aload_n hZ.1 dL_law_661 rfl ?_
  refine s_aload_n hZ.1 dL_law_662 rfl ?_
  refine s_iload_n hZ.1 dL_law_663 rfl ?_
  refine s_iconst dL_law_664 (by decide +kernel) ?_
  refine s_iadd dL_law_665 ?_
  refine s_xiw hS.2 hS.1 dL_law_666 ?_
  refine s_aload_n hZ.1 dL_law_667 rfl ?_
  refine s_iload_n hZ.1 dL_law_668 rfl ?_
  refine s_iconst dL_law_669 (by decide +kernel) ?_
  refine s_iadd dL_law_670 ?_
  refine s_xiw hS.2 hS.1 dL_law_671 ?_
  exact (wL_law_672 hZ hS j hj)
noncomputable def vL_law_619 (sc : List Nat) (j : Nat → rx_K) : rx_K := o_ld rx_isR 0 (o_ld rx_isI 3 (o_const 8 (o_bi (fun x y => x + y) (o_xald 500 sc (o_ld rx_isR 0 (o_ld rx_isI 3 (o_const 16 (o_bi (fun x y => x + y) (o_xald 500 sc (o_ld rx_isR 0 (o_ld rx_isI 3 (o_const 24 (o_bi (fun x y => x + y) (o_xald 500 sc (o_ld rx_isR 0 (o_ld rx_isI 3 (o_const 32 (o_bi (fun x y => x + y) (o_xald 500 sc (o_callV 4 13 FX13_shape (o_pop ((vL_law_1341 sc j)))))))))))))))))))))))
set_option maxRecDepth 20000 in
theorem wL_law_619 {sc : List Nat} (hZ : zO b e D A X) (hS : zS b e D A X sc) (j : Nat → rx_K) (hj : ∀ k pc, [18][k]? = some pc → rx_OK (zV b e D A X) mL_law 1235 pc (j k)) : rx_OK (zV b e D A X) mL_law 1235 619 (vL_law_619 sc j) := by
  unfold vL_law_619
  refine s_aload_n hZ.1 dL_law_619 rfl ?_
  refine s_iload_n hZ.1 dL_law_620 rfl ?_
  refine s_iconst dL_law_621 (by decide +kernel) ?_
  refine s_iadd dL_law_622 ?_
  refine s_xiw hS.2 hS.1 dL_law_623 ?_
  refine s_aload_n hZ.1 dL_law_624 rfl ?_
  refine s_iload_n hZ.1 dL_law_625 rfl ?_
  refine s_iconst dL_law_626 (by decide +kernel) ?_
  refine s_iadd dL_law_627 ?_
  refine s_xiw hS.2 hS.1 dL_law_628 ?_
  refine s_aload_n hZ.1 dL_law_629 rfl ?_
  refine s_iload_n hZ.1 dL_law_630 rfl ?_
  refine s_iconst dL_law_631 (by decide +kernel) ?_
  refine s_iadd dL_law_632 ?_
  refine s_xiw hS.2 hS.1 dL_law_633 ?_
  refine s_aload_n hZ.1 dL_law_634 rfl ?_
  refine s_iload_n hZ.1 dL_law_635 rfl ?_
  refine s_iconst dL_law_636 (by decide +kernel) ?_
  refine s_iadd dL_law_637 ?_
  refine s_xiw hS.2 hS.1 dL_law_638 ?_
  refine s_callV hZ.1 (Met_X13_shape hZ) (Nat.le_of_ble_eq_true rfl) vy_X13_shape zcl13 zw3633 zw3634 (Or.inl zw3632) dL_law_639 ?_
  refine s_pop hZ.1 dL_law_642 ?_
  exact s_goto dL_law_643 (by decide) (wL_law_1341 hZ hS j hj)
noncomputable def vL_law_593 (sc : List Nat) (j : Nat → rx_K) : rx_K := o_ld rx_isR 1 (o_ld rx_isR 0 (o_ld rx_isI 3 (o_const 8 (o_bi (fun x y => x + y) (o_xald 500 sc (o_ld rx_isR 0 (o_ld rx_isI 3 (o_const 16 (o_bi (fun x y => x + y) (o_xald 500 sc (o_ld rx_isR 0 (o_ld rx_isI 3 (o_const 24 (o_bi (fun x y => x + y) (o_xald 500 sc (o_ld rx_isR 0 (o_ld rx_isI 3 (o_const 32 (o_bi (fun x y => x + y) (o_xald 500 sc (o_callV 4 12 FX12_shape (o_pop (o_ld rx_isR 2 ((vL_law_619 sc j)))))))))))))))))))))))))
set_option maxRecDepth 20000 in
theorem wL_law_593 {sc : List Nat} (hZ : zO b e D A X) (hS : zS b e D A X sc) (j : Nat → rx_K) (hj : ∀ k pc, [18][k]? = some pc → rx_OK (zV b e D A X) mL_law 1235 pc (j k)) : rx_OK (zV b e D A X) mL_law 1235 593 (vL_law_593 sc j) := by
  unfold vL_law_593
  refine s_aload_n hZ.1 dL_law_593 rfl ?_
  refine s_aload_n hZ.1 dL_law_594 rfl ?_
  refine s_iload_n hZ.1 dL_law_595 rfl ?_
  refine s_iconst dL_law_596 (by decide +kernel) ?_
  refine s_iadd dL_law_597 ?_
  refine s_xiw hS.2 hS.1 dL_law_598 ?_
  refine s_aload_n hZ.1 dL_law_599 rfl ?_
  refine s_iload_n hZ.1 dL_law_600 rfl ?_
  refine s_iconst dL_law_601 (by decide +kernel) ?_
  refine s_iadd dL_law_602 ?_
  refine s_xiw hS.2 hS.1 dL_law_603 ?_
  refine s_aload_n hZ.1 dL_law_604 rfl ?_
  refine s_iload_n hZ.1 dL_law_605 rfl ?_
  refine s_iconst dL_law_606 (by decide +kernel) ?_
  refine s_iadd dL_law_607 ?_
  refine s_xiw hS.2 hS.1 dL_law_608 ?_
  refine s_aload_n hZ.1 dL_law_609 rfl ?_
  refine s_iload_n hZ.1 dL_law_610 rfl ?_
  refine s_iconst dL_law_611 (by decide +kernel) ?_
  refine s_iadd dL_law_612 ?_
  refine s_xiw hS.2 hS.1 dL_law_613 ?_
  refine s_callV hZ.1 (Met_X12_shape hZ) (Nat.le_of_ble_eq_true rfl) vy_X12_shape zcl12 zw2373 zw2374 (Or.inl zw2372) dL_law_614 ?_
  refine s_pop hZ.1 dL_law_617 ?_
  refine s_aload_n hZ.1 dL_law_618 rfl ?_
  exact (wL_law_619 hZ hS j hj)
noncomputable def vL_law_576 (sc : List Nat) (j : Nat → rx_K) : rx_K := o_ld rx_isR 0 (o_ld rx_isI 3 (o_const 16 (o_bi (fun x y => x + y) (o_xald 500 sc (o_ld rx_isR 0 (o_ld rx_isI 3 (o_const 24 (o_bi (fun x y => x + y) (o_xald 500 sc (o_callV 3 13 FX13_members (o_pop ((vL_law_1341 sc j)))))))))))))
set_option maxRecDepth 20000 in
theorem wL_law_576 {sc : List Nat} (hZ : zO b e D A X) (hS : zS b e D A X sc) (j : Nat → rx_K) (hj : ∀ k pc, [18][k]? = some pc → rx_OK (zV b e D A X) mL_law 1235 pc (j k)) : rx_OK (zV b e D A X) mL_law 1235 576 (vL_law_576 sc j) := by
  unfold vL_law_576
  refine s_aload_n hZ.1 dL_law_576 rfl ?_
  refine s_iload_n hZ.1 dL_law_577 rfl ?_
  refine s_iconst dL_law_578 (by decide +kernel) ?_
  refine s_iadd dL_law_579 ?_
  refine s_xiw hS.2 hS.1 dL_law_580 ?_
  refine s_aload_n hZ.1 dL_law_581 rfl ?_
  refine s_iload_n hZ.1 dL_law_582 rfl ?_
  refine s_iconst dL_law_583 (by decide +kernel) ?_
  refine s_iadd dL_law_584 ?_
  refine s_xiw hS.2 hS.1 dL_law_585 ?_
  refine s_callV hZ.1 (Met_X13_members hZ) (Nat.le_of_ble_eq_true rfl) vy_X13_members zcl13 zw3621 zw3622 (Or.inl zw3620) dL_law_586 ?_
  refine s_pop hZ.1 dL_law_589 ?_
  exact s_goto dL_law_590 (by decide) (wL_law_1341 hZ hS j hj)
noncomputable def vL_law_550 (sc : List Nat) (j : Nat → rx_K) : rx_K := o_ld rx_isR 1 (o_ld rx_isR 0 (o_ld rx_isI 3 (o_const 8 (o_bi (fun x y => x + y) (o_xald 500 sc (o_ld rx_isR 0 (o_ld rx_isI 3 (o_const 16 (o_bi (fun x y => x + y) (o_xald 500 sc (o_ld rx_isR 0 (o_ld rx_isI 3 (o_const 24 (o_bi (fun x y => x + y) (o_xald 500 sc (o_callV 3 12 FX12_members (o_pop (o_ld rx_isR 2 (o_ld rx_isR 0 (o_ld rx_isI 3 (o_const 8 (o_bi (fun x y => x + y) (o_xald 500 sc ((vL_law_576 sc j)))))))))))))))))))))))))
set_option maxRecDepth 20000 in
theorem wL_law_550 {sc : List Nat} (hZ : zO b e D A X) (hS : zS b e D A X sc) (j : Nat → rx_K) (hj : ∀ k pc, [18][k]? = some pc → rx_OK (zV b e D A X) mL_law 1235 pc (j k)) : rx_OK (zV b e D A X) mL_law 1235 550 (vL_law_550 sc j) := by
  unfold vL_law_550
  refine s_aload_n hZ.1 dL_law_550 rfl ?_
  refine s_aload_n hZ.1 dL_law_551 rfl ?_
  refine s_iload_n hZ.1 dL_law_552 rfl ?_
  refine s_iconst dL_law_553 (by decide +kernel) ?_
  refine s_iadd dL_law_554 ?_
  refine s_xiw hS.2 hS.1 dL_law_555 ?_
  refine s_aload_n hZ.1 dL_law_556 rfl ?_
  refine s_iload_n hZ.1 dL_law_557 rfl ?_
  refine s_iconst dL_law_558 (by decide +kernel) ?_
  refine s_iadd dL_law_559 ?_
  refine s_xiw hS.2 hS.1 dL_law_560 ?_
  refine s_aload_n hZ.1 dL_law_561 rfl ?_
  refine s_iload_n hZ.1 dL_law_562 rfl ?_
  refine s_iconst dL_law_563 (by decide +kernel) ?_
  refine s_iadd dL_law_564 ?_
  refine s_xiw hS.2 hS.1 dL_law_565 ?_
  refine s_callV hZ.1 (Met_X12_members hZ) (Nat.le_of_ble_eq_true rfl) vy_X12_members zcl12 zw2365 zw2366 (Or.inl zw2364) dL_law_566 ?_
  refine s_pop hZ.1 dL_law_569 ?_
  refine s_aload_n hZ.1 dL_law_570 rfl ?_
  refine s_aload_n hZ.1 dL_law_571 rfl ?_
  refine s_iload_n hZ.1 dL_law_572 rfl ?_
  refine s_iconst dL_law_573 (by decide +kernel) ?_
  refine s_iadd dL_law_574 ?_
  refine s_xiw hS.2 hS.1 dL_law_575 ?_
  exact (wL_law_576 hZ hS j hj)
noncomputable def vL_law_543 (sc : List Nat) (j : Nat → rx_K) : rx_K := o_callV 2 13 FX13_classes (o_pop ((vL_law_1341 sc j)))
set_option maxRecDepth 20000 in
theorem wL_law_543 {sc : List Nat} (hZ : zO b e D A X) (hS : zS b e D A X sc) (j : Nat → rx_K) (hj : ∀ k pc, [18][k]? = some pc → rx_OK (zV b e D A X) mL_law 1235 pc (j k)) : rx_OK (zV b e D A X) mL_law 1235 543 (vL_law_543 sc j) := by
  unfold vL_law_543
  refine s_callV hZ.1 (Met_X13_classes hZ) (Nat.le_of_ble_eq_true rfl) vy_X13_classes zcl13 zw3617 zw3618 (Or.inl zw3616) dL_law_543 ?_
  refine s_pop hZ.1 dL_law_546 ?_
  exact s_goto dL_law_547 (by decide) (wL_law_1341 hZ hS j hj)
noncomputable def vL_law_517 (sc : List Nat) (j : Nat → rx_K) : rx_K := o_ld rx_isR 1 (o_ld rx_isR 0 (o_ld rx_isI 3 (o_const 8 (o_bi (fun x y => x + y) (o_xald 500 sc (o_ld rx_isR 0 (o_ld rx_isI 3 (o_const 16 (o_bi (fun x y => x + y) (o_xald 500 sc (o_callV 2 12 FX12_classes (o_pop (o_ld rx_isR 2 (o_ld rx_isR 0 (o_ld rx_isI 3 (o_const 8 (o_bi (fun x y => x + y) (o_xald 500 sc (o_ld rx_isR 0 (o_ld rx_isI 3 (o_const 16 (o_bi (fun x y => x + y) (o_xald 500 sc ((vL_law_543 sc j)))))))))))))))))))))))))
set_option maxRecDepth 20000 in
theorem wL_law_517 {sc : List Nat} (hZ : zO b e D A X) (hS : zS b e D A X sc) (j : Nat → rx_K) (hj : ∀ k pc, [18][k]? = some pc → rx_OK (zV b e D A X) mL_law 1235 pc (j k)) : rx_OK (zV b e D A X) mL_law 1235 517 (vL_law_517 sc j) := by
  unfold vL_law_517
  refine s_aload_n hZ.1 dL_law_517 rfl ?_
  refine s_aload_n hZ.1 dL_law_518 rfl ?_
  refine s_iload_n hZ.1 dL_law_519 rfl ?_
  refine s_iconst dL_law_520 (by decide +kernel) ?_
  refine s_iadd dL_law_521 ?_
  refine s_xiw hS.2 hS.1 dL_law_522 ?_
  refine s_aload_n hZ.1 dL_law_523 rfl ?_
  refine s_iload_n hZ.1 dL_law_524 rfl ?_
  refine s_iconst dL_law_525 (by decide +kernel) ?_
  refine s_iadd dL_law_526 ?_
  refine s_xiw hS.2 hS.1 dL_law_527 ?_
  refine s_callV hZ.1 (Met_X12_classes hZ) (Nat.le_of_ble_eq_true rfl) vy_X12_classes zcl12 zw2361 zw2362 (Or.inl zw2360) dL_law_528 ?_
  refine s_pop hZ.1 dL_law_531 ?_
  refine s_aload_n hZ.1 dL_law_532 rfl ?_
  refine s_aload_n hZ.1 dL_law_533 rfl ?_
  refine s_iload_n hZ.1 dL_law_534 rfl ?_
  refine s_iconst dL_law_535 (by decide +kernel) ?_
  refine s_iadd dL_law_536 ?_
  refine s_xiw hS.2 hS.1 dL_law_537 ?_
  refine s_aload_n hZ.1 dL_law_538 rfl ?_
  refine s_iload_n hZ.1 dL_law_539 rfl ?_
  refine s_iconst dL_law_540 (by decide +kernel) ?_
  refine s_iadd dL_law_541 ?_
  refine s_xiw hS.2 hS.1 dL_law_542 ?_
  exact (wL_law_543 hZ hS j hj)
noncomputable def vL_law_494 (sc : List Nat) (j : Nat → rx_K) : rx_K := o_ld rx_isR 1 (o_ld rx_isR 0 (o_ld rx_isI 3 (o_const 8 (o_bi (fun x y => x + y) (o_xald 500 sc (o_callV 1 12 FX12_picked (o_pop (o_ld rx_isR 2 (o_ld rx_isR 0 (o_ld rx_isI 3 (o_const 8 (o_bi (fun x y => x + y) (o_xald 500 sc (o_callV 1 13 FX13_picked (o_pop ((vL_law_1341 sc j)))))))))))))))))
set_option maxRecDepth 20000 in
theorem wL_law_494 {sc : List Nat} (hZ : zO b e D A X) (hS : zS b e D A X sc) (j : Nat → rx_K) (hj : ∀ k pc, [18][k]? = some pc → rx_OK (zV b e D A X) mL_law 1235 pc (j k)) : rx_OK (zV b e D A X) mL_law 1235 494 (vL_law_494 sc j) := by
  unfold vL_law_494
  refine s_aload_n hZ.1 dL_law_494 rfl ?_
  refine s_aload_n hZ.1 dL_law_495 rfl ?_
  refine s_iload_n hZ.1 dL_law_496 rfl ?_
  refine s_iconst dL_law_497 (by decide +kernel) ?_
  refine s_iadd dL_law_498 ?_
  refine s_xiw hS.2 hS.1 dL_law_499 ?_
  refine s_callV hZ.1 (Met_X12_picked hZ) (Nat.le_of_ble_eq_true rfl) vy_X12_picked zcl12 zw2357 zw2358 (Or.inl zw2356) dL_law_500 ?_
  refine s_pop hZ.1 dL_law_503 ?_
  refine s_aload_n hZ.1 dL_law_504 rfl ?_
  refine s_aload_n hZ.1 dL_law_505 rfl ?_
  refine s_iload_n hZ.1 dL_law_506 rfl ?_
  refine s_iconst dL_law_507 (by decide +kernel) ?_
  refine s_iadd dL_law_508 ?_
  refine s_xiw hS.2 hS.1 dL_law_509 ?_
  refine s_callV hZ.1 (Met_X13_picked hZ) (Nat.le_of_ble_eq_true rfl) vy_X13_picked zcl13 zw3592 zw3593 (Or.inl zw3615) dL_law_510 ?_
  refine s_pop hZ.1 dL_law_513 ?_
  exact s_goto dL_law_514 (by decide) (wL_law_1341 hZ hS j hj)
noncomputable def vL_law_487 (sc : List Nat) (j : Nat → rx_K) : rx_K := o_callV 2 13 FX13_pick (o_pop ((vL_law_1341 sc j)))
set_option maxRecDepth 20000 in
theorem wL_law_487 {sc : List Nat} (hZ : zO b e D A X) (hS : zS b e D A X sc) (j : Nat → rx_K) (hj : ∀ k pc, [18][k]? = some pc → rx_OK (zV b e D A X) mL_law 1235 pc (j k)) : rx_OK (zV b e D A X) mL_law 1235 487 (vL_law_487 sc j) := by
  unfold vL_law_487
  refine s_callV hZ.1 (Met_X13_pick hZ) (Nat.le_of_ble_eq_true rfl) vy_X13_pick zcl13 zw3588 zw3589 (Or.inl zw3587) dL_law_487 ?_
  refine s_pop hZ.1 dL_law_490 ?_
  exact s_goto dL_law_491 (by decide) (wL_law_1341 hZ hS j hj)
noncomputable def vL_law_461 (sc : List Nat) (j : Nat → rx_K) : rx_K := o_ld rx_isR 1 (o_ld rx_isR 0 (o_ld rx_isI 3 (o_const 8 (o_bi (fun x y => x + y) (o_xald 500 sc (o_ld rx_isR 0 (o_ld rx_isI 3 (o_const 16 (o_bi (fun x y => x + y) (o_xald 500 sc (o_callV 2 12 FX12_pick (o_pop (o_ld rx_isR 2 (o_ld rx_isR 0 (o_ld rx_isI 3 (o_const 8 (o_bi (fun x y => x + y) (o_xald 500 sc (o_ld rx_isR 0 (o_ld rx_isI 3 (o_const 16 (o_bi (fun x y => x + y) (o_xald 500 sc ((vL_law_487 sc j)))))))))))))))))))))))))
set_option maxRecDepth 20000 in
theorem wL_law_461 {sc : List Nat} (hZ : zO b e D A X) (hS : zS b e D A X sc) (j : Nat → rx_K) (hj : ∀ k pc, [18][k]? = some pc → rx_OK (zV b e D A X) mL_law 1235 pc (j k)) : rx_OK (zV b e D A X) mL_law 1235 461 (vL_law_461 sc j) := by
  unfold vL_law_461
  refine s_aload_n hZ.1 dL_law_461 rfl ?_
  refine s_aload_n hZ.1 dL_law_462 rfl ?_
  refine s_iload_n hZ.1 dL_law_463 rfl ?_
  refine s_iconst dL_law_464 (by decide +kernel) ?_
  refine s_iadd dL_law_465 ?_
  refine s_xiw hS.2 hS.1 dL_law_466 ?_
  refine s_aload_n hZ.1 dL_law_467 rfl ?_
  refine s_iload_n hZ.1 dL_law_468 rfl ?_
  refine s_iconst dL_law_469 (by decide +kernel) ?_
  refine s_iadd dL_law_470 ?_
  refine s_xiw hS.2 hS.1 dL_law_471 ?_
  refine s_callV hZ.1 (Met_X12_pick hZ) (Nat.le_of_ble_eq_true rfl) vy_X12_pick zcl12 zw2349 zw2350 (Or.inl zw2348) dL_law_472 ?_
  refine s_pop hZ.1 dL_law_475 ?_
  refine s_aload_n hZ.1 dL_law_476 rfl ?_
  refine s_aload_n hZ.1 dL_law_477 rfl ?_
  refine s_iload_n hZ.1 dL_law_478 rfl ?_
  refine s_iconst dL_law_479 (by decide +kernel) ?_
  refine s_iadd dL_law_480 ?_
  refine s_xiw hS.2 hS.1 dL_law_481 ?_
  refine s_aload_n hZ.1 dL_law_482 rfl ?_
  refine s_iload_n hZ.1 dL_law_483 rfl ?_
  refine s_iconst dL_law_484 (by decide +kernel) ?_
  refine s_iadd dL_law_485 ?_
  refine s_xiw hS.2 hS.1 dL_law_486 ?_
  exact (wL_law_487 hZ hS j hj)
noncomputable def vL_law_438 (sc : List Nat) (j : Nat → rx_K) : rx_K := o_ld rx_isR 1 (o_ld rx_isR 0 (o_ld rx_isI 3 (o_const 8 (o_bi (fun x y => x + y) (o_xald 500 sc (o_callV 1 12 FX12_builds (o_pop (o_ld rx_isR 2 (o_ld rx_isR 0 (o_ld rx_isI 3 (o_const 8 (o_bi (fun x y => x + y) (o_xald 500 sc (o_callV 1 13 FX13_builds (o_pop ((vL_law_1341 sc j)))))))))))))))))
set_option maxRecDepth 20000 in
theorem wL_law_438 {sc : List Nat} (hZ : zO b e D A X) (hS : zS b e D A X sc) (j : Nat → rx_K) (hj : ∀ k pc, [18][k]? = some pc → rx_OK (zV b e D A X) mL_law 1235 pc (j k)) : rx_OK (zV b e D A X) mL_law 1235 438 (vL_law_438 sc j) := by
  unfold vL_law_438
  refine s_aload_n hZ.1 dL_law_438 rfl ?_
  refine s_aload_n hZ.1 dL_law_439 rfl ?_
  refine s_iload_n hZ.1 dL_law_440 rfl ?_
  refine s_iconst dL_law_441 (by decide +kernel) ?_
  refine s_iadd dL_law_442 ?_
  refine s_xiw hS.2 hS.1 dL_law_443 ?_
  refine s_callV hZ.1 (Met_X12_builds hZ) (Nat.le_of_ble_eq_true rfl) vy_X12_builds zcl12 zw2345 zw2346 (Or.inl zw2344) dL_law_444 ?_
  refine s_pop hZ.1 dL_law_447 ?_
  refine s_aload_n hZ.1 dL_law_448 rfl ?_
  refine s_aload_n hZ.1 dL_law_449 rfl ?_
  refine s_iload_n hZ.1 dL_law_450 rfl ?_
  refine s_iconst dL_law_451 (by decide +kernel) ?_
  refine s_iadd dL_law_452 ?_
  refine s_xiw hS.2 hS.1 dL_law_453 ?_
  refine s_callV hZ.1 (Met_X13_builds hZ) (Nat.le_of_ble_eq_true rfl) vy_X13_builds zcl13 zw3576 zw3577 (Or.inl zw3575) dL_law_454 ?_
  refine s_pop hZ.1 dL_law_457 ?_
  exact s_goto dL_law_458 (by decide) (wL_law_1341 hZ hS j hj)
noncomputable def vL_law_425 (sc : List Nat) (j : Nat → rx_K) : rx_K := o_ld rx_isR 1 (o_callV 0 12 FX12_place (o_pop (o_ld rx_isR 2 (o_callV 0 13 FX13_place (o_pop ((vL_law_1341 sc j)))))))
set_option maxRecDepth 20000 in
theorem wL_law_425 {sc : List Nat} (hZ : zO b e D A X) (hS : zS b e D A X sc) (j : Nat → rx_K) (hj : ∀ k pc, [18][k]? = some pc → rx_OK (zV b e D A X) mL_law 1235 pc (j k)) : rx_OK (zV b e D A X) mL_law 1235 425 (vL_law_425 sc j) := by
  unfold vL_law_425
  refine s_aload_n hZ.1 dL_law_425 rfl ?_
  refine s_callV hZ.1 (Met_X12_place hZ) (Nat.le_of_ble_eq_true rfl) vy_X12_place zcl12 zw2341 zw2342 (Or.inl zw2340) dL_law_426 ?_
  refine s_pop hZ.1 dL_law_429 ?_
  refine s_aload_n hZ.1 dL_law_430 rfl ?_
  refine s_callV hZ.1 (Met_X13_place hZ) (Nat.le_of_ble_eq_true rfl) vy_X13_place zcl13 zw3572 zw3573 (Or.inl zw3571) dL_law_431 ?_
  refine s_pop hZ.1 dL_law_434 ?_
  exact s_goto dL_law_435 (by decide) (wL_law_1341 hZ hS j hj)
noncomputable def vL_law_402 (sc : List Nat) (j : Nat → rx_K) : rx_K := o_ld rx_isR 1 (o_ld rx_isR 0 (o_ld rx_isI 3 (o_const 8 (o_bi (fun x y => x + y) (o_xald 500 sc (o_callV 1 12 FX12_make (o_pop (o_ld rx_isR 2 (o_ld rx_isR 0 (o_ld rx_isI 3 (o_const 8 (o_bi (fun x y => x + y) (o_xald 500 sc (o_callV 1 13 FX13_make (o_pop ((vL_law_1341 sc j)))))))))))))))))
set_option maxRecDepth 20000 in
theorem wL_law_402 {sc : List Nat} (hZ : zO b e D A X) (hS : zS b e D A X sc) (j : Nat → rx_K) (hj : ∀ k pc, [18][k]? = some pc → rx_OK (zV b e D A X) mL_law 1235 pc (j k)) : rx_OK (zV b e D A X) mL_law 1235 402 (vL_law_402 sc j) := by
  unfold vL_law_402
  refine s_aload_n hZ.1 dL_law_402 rfl ?_
  refine s_aload_n hZ.1 dL_law_403 rfl ?_
  refine s_iload_n hZ.1 dL_law_404 rfl ?_
  refine s_iconst dL_law_405 (by decide +kernel) ?_
  refine s_iadd dL_law_406 ?_
  refine s_xiw hS.2 hS.1 dL_law_407 ?_
  refine s_callV hZ.1 (Met_X12_make hZ) (Nat.le_of_ble_eq_true rfl) vy_X12_make zcl12 zw1706 zw1707 (Or.inl zw1705) dL_law_408 ?_
  refine s_pop hZ.1 dL_law_411 ?_
  refine s_aload_n hZ.1 dL_law_412 rfl ?_
  refine s_aload_n hZ.1 dL_law_413 rfl ?_
  refine s_iload_n hZ.1 dL_law_414 rfl ?_
  refine s_iconst dL_law_415 (by decide +kernel) ?_
  refine s_iadd dL_law_416 ?_
  refine s_xiw hS.2 hS.1 dL_law_417 ?_
  refine s_callV hZ.1 (Met_X13_make hZ) (Nat.le_of_ble_eq_true rfl) vy_X13_make zcl13 zw2927 zw2928 (Or.inl zw2926) dL_law_418 ?_
  refine s_pop hZ.1 dL_law_421 ?_
  exact s_goto dL_law_422 (by decide) (wL_law_1341 hZ hS j hj)
noncomputable def vL_law_379 (sc : List Nat) (j : Nat → rx_K) : rx_K := o_ld rx_isR 1 (o_ld rx_isR 0 (o_ld rx_isI 3 (o_const 8 (o_bi (fun x y => x + y) (o_xald 500 sc (o_callV 1 12 FX12_octet (o_pop (o_ld rx_isR 2 (o_ld rx_isR 0 (o_ld rx_isI 3 (o_const 8 (o_bi (fun x y => x + y) (o_xald 500 sc (o_callV 1 13 FX13_octet (o_pop ((vL_law_1341 sc j)))))))))))))))))
set_option maxRecDepth 20000 in
theorem wL_law_379 {sc : List Nat} (hZ : zO b e D A X) (hS : zS b e D A X sc) (j : Nat → rx_K) (hj : ∀ k pc, [18][k]? = some pc → rx_OK (zV b e D A X) mL_law 1235 pc (j k)) : rx_OK (zV b e D A X) mL_law 1235 379 (vL_law_379 sc j) := by
  unfold vL_law_379
  refine s_aload_n hZ.1 dL_law_379 rfl ?_
  refine s_aload_n hZ.1 dL_law_380 rfl ?_
  refine s_iload_n hZ.1 dL_law_381 rfl ?_
  refine s_iconst dL_law_382 (by decide +kernel) ?_
  refine s_iadd dL_law_383 ?_
  refine s_xiw hS.2 hS.1 dL_law_384 ?_
  refine s_callV hZ.1 (Met_X12_octet hZ) (Nat.le_of_ble_eq_true rfl) vy_X12_octet zcl12 zw1702 zw1703 (Or.inl zw1701) dL_law_385 ?_
  refine s_pop hZ.1 dL_law_388 ?_
  refine s_aload_n hZ.1 dL_law_389 rfl ?_
  refine s_aload_n hZ.1 dL_law_390 rfl ?_
  refine s_iload_n hZ.1 dL_law_391 rfl ?_
  refine s_iconst dL_law_392 (by decide +kernel) ?_
  refine s_iadd dL_law_393 ?_
  refine s_xiw hS.2 hS.1 dL_law_394 ?_
  refine s_callV hZ.1 (Met_X13_octet hZ) (Nat.le_of_ble_eq_true rfl) vy_X13_octet zcl13 zw2923 zw2924 (Or.inl zw2922) dL_law_395 ?_
  refine s_pop hZ.1 dL_law_398 ?_
  exact s_goto dL_law_399 (by decide) (wL_law_1341 hZ hS j hj)
noncomputable def vL_law_366 (sc : List Nat) (j : Nat → rx_K) : rx_K := o_ld rx_isR 1 (o_callV 0 12 FX12_size (o_pop (o_ld rx_isR 2 (o_callV 0 13 FX13_size (o_pop ((vL_law_1341 sc j)))))))
set_option maxRecDepth 20000 in
theorem wL_law_366 {sc : List Nat} (hZ : zO b e D A X) (hS : zS b e D A X sc) (j : Nat → rx_K) (hj : ∀ k pc, [18][k]? = some pc → rx_OK (zV b e D A X) mL_law 1235 pc (j k)) : rx_OK (zV b e D A X) mL_law 1235 366 (vL_law_366 sc j) := by
  unfold vL_law_366
  refine s_aload_n hZ.1 dL_law_366 rfl ?_
  refine s_callV hZ.1 (Met_X12_size hZ) (Nat.le_of_ble_eq_true rfl) vy_X12_size zcl12 zw1698 zw1699 (Or.inl zw1697) dL_law_367 ?_
  refine s_pop hZ.1 dL_law_370 ?_
  refine s_aload_n hZ.1 dL_law_371 rfl ?_
  refine s_callV hZ.1 (Met_X13_size hZ) (Nat.le_of_ble_eq_true rfl) vy_X13_size zcl13 zw2919 zw2920 (Or.inl zw2918) dL_law_372 ?_
  refine s_pop hZ.1 dL_law_375 ?_
  exact s_goto dL_law_376 (by decide) (wL_law_1341 hZ hS j hj)
noncomputable def vL_law_359 (sc : List Nat) (j : Nat → rx_K) : rx_K := o_callV 2 13 FX13_text (o_pop ((vL_law_1341 sc j)))
set_option maxRecDepth 20000 in
theorem wL_law_359 {sc : List Nat} (hZ : zO b e D A X) (hS : zS b e D A X sc) (j : Nat → rx_K) (hj : ∀ k pc, [18][k]? = some pc → rx_OK (zV b e D A X) mL_law 1235 pc (j k)) : rx_OK (zV b e D A X) mL_law 1235 359 (vL_law_359 sc j) := by
  unfold vL_law_359
  refine s_callV hZ.1 (Met_X13_text hZ) (Nat.le_of_ble_eq_true rfl) vy_X13_text zcl13 zw3580 zw3581 (Or.inl zw3579) dL_law_359 ?_
  refine s_pop hZ.1 dL_law_362 ?_
  exact s_goto dL_law_363 (by decide) (wL_law_1341 hZ hS j hj)
noncomputable def vL_law_333 (sc : List Nat) (j : Nat → rx_K) : rx_K := o_ld rx_isR 1 (o_ld rx_isR 0 (o_ld rx_isI 3 (o_const 8 (o_bi (fun x y => x + y) (o_xald 500 sc (o_ld rx_isR 0 (o_ld rx_isI 3 (o_const 16 (o_bi (fun x y => x + y) (o_xald 500 sc (o_callV 2 12 FX12_text (o_pop (o_ld rx_isR 2 (o_ld rx_isR 0 (o_ld rx_isI 3 (o_const 8 (o_bi (fun x y => x + y) (o_xald 500 sc (o_ld rx_isR 0 (o_ld rx_isI 3 (o_const 16 (o_bi (fun x y => x + y) (o_xald 500 sc ((vL_law_359 sc j)))))))))))))))))))))))))
set_option maxRecDepth 20000 in
theorem wL_law_333 {sc : List Nat} (hZ : zO b e D A X) (hS : zS b e D A X sc) (j : Nat → rx_K) (hj : ∀ k pc, [18][k]? = some pc → rx_OK (zV b e D A X) mL_law 1235 pc (j k)) : rx_OK (zV b e D A X) mL_law 1235 333 (vL_law_333 sc j) := by
  unfold vL_law_333
  refine s_aload_n hZ.1 dL_law_333 rfl ?_
  refine s_aload_n hZ.1 dL_law_334 rfl ?_
  refine s_iload_n hZ.1 dL_law_335 rfl ?_
  refine s_iconst dL_law_336 (by decide +kernel) ?_
  refine s_iadd dL_law_337 ?_
  refine s_xiw hS.2 hS.1 dL_law_338 ?_
  refine s_aload_n hZ.1 dL_law_339 rfl ?_
  refine s_iload_n hZ.1 dL_law_340 rfl ?_
  refine s_iconst dL_law_341 (by decide +kernel) ?_
  refine s_iadd dL_law_342 ?_
  refine s_xiw hS.2 hS.1 dL_law_343 ?_
  refine s_callV hZ.1 (Met_X12_text hZ) (Nat.le_of_ble_eq_true rfl) vy_X12_text zcl12 zw1694 zw1695 (Or.inl zw1693) dL_law_344 ?_
  refine s_pop hZ.1 dL_law_347 ?_
  refine s_aload_n hZ.1 dL_law_348 rfl ?_
  refine s_aload_n hZ.1 dL_law_349 rfl ?_
  refine s_iload_n hZ.1 dL_law_350 rfl ?_
  refine s_iconst dL_law_351 (by decide +kernel) ?_
  refine s_iadd dL_law_352 ?_
  refine s_xiw hS.2 hS.1 dL_law_353 ?_
  refine s_aload_n hZ.1 dL_law_354 rfl ?_
  refine s_iload_n hZ.1 dL_law_355 rfl ?_
  refine s_iconst dL_law_356 (by decide +kernel) ?_
  refine s_iadd dL_law_357 ?_
  refine s_xiw hS.2 hS.1 dL_law_358 ?_
  exact (wL_law_359 hZ hS j hj)
noncomputable def vL_law_316 (sc : List Nat) (j : Nat → rx_K) : rx_K := o_ld rx_isR 0 (o_ld rx_isI 3 (o_const 16 (o_bi (fun x y => x + y) (o_xald 500 sc (o_ld rx_isR 0 (o_ld rx_isI 3 (o_const 24 (o_bi (fun x y => x + y) (o_xald 500 sc (o_callV 3 13 FX13_splice (o_pop ((vL_law_1341 sc j)))))))))))))
set_option maxRecDepth 20000 in
theorem wL_law_316 {sc : List Nat} (hZ : zO b e D A X) (hS : zS b e D A X sc) (j : Nat → rx_K) (hj : ∀ k pc, [18][k]? = some pc → rx_OK (zV b e D A X) mL_law 1235 pc (j k)) : rx_OK (zV b e D A X) mL_law 1235 316 (vL_law_316 sc j) := by
  unfold vL_law_316
  refine s_aload_n hZ.1 dL_law_316 rfl ?_
  refine s_iload_n hZ.1 dL_law_317 rfl ?_
  refine s_iconst dL_law_318 (by decide +kernel) ?_
  refine s_iadd dL_law_319 ?_
  refine s_xiw hS.2 hS.1 dL_law_320 ?_
  refine s_aload_n hZ.1 dL_law_321 rfl ?_
  refine s_iload_n hZ.1 dL_law_322 rfl ?_
  refine s_iconst dL_law_323 (by decide +kernel) ?_
  refine s_iadd dL_law_324 ?_
  refine s_xiw hS.2 hS.1 dL_law_325 ?_
  refine s_callV hZ.1 (Met_X13_splice hZ) (Nat.le_of_ble_eq_true rfl) vy_X13_splice zcl13 zw2915 zw2916 (Or.inl zw2914) dL_law_326 ?_
  refine s_pop hZ.1 dL_law_329 ?_
  exact s_goto dL_law_330 (by decide) (wL_law_1341 hZ hS j hj)
noncomputable def vL_law_290 (sc : List Nat) (j : Nat → rx_K) : rx_K := o_ld rx_isR 1 (o_ld rx_isR 0 (o_ld rx_isI 3 (o_const 8 (o_bi (fun x y => x + y) (o_xald 500 sc (o_ld rx_isR 0 (o_ld rx_isI 3 (o_const 16 (o_bi (fun x y => x + y) (o_xald 500 sc (o_ld rx_isR 0 (o_ld rx_isI 3 (o_const 24 (o_bi (fun x y => x + y) (o_xald 500 sc (o_callV 3 12 FX12_splice (o_pop (o_ld rx_isR 2 (o_ld rx_isR 0 (o_ld rx_isI 3 (o_const 8 (o_bi (fun x y => x + y) (o_xald 500 sc ((vL_law_316 sc j)))))))))))))))))))))))))
set_option maxRecDepth 20000 in
theorem wL_law_290 {sc : List Nat} (hZ : zO b e D A X) (hS : zS b e D A X sc) (j : Nat → rx_K) (hj : ∀ k pc, [18][k]? = some pc → rx_OK (zV b e D A X) mL_law 1235 pc (j k)) : rx_OK (zV b e D A X) mL_law 1235 290 (vL_law_290 sc j) := by
  unfold vL_law_290
  refine s_aload_n hZ.1 dL_law_290 rfl ?_
  refine s_aload_n hZ.1 dL_law_291 rfl ?_
  refine s_iload_n hZ.1 dL_law_292 rfl ?_
  refine s_iconst dL_law_293 (by decide +kernel) ?_
  refine s_iadd dL_law_294 ?_
  refine s_xiw hS.2 hS.1 dL_law_295 ?_
  refine s_aload_n hZ.1 dL_law_296 rfl ?_
  refine s_iload_n hZ.1 dL_law_297 rfl ?_
  refine s_iconst dL_law_298 (by decide +kernel) ?_
  refine s_iadd dL_law_299 ?_
  refine s_xiw hS.2 hS.1 dL_law_300 ?_
  refine s_aload_n hZ.1 dL_law_301 rfl ?_
  refine s_iload_n hZ.1 dL_law_302 rfl ?_
  refine s_iconst dL_law_303 (by decide +kernel) ?_
  refine s_iadd dL_law_304 ?_
  refine s_xiw hS.2 hS.1 dL_law_305 ?_
  refine s_callV hZ.1 (Met_X12_splice hZ) (Nat.le_of_ble_eq_true rfl) vy_X12_splice zcl12 zw1680 zw1681 (Or.inl zw1679) dL_law_306 ?_
  refine s_pop hZ.1 dL_law_309 ?_
  refine s_aload_n hZ.1 dL_law_310 rfl ?_
  refine s_aload_n hZ.1 dL_law_311 rfl ?_
  refine s_iload_n hZ.1 dL_law_312 rfl ?_
  refine s_iconst dL_law_313 (by decide +kernel) ?_
  refine s_iadd dL_law_314 ?_
  refine s_xiw hS.2 hS.1 dL_law_315 ?_
  exact (wL_law_316 hZ hS j hj)
noncomputable def vL_law_267 (sc : List Nat) (j : Nat → rx_K) : rx_K := o_ld rx_isR 1 (o_ld rx_isR 0 (o_ld rx_isI 3 (o_const 8 (o_bi (fun x y => x + y) (o_xald 500 sc (o_callV 1 12 FX12_cut (o_pop (o_ld rx_isR 2 (o_ld rx_isR 0 (o_ld rx_isI 3 (o_const 8 (o_bi (fun x y => x + y) (o_xald 500 sc (o_callV 1 13 FX13_cut (o_pop ((vL_law_1341 sc j)))))))))))))))))
set_option maxRecDepth 20000 in
theorem wL_law_267 {sc : List Nat} (hZ : zO b e D A X) (hS : zS b e D A X sc) (j : Nat → rx_K) (hj : ∀ k pc, [18][k]? = some pc → rx_OK (zV b e D A X) mL_law 1235 pc (j k)) : rx_OK (zV b e D A X) mL_law 1235 267 (vL_law_267 sc j) := by
  unfold vL_law_267
  refine s_aload_n hZ.1 dL_law_267 rfl ?_
  refine s_aload_n hZ.1 dL_law_268 rfl ?_
  refine s_iload_n hZ.1 dL_law_269 rfl ?_
  refine s_iconst dL_law_270 (by decide +kernel) ?_
  refine s_iadd dL_law_271 ?_
  refine s_xiw hS.2 hS.1 dL_law_272 ?_
  refine s_callV hZ.1 (Met_X12_cut hZ) (Nat.le_of_ble_eq_true rfl) vy_X12_cut zcl12 zw1676 zw1677 (Or.inl zw1675) dL_law_273 ?_
  refine s_pop hZ.1 dL_law_276 ?_
  refine s_aload_n hZ.1 dL_law_277 rfl ?_
  refine s_aload_n hZ.1 dL_law_278 rfl ?_
  refine s_iload_n hZ.1 dL_law_279 rfl ?_
  refine s_iconst dL_law_280 (by decide +kernel) ?_
  refine s_iadd dL_law_281 ?_
  refine s_xiw hS.2 hS.1 dL_law_282 ?_
  refine s_callV hZ.1 (Met_X13_cut hZ) (Nat.le_of_ble_eq_true rfl) vy_X13_cut zcl13 zw2911 zw2912 (Or.inl zw2910) dL_law_283 ?_
  refine s_pop hZ.1 dL_law_286 ?_
  exact s_goto dL_law_287 (by decide) (wL_law_1341 hZ hS j hj)
noncomputable def vL_law_265 (sc : List Nat) (j : Nat → rx_K) : rx_K := o_const 0 (o_ret1 rx_isZ)
set_option maxRecDepth 20000 in
theorem wL_law_265 {sc : List Nat} (hZ : zO b e D A X) (hS : zS b e D A X sc) (j : Nat → rx_K) (hj : ∀ k pc, [18][k]? = some pc → rx_OK (zV b e D A X) mL_law 1235 pc (j k)) : rx_OK (zV b e D A X) mL_law 1235 265 (vL_law_265 sc j) := by
  unfold vL_law_265
  refine s_iconst dL_law_265 (by decide +kernel) ?_
  exact s_zret rx_z_ok rfl dL_law_266
noncomputable def vL_law_254 (sc : List Nat) (j : Nat → rx_K) : rx_K := o_ld rx_isR 0 (o_ld rx_isI 3 (o_const 40 (o_bi (fun x y => x + y) (o_xald 500 sc (o_callV 5 13 FX13_feed (o_c2 rx_eq (vL_law_1341 sc j) (vL_law_265 sc j)))))))
set_option maxRecDepth 20000 in
theorem wL_law_254 {sc : List Nat} (hZ : zO b e D A X) (hS : zS b e D A X sc) (j : Nat → rx_K) (hj : ∀ k pc, [18][k]? = some pc → rx_OK (zV b e D A X) mL_law 1235 pc (j k)) : rx_OK (zV b e D A X) mL_law 1235 254 (vL_law_254 sc j) := by
  unfold vL_law_254
  refine s_aload_n hZ.1 dL_law_254 rfl ?_
  refine s_iload_n hZ.1 dL_law_255 rfl ?_
  refine s_iconst dL_law_256 (by decide +kernel) ?_
  refine s_iadd dL_law_257 ?_
  refine s_xiw hS.2 hS.1 dL_law_258 ?_
  refine s_callV hZ.1 (Met_X13_feed hZ) (Nat.le_of_ble_eq_true rfl) vy_X13_feed zcl13 zw2902 zw2903 (Or.inl zw2901) dL_law_259 ?_
  exact s_icmp_eq dL_law_262 (by decide) (wL_law_1341 hZ hS j hj) (wL_law_265 hZ hS j hj)
noncomputable def vL_law_228 (sc : List Nat) (j : Nat → rx_K) : rx_K := o_bi (fun x y => x + y) (o_xald 500 sc (o_callV 5 12 FX12_feed (o_ld rx_isR 2 (o_ld rx_isR 0 (o_ld rx_isI 3 (o_const 8 (o_bi (fun x y => x + y) (o_xald 500 sc (o_ld rx_isR 0 (o_ld rx_isI 3 (o_const 16 (o_bi (fun x y => x + y) (o_xald 500 sc (o_ld rx_isR 0 (o_ld rx_isI 3 (o_const 24 (o_bi (fun x y => x + y) (o_xald 500 sc (o_ld rx_isR 0 (o_ld rx_isI 3 (o_const 32 (o_bi (fun x y => x + y) (o_xald 500 sc ((vL_law_254 sc j)))))))))))))))))))))))))
set_option maxRecDepth 20000 in
theorem wL_law_228 {sc : List Nat} (hZ : zO b e D A X) (hS : zS b e D A X sc) (j : Nat → rx_K) (hj : ∀ k pc, [18][k]? = some pc → rx_OK (zV b e D A X) mL_law 1235 pc (j k)) : rx_OK (zV b e D A X) mL_law 1235 228 (vL_law_228 sc j) := by
  unfold vL_law_228
  refine s_iadd dL_law_228 ?_
  refine s_xiw hS.2 hS.1 dL_law_229 ?_
  refine s_callV hZ.1 (Met_X12_feed hZ) (Nat.le_of_ble_eq_true rfl) vy_X12_feed zcl12 zw1668 zw1669 (Or.inl zw1667) dL_law_230 ?_
  refine s_aload_n hZ.1 dL_law_233 rfl ?_
  refine s_aload_n hZ.1 dL_law_234 rfl ?_
  refine s_iload_n hZ.1 dL_law_235 rfl ?_
  refine s_iconst dL_law_236 (by decide +kernel) ?_
  refine s_iadd dL_law_237 ?_
  refine s_xiw hS.2 hS.1 dL_law_238 ?_
  refine s_aload_n hZ.1 dL_law_239 rfl ?_
  refine s_iload_n hZ.1 dL_law_240 rfl ?_
  refine s_iconst dL_law_241 (by decide +kernel) ?_
  refine s_iadd dL_law_242 ?_
  refine s_xiw hS.2 hS.1 dL_law_243 ?_
  refine s_aload_n hZ.1 dL_law_244 rfl ?_
  refine s_iload_n hZ.1 dL_law_245 rfl ?_
  refine s_iconst dL_law_246 (by decide +kernel) ?_
  refine s_iadd dL_law_247 ?_
  refine s_xiw hS.2 hS.1 dL_law_248 ?_
  refine s_aload_n hZ.1 dL_law_249 rfl ?_
  refine s_iload_n hZ.1 dL_law_250 rfl ?_
  refine s_iconst dL_law_251 (by decide +kernel) ?_
  refine s_iadd dL_law_252 ?_
  refine s_xiw hS.2 hS.1 dL_law_253 ?_
  exact (wL_law_254 hZ hS j hj)
noncomputable def vL_law_204 (sc : List Nat) (j : Nat → rx_K) : rx_K := o_ld rx_isR 1 (o_ld rx_isR 0 (o_ld rx_isI 3 (o_const 8 (o_bi (fun x y => x + y) (o_xald 500 sc (o_ld rx_isR 0 (o_ld rx_isI 3 (o_const 16 (o_bi (fun x y => x + y) (o_xald 500 sc (o_ld rx_isR 0 (o_ld rx_isI 3 (o_const 24 (o_bi (fun x y => x + y) (o_xald 500 sc (o_ld rx_isR 0 (o_ld rx_isI 3 (o_const 32 (o_bi (fun x y => x + y) (o_xald 500 sc (o_ld rx_isR 0 (o_ld rx_isI 3 (o_const 40 ((vL_law_228 sc j)))))))))))))))))))))))))
set_option maxRecDepth 20000 in
theorem wL_law_204 {sc : List Nat} (hZ : zO b e D A X) (hS : zS b e D A X sc) (j : Nat → rx_K) (hj : ∀ k pc, [18][k]? = some pc → rx_OK (zV b e D A X) mL_law 1235 pc (j k)) : rx_OK (zV b e D A X) mL_law 1235 204 (vL_law_204 sc j) := by
  unfold vL_law_204
  refine s_aload_n hZ.1 dL_law_204 rfl ?_
  refine s_aload_n hZ.1 dL_law_205 rfl ?_
  refine s_iload_n hZ.1 dL_law_206 rfl ?_
  refine s_iconst dL_law_207 (by decide +kernel) ?_
  refine s_iadd dL_law_208 ?_
  refine s_xiw hS.2 hS.1 dL_law_209 ?_
  refine s_aload_n hZ.1 dL_law_210 rfl ?_
  refine s_iload_n hZ.1 dL_law_211 rfl ?_
  refine s_iconst dL_law_212 (by decide +kernel) ?_
  refine s_iadd dL_law_213 ?_
  refine s_xiw hS.2 hS.1 dL_law_214 ?_
  refine s_aload_n hZ.1 dL_law_215 rfl ?_
  refine s_iload_n hZ.1 dL_law_216 rfl ?_
  refine s_iconst dL_law_217 (by decide +kernel) ?_
  refine s_iadd dL_law_218 ?_
  refine s_xiw hS.2 hS.1 dL_law_219 ?_
  refine s_aload_n hZ.1 dL_law_220 rfl ?_
  refine s_iload_n hZ.1 dL_law_221 rfl ?_
  refine s_iconst dL_law_222 (by decide +kernel) ?_
  refine s_iadd dL_law_223 ?_
  refine s_xiw hS.2 hS.1 dL_law_224 ?_
  refine s_aload_n hZ.1 dL_law_225 rfl ?_
  refine s_iload_n hZ.1 dL_law_226 rfl ?_
  refine s_iconst dL_law_227 (by decide +kernel) ?_
  exact (wL_law_228 hZ hS j hj)
noncomputable def vL_law_27 (sc : List Nat) (j : Nat → rx_K) : rx_K := o_ld rx_isR 0 (o_ld rx_isI 3 (o_xald 500 sc (o_const 504 (o_bi (fun x y => x &&& y) (o_sw 0 [204, 267, 290, 333, 366, 379, 402, 425, 438, 461, 494, 517, 550, 593, 646, 679, 732, 775, 818, 831, 854, 867, 900, 913, 926, 969, 1002, 1045, 1088, 1101, 1144, 1157, 1170, 1193, 1216, 1239, 1262, 1285, 1308] 1341 (rx_pk [(204, (vL_law_204 sc j)), (267, (vL_law_267 sc j)), (290, (vL_law_290 sc j)), (333, (vL_law_333 sc j)), (366, (vL_law_366 sc j)), (379, (vL_law_379 sc j)), (402, (vL_law_402 sc j)), (425, (vL_law_425 sc j)), (438, (vL_law_438 sc j)), (461, (vL_law_461 sc j)), (494, (vL_law_494 sc j)), (517, (vL_law_517 sc j)), (550, (vL_law_550 sc j)), (593, (vL_law_593 sc j)), (646, (vL_law_646 sc j)), (679, (vL_law_679 sc j)), (732, (vL_law_732 sc j)), (775, (vL_law_775 sc j)), (818, (vL_law_818 sc j)), (831, (vL_law_831 sc j)), (854, (vL_law_854 sc j)), (867, (vL_law_867 sc j)), (900, (vL_law_900 sc j)), (913, (vL_law_913 sc j)), (926, (vL_law_926 sc j)), (969, (vL_law_969 sc j)), (1002, (vL_law_1002 sc j)), (1045, (vL_law_1045 sc j)), (1088, (vL_law_1088 sc j)), (1101, (vL_law_1101 sc j)), (1144, (vL_law_1144 sc j)), (1157, (vL_law_1157 sc j)), (1170, (vL_law_1170 sc j)), (1193, (vL_law_1193 sc j)), (1216, (vL_law_1216 sc j)), (1239, (vL_law_1239 sc j)), (1262, (vL_law_1262 sc j)), (1285, (vL_law_1285 sc j)), (1308, (vL_law_1308 sc j)), (1341, (vL_law_1341 sc j))]))))))
set_option maxRecDepth 20000 in
theorem wL_law_27 {sc : List Nat} (hZ : zO b e D A X) (hS : zS b e D A X sc) (j : Nat → rx_K) (hj : ∀ k pc, [18][k]? = some pc → rx_OK (zV b e D A X) mL_law 1235 pc (j k)) : rx_OK (zV b e D A X) mL_law 1235 27 (vL_law_27 sc j) := by
  unfold vL_law_27
  refine s_aload_n hZ.1 dL_law_27 rfl ?_
  refine s_iload_n hZ.1 dL_law_28 rfl ?_
  refine s_xiw hS.2 hS.1 dL_law_29 ?_
  refine s_bipush dL_law_30 (by decide +kernel) ?_
  refine s_iand dL_law_32 ?_
  exact s_sw dL_law_33 (by decide) (by decide) (by decide) (by decide) (by decide) (fun b _ => (rx_pk_ok (List.forall_mem_cons.mpr ⟨(wL_law_204 hZ hS j hj), List.forall_mem_cons.mpr ⟨(wL_law_267 hZ hS j hj), List.forall_mem_cons.mpr ⟨(wL_law_290 hZ hS j hj), List.forall_mem_cons.mpr ⟨(wL_law_333 hZ hS j hj), List.forall_mem_cons.mpr ⟨(wL_law_366 hZ hS j hj), List.forall_mem_cons.mpr ⟨(wL_law_379 hZ hS j hj), List.forall_mem_cons.mpr ⟨(wL_law_402 hZ hS j hj), List.forall_mem_cons.mpr ⟨(wL_law_425 hZ hS j hj), List.forall_mem_cons.mpr ⟨(wL_law_438 hZ hS j hj), List.forall_mem_cons.mpr ⟨(wL_law_461 hZ hS j hj), List.forall_mem_cons.mpr ⟨(wL_law_494 hZ hS j hj), List.forall_mem_cons.mpr ⟨(wL_law_517 hZ hS j hj), List.forall_mem_cons.mpr ⟨(wL_law_550 hZ hS j hj), List.forall_mem_cons.mpr ⟨(wL_law_593 hZ hS j hj), List.forall_mem_cons.mpr ⟨(wL_law_646 hZ hS j hj), List.forall_mem_cons.mpr ⟨(wL_law_679 hZ hS j hj), List.forall_mem_cons.mpr ⟨(wL_law_732 hZ hS j hj), List.forall_mem_cons.mpr ⟨(wL_law_775 hZ hS j hj), List.forall_mem_cons.mpr ⟨(wL_law_818 hZ hS j hj), List.forall_mem_cons.mpr ⟨(wL_law_831 hZ hS j hj), List.forall_mem_cons.mpr ⟨(wL_law_854 hZ hS j hj), List.forall_mem_cons.mpr ⟨(wL_law_867 hZ hS j hj), List.forall_mem_cons.mpr ⟨(wL_law_900 hZ hS j hj), List.forall_mem_cons.mpr ⟨(wL_law_913 hZ hS j hj), List.forall_mem_cons.mpr ⟨(wL_law_926 hZ hS j hj), List.forall_mem_cons.mpr ⟨(wL_law_969 hZ hS j hj), List.forall_mem_cons.mpr ⟨(wL_law_1002 hZ hS j hj), List.forall_mem_cons.mpr ⟨(wL_law_1045 hZ hS j hj), List.forall_mem_cons.mpr ⟨(wL_law_1088 hZ hS j hj), List.forall_mem_cons.mpr ⟨(wL_law_1101 hZ hS j hj), List.forall_mem_cons.mpr ⟨(wL_law_1144 hZ hS j hj), List.forall_mem_cons.mpr ⟨(wL_law_1157 hZ hS j hj), List.forall_mem_cons.mpr ⟨(wL_law_1170 hZ hS j hj), List.forall_mem_cons.mpr ⟨(wL_law_1193 hZ hS j hj), List.forall_mem_cons.mpr ⟨(wL_law_1216 hZ hS j hj), List.forall_mem_cons.mpr ⟨(wL_law_1239 hZ hS j hj), List.forall_mem_cons.mpr ⟨(wL_law_1262 hZ hS j hj), List.forall_mem_cons.mpr ⟨(wL_law_1285 hZ hS j hj), List.forall_mem_cons.mpr ⟨(wL_law_1308 hZ hS j hj), List.forall_mem_cons.mpr ⟨(wL_law_1341 hZ hS j hj), fun _ h => absurd h List.not_mem_nil⟩⟩⟩⟩⟩⟩⟩⟩⟩⟩⟩⟩⟩⟩⟩⟩⟩⟩⟩⟩⟩⟩⟩⟩⟩⟩⟩⟩⟩⟩⟩⟩⟩⟩⟩⟩⟩⟩⟩⟩)) b)
noncomputable def vL_law_18 (sc : List Nat) (j : Nat → rx_K) : rx_K := o_ld rx_isI 3 (o_ld rx_isR 0 (o_xv 500 (8 * sc.length) (o_const 48 (o_bi (fun x y => x - y) (o_c2 (fun h x y => rx_lt h y x) (vL_law_1347 sc j) (vL_law_27 sc j))))))
set_option maxRecDepth 20000 in
theorem wL_law_18 {sc : List Nat} (hZ : zO b e D A X) (hS : zS b e D A X sc) (j : Nat → rx_K) (hj : ∀ k pc, [18][k]? = some pc → rx_OK (zV b e D A X) mL_law 1235 pc (j k)) : rx_OK (zV b e D A X) mL_law 1235 18 (vL_law_18 sc j) := by
  unfold vL_law_18
  refine s_iload_n hZ.1 dL_law_18 rfl ?_
  refine s_aload_n hZ.1 dL_law_19 rfl ?_
  refine s_xalen (n := sc.length) hS.1 dL_law_20 ?_
  refine s_bipush dL_law_21 (by decide +kernel) ?_
  refine s_isub dL_law_23 ?_
  exact s_icmp_gt dL_law_24 (by decide) (wL_law_1347 hZ hS j hj) (wL_law_27 hZ hS j hj)
noncomputable def vL_law_16 (sc : List Nat) (j : Nat → rx_K) : rx_K := o_const 0 (o_st rx_isI 3 ((vL_law_18 sc j)))
set_option maxRecDepth 20000 in
theorem wL_law_16 {sc : List Nat} (hZ : zO b e D A X) (hS : zS b e D A X sc) (j : Nat → rx_K) (hj : ∀ k pc, [18][k]? = some pc → rx_OK (zV b e D A X) mL_law 1235 pc (j k)) : rx_OK (zV b e D A X) mL_law 1235 16 (vL_law_16 sc j) := by
  unfold vL_law_16
  refine s_iconst dL_law_16 (by decide +kernel) ?_
  refine s_istore_n hZ.1 dL_law_17 rfl (Nat.le_of_ble_eq_true rfl) ?_
  exact (wL_law_18 hZ hS j hj)
noncomputable def vhL_law (sc : List Nat) (j : Nat → rx_K) : List rx_K := [vL_law_18 sc j]
theorem vlL_law {sc : List Nat} (hZ : zO b e D A X) (hS : zS b e D A X sc) : ∀ n k pc, [18][k]? = some pc → rx_OK (zV b e D A X) mL_law 1235 pc (rx_J (vhL_law sc) n k) := rx_loop fun j hj k pc h => by
  match k, h with
  | 0, h =>
    have e9 := Option.some.inj (show some 18 = some pc from h)
    subst e9
    exact wL_law_18 hZ hS j hj
  | _ + 1, h => exact absurd h (by simp)
noncomputable def vL (sc : List Nat) : rx_K := vL_law_16 sc (rx_J (vhL_law sc) 4000000000)
theorem ok_vL {sc : List Nat} (hZ : zO b e D A X) (hS : zS b e D A X sc) : rx_OK (zV b e D A X) mL_law 1235 16 (vL sc) := wL_law_16 hZ hS _ (vlL_law hZ hS 4000000000)
end ZL

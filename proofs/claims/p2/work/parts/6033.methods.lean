section ZM33
variable {b : Nat} {e : Nat → Value} {D : va_G} {A : Nat → ClassId} {X : State → Prop}
abbrev mX12_met : rx_M := (RX12, cX12_met, 1, (some .int), false)
theorem vy_X12_met : rx_Y (zV b e D A X) yX12_met mX12_met 0 := ⟨zw2551, zw413, by decide, by decide +kernel, by decide +kernel, by decide +kernel⟩
noncomputable def vX12_met_33 : rx_K := o_ld rx_isR 0 (o_getf 12 3 (o_ret1 rx_isI))
set_option maxRecDepth 20000 in
theorem wX12_met_33 (hZ : zO b e D A X) : rx_OK (zV b e D A X) mX12_met 8 33 vX12_met_33 := by
  unfold vX12_met_33
  refine s_aload_n hZ.1 dX12_met_33 rfl ?_
  refine yg12_3 dX12_met_34 zw1606 ?_
  exact s_iret hZ.1 rfl dX12_met_37
noncomputable def vX12_met_15 : rx_K := o_ld rx_isR 0 (o_ld rx_isR 0 (o_getf 12 15 (o_getf 5 13 (o_ld rx_isR 0 (o_getf 12 15 (o_getf 5 11 (o_callV 2 12 FX12_tellUsed (vX12_met_33))))))))
set_option maxRecDepth 20000 in
theorem wX12_met_15 (hZ : zO b e D A X) : rx_OK (zV b e D A X) mX12_met 8 15 vX12_met_15 := by
  unfold vX12_met_15
  refine s_aload_n hZ.1 dX12_met_15 rfl ?_
  refine s_aload_n hZ.1 dX12_met_16 rfl ?_
  refine yg12_15 dX12_met_17 zw1618 ?_
  refine yg5_13 dX12_met_20 zw1372 ?_
  refine s_aload_n hZ.1 dX12_met_23 rfl ?_
  refine yg12_15 dX12_met_24 zw1618 ?_
  refine yg5_11 dX12_met_27 zw1368 ?_
  refine s_callV hZ.1 (Met_X12_tellUsed hZ) (Nat.le_of_ble_eq_true rfl) vy_X12_tellUsed zcl12 zw2466 zw124 (Or.inl zw2464) dX12_met_30 ?_
  exact (wX12_met_33 hZ)
noncomputable def vX12_met_0 : rx_K := o_ld rx_isR 0 (o_const 0 (o_putf rx_isI 12 3 (o_ld rx_isR 0 (o_getf 12 15 (o_getf 5 11 (o_nul vX12_met_33 vX12_met_15))))))
set_option maxRecDepth 20000 in
theorem wX12_met_0 (hZ : zO b e D A X) : rx_OK (zV b e D A X) mX12_met 8 0 vX12_met_0 := by
  unfold vX12_met_0
  refine s_aload_n hZ.1 dX12_met_0 rfl ?_
  refine s_iconst dX12_met_1 (by decide +kernel) ?_
  refine yp12_3 hZ.1 dX12_met_2 zw1606 ?_
  refine s_aload_n hZ.1 dX12_met_5 rfl ?_
  refine yg12_15 dX12_met_6 zw1618 ?_
  refine yg5_11 dX12_met_9 zw1368 ?_
  exact s_ifnull dX12_met_12 (by decide) (wX12_met_33 hZ) (wX12_met_15 hZ)
noncomputable def FX12_met : List Nat → rx_H → Option (Nat × rx_H) := rx_ent 1 vX12_met_0
theorem Met_X12_met (hZ : zO b e D A X) : rx_Met (zV b e D A X) 8 yX12_met mX12_met (FX12_met) := rx_entry hZ.1 (wX12_met_0 hZ) (by decide +kernel) rfl (fun h => by cases h)
abbrev mX12_looked : rx_M := (RX12, cX12_looked, 2, (some .int), false)
theorem vy_X12_looked : rx_Y (zV b e D A X) yX12_looked mX12_looked 1 := ⟨zw2555, zw413, by decide, by decide +kernel, by decide +kernel, by decide +kernel⟩
noncomputable def vX12_looked_28 : rx_K := o_ret1 rx_isI
set_option maxRecDepth 20000 in
theorem wX12_looked_28 (hZ : zO b e D A X) : rx_OK (zV b e D A X) mX12_looked 0 28 vX12_looked_28 := by
  unfold vX12_looked_28
  exact s_iret hZ.1 rfl dX12_looked_28
noncomputable def vX12_looked_19 : rx_K := o_ld rx_isR 0 (o_getf 12 15 (o_getf 5 15 (o_ld rx_isI 1 (o_ald 0 (vX12_looked_28)))))
set_option maxRecDepth 20000 in
theorem wX12_looked_19 (hZ : zO b e D A X) : rx_OK (zV b e D A X) mX12_looked 0 19 vX12_looked_19 := by
  unfold vX12_looked_19
  refine s_aload_n hZ.1 dX12_looked_19 rfl ?_
  refine yg12_15 dX12_looked_20 zw1618 ?_
  refine yg5_15 dX12_looked_23 zw1376 ?_
  refine s_iload_n hZ.1 dX12_looked_26 rfl ?_
  refine s_iald (tt := 0) rfl dX12_looked_27 ?_
  exact (wX12_looked_28 hZ)
noncomputable def vX12_looked_15 : rx_K := o_const 34359738360 (vX12_looked_28)
set_option maxRecDepth 20000 in
theorem wX12_looked_15 (hZ : zO b e D A X) : rx_OK (zV b e D A X) mX12_looked 0 15 vX12_looked_15 := by
  unfold vX12_looked_15
  refine s_iconst dX12_looked_15 (by decide +kernel) ?_
  exact s_goto dX12_looked_16 (by decide) (wX12_looked_28 hZ)
noncomputable def vX12_looked_4 : rx_K := o_ld rx_isI 1 (o_ld rx_isR 0 (o_getf 12 15 (o_getf 5 16 (o_c2 rx_lt vX12_looked_19 vX12_looked_15))))
set_option maxRecDepth 20000 in
theorem wX12_looked_4 (hZ : zO b e D A X) : rx_OK (zV b e D A X) mX12_looked 0 4 vX12_looked_4 := by
  unfold vX12_looked_4
  refine s_iload_n hZ.1 dX12_looked_4 rfl ?_
  refine s_aload_n hZ.1 dX12_looked_5 rfl ?_
  refine yg12_15 dX12_looked_6 zw1618 ?_
  refine yg5_16 dX12_looked_9 zw1378 ?_
  exact s_icmp_lt dX12_looked_12 (by decide) (wX12_looked_19 hZ) (wX12_looked_15 hZ)
noncomputable def vX12_looked_0 : rx_K := o_ld rx_isI 1 (o_c1 rx_lt vX12_looked_15 vX12_looked_4)
set_option maxRecDepth 20000 in
theorem wX12_looked_0 (hZ : zO b e D A X) : rx_OK (zV b e D A X) mX12_looked 0 0 vX12_looked_0 := by
  unfold vX12_looked_0
  refine s_iload_n hZ.1 dX12_looked_0 rfl ?_
  exact s_if_lt dX12_looked_1 (by decide) (wX12_looked_15 hZ) (wX12_looked_4 hZ)
noncomputable def FX12_looked : List Nat → rx_H → Option (Nat × rx_H) := rx_ent 2 vX12_looked_0
theorem Met_X12_looked (hZ : zO b e D A X) : rx_Met (zV b e D A X) 0 yX12_looked mX12_looked (FX12_looked) := rx_entry hZ.1 (wX12_looked_0 hZ) (by decide +kernel) rfl (fun h => by cases h)
abbrev mX12_list : rx_M := (RX12, cX12_list, 4, none, false)
theorem vy_X12_list : rx_Y (zV b e D A X) yX12_list mX12_list 3 := ⟨zw2572, zw413, by decide, by decide +kernel, by decide +kernel, by decide +kernel⟩
noncomputable def vX12_list_66 : rx_K := o_ret0
set_option maxRecDepth 20000 in
theorem wX12_list_66 (hZ : zO b e D A X) : rx_OK (zV b e D A X) mX12_list 0 66 vX12_list_66 := by
  unfold vX12_list_66
  exact s_vret rfl dX12_list_66
noncomputable def vX12_list_52 : rx_K := o_const 16 (o_bi (fun x y => x + y) (o_ld rx_isI 3 (o_ast 0 (fun v => v) rx_isI (o_ld rx_isR 0 (o_dup (o_getf 12 18 (o_const 8 (o_bi (fun x y => x + y) (o_putf rx_isI 12 18 (vX12_list_66))))))))))
set_option maxRecDepth 20000 in
theorem wX12_list_52 (hZ : zO b e D A X) : rx_OK (zV b e D A X) mX12_list 0 52 vX12_list_52 := by
  unfold vX12_list_52
  refine s_iconst dX12_list_52 (by decide +kernel) ?_
  refine s_iadd dX12_list_53 ?_
  refine s_iload_n hZ.1 dX12_list_54 rfl ?_
  refine s_iast hZ.1 (tt := 0) rfl dX12_list_55 ?_
  refine s_aload_n hZ.1 dX12_list_56 rfl ?_
  refine s_dup hZ.1 dX12_list_57 ?_
  refine yg12_18 dX12_list_58 zw1621 ?_
  refine s_iconst dX12_list_61 (by decide +kernel) ?_
  refine s_iadd dX12_list_62 ?_
  refine yp12_18 hZ.1 dX12_list_63 zw1621 ?_
  exact (wX12_list_66 hZ)
noncomputable def vX12_list_16 : rx_K := o_ld rx_isR 0 (o_getf 12 17 (o_const 24 (o_ld rx_isR 0 (o_getf 12 18 (o_bi (fun x y => x * y) (o_ld rx_isI 1 (o_ast 0 (fun v => v) rx_isI (o_ld rx_isR 0 (o_getf 12 17 (o_const 24 (o_ld rx_isR 0 (o_getf 12 18 (o_bi (fun x y => x * y) (o_const 8 (o_bi (fun x y => x + y) (o_ld rx_isI 2 (o_ast 0 (fun v => v) rx_isI (o_ld rx_isR 0 (o_getf 12 17 (o_const 24 (o_ld rx_isR 0 (o_getf 12 18 (o_bi (fun x y => x * y) (vX12_list_52))))))))))))))))))))))))
set_option maxRecDepth 20000 in
theorem wX12_list_16 (hZ : zO b e D A X) : rx_OK (zV b e D A X) mX12_list 0 16 vX12_list_16 := by
  unfold vX12_list_16
  refine s_aload_n hZ.1 dX12_list_16 rfl ?_
  refine yg12_17 dX12_list_17 zw1620 ?_
  refine s_iconst dX12_list_20 (by decide +kernel) ?_
  refine s_aload_n hZ.1 dX12_list_21 rfl ?_
  refine yg12_18 dX12_list_22 zw1621 ?_
  refine s_imul dX12_list_25 ?_
  refine s_iload_n hZ.1 dX12_list_26 rfl ?_
  refine s_iast hZ.1 (tt := 0) rfl dX12_list_27 ?_
  refine s_aload_n hZ.1 dX12_list_28 rfl ?_
  refine yg12_17 dX12_list_29 zw1620 ?_
  refine s_iconst dX12_list_32 (by decide +kernel) ?_
  refine s_aload_n hZ.1 dX12_list_33 rfl ?_
  refine yg12_18 dX12_list_34 zw1621 ?_
  refine s_imul dX12_list_37 ?_
  refine s_iconst dX12_list_38 (by decide +kernel) ?_
  refine s_iadd dX12_list_39 ?_
  refine s_iload_n hZ.1 dX12_list_40 rfl ?_
  refine s_iast hZ.1 (tt := 0) rfl dX12_list_41 ?_
  refine s_aload_n hZ.1 dX12_list_42 rfl ?_
  refine yg12_17 dX12_list_43 zw1620 ?_
  refine s_iconst dX12_list_46 (by decide +kernel) ?_
  refine s_aload_n hZ.1 dX12_list_47 rfl ?_
  refine yg12_18 dX12_list_48 zw1621 ?_
  refine s_imul dX12_list_51 ?_
  exact (wX12_list_52 hZ)
noncomputable def vX12_list_0 : rx_K := o_const 24 (o_ld rx_isR 0 (o_getf 12 18 (o_bi (fun x y => x * y) (o_const 16 (o_bi (fun x y => x + y) (o_ld rx_isR 0 (o_getf 12 17 (o_alen 0 (o_c2 rx_lt vX12_list_16 vX12_list_66)))))))))
set_option maxRecDepth 20000 in
theorem wX12_list_0 (hZ : zO b e D A X) : rx_OK (zV b e D A X) mX12_list 0 0 vX12_list_0 := by
  unfold vX12_list_0
  refine s_iconst dX12_list_0 (by decide +kernel) ?_
  refine s_aload_n hZ.1 dX12_list_1 rfl ?_
  refine yg12_18 dX12_list_2 zw1621 ?_
  refine s_imul dX12_list_5 ?_
  refine s_iconst dX12_list_6 (by decide +kernel) ?_
  refine s_iadd dX12_list_7 ?_
  refine s_aload_n hZ.1 dX12_list_8 rfl ?_
  refine yg12_17 dX12_list_9 zw1620 ?_
  refine s_alen (tt := 0) rfl dX12_list_12 ?_
  exact s_icmp_ge dX12_list_13 (by decide) (wX12_list_66 hZ) (wX12_list_16 hZ)
noncomputable def FX12_list : List Nat → rx_H → Option (Nat × rx_H) := rx_ent 4 vX12_list_0
theorem Met_X12_list (hZ : zO b e D A X) : rx_Met (zV b e D A X) 0 yX12_list mX12_list (FX12_list) := rx_entry hZ.1 (wX12_list_0 hZ) (by decide +kernel) rfl (fun h => by cases h)
abbrev mX12_countBroken : rx_M := (RX12, cX12_countBroken, 13, (some .int), false)
theorem vy_X12_countBroken : rx_Y (zV b e D A X) yX12_countBroken mX12_countBroken 3 := ⟨zw2563, zw413, by decide, by decide +kernel, by decide +kernel, by decide +kernel⟩
noncomputable def vX12_countBroken_223 (j : Nat → rx_K) : rx_K := o_ld rx_isI 4 (o_ret1 rx_isI)
set_option maxRecDepth 20000 in
theorem wX12_countBroken_223 (hZ : zO b e D A X) (j : Nat → rx_K) (hj : ∀ k pc, [6, 27, 102][k]? = some pc → rx_OK (zV b e D A X) mX12_countBroken 6 pc (j k)) : rx_OK (zV b e D A X) mX12_countBroken 6 223 (vX12_countBroken_223 j) := by
  unfold vX12_countBroken_223
  refine s_iload hZ.1 dX12_countBroken_223 ?_
  exact s_iret hZ.1 rfl dX12_countBroken_225
noncomputable def vX12_countBroken_217 (j : Nat → rx_K) : rx_K := o_inc 5 (1) ((j 0))
set_option maxRecDepth 20000 in
theorem wX12_countBroken_217 (hZ : zO b e D A X) (j : Nat → rx_K) (hj : ∀ k pc, [6, 27, 102][k]? = some pc → rx_OK (zV b e D A X) mX12_countBroken 6 pc (j k)) : rx_OK (zV b e D A X) mX12_countBroken 6 217 (vX12_countBroken_217 j) := by
  unfold vX12_countBroken_217
  refine s_iinc hZ.1 dX12_countBroken_217 (Nat.le_of_ble_eq_true rfl) ?_
  exact s_goto dX12_countBroken_220 (by decide) (hj 0 6 rfl)
noncomputable def vX12_countBroken_211 (j : Nat → rx_K) : rx_K := o_inc 7 (1) ((j 1))
set_option maxRecDepth 20000 in
theorem wX12_countBroken_211 (hZ : zO b e D A X) (j : Nat → rx_K) (hj : ∀ k pc, [6, 27, 102][k]? = some pc → rx_OK (zV b e D A X) mX12_countBroken 6 pc (j k)) : rx_OK (zV b e D A X) mX12_countBroken 6 211 (vX12_countBroken_211 j) := by
  unfold vX12_countBroken_211
  refine s_iinc hZ.1 dX12_countBroken_211 (Nat.le_of_ble_eq_true rfl) ?_
  exact s_goto dX12_countBroken_214 (by decide) (hj 1 27 rfl)
noncomputable def vX12_countBroken_205 (j : Nat → rx_K) : rx_K := o_inc 11 (1) ((j 2))
set_option maxRecDepth 20000 in
theorem wX12_countBroken_205 (hZ : zO b e D A X) (j : Nat → rx_K) (hj : ∀ k pc, [6, 27, 102][k]? = some pc → rx_OK (zV b e D A X) mX12_countBroken 6 pc (j k)) : rx_OK (zV b e D A X) mX12_countBroken 6 205 (vX12_countBroken_205 j) := by
  unfold vX12_countBroken_205
  refine s_iinc hZ.1 dX12_countBroken_205 (Nat.le_of_ble_eq_true rfl) ?_
  exact s_goto dX12_countBroken_208 (by decide) (hj 2 102 rfl)
noncomputable def vX12_countBroken_189 (j : Nat → rx_K) : rx_K := o_ld rx_isR 0 (o_ld rx_isI 5 (o_ld rx_isR 8 (o_getf 10 16 (o_ld rx_isI 11 (o_bi (fun x y => x + y) (o_ld rx_isI 12 (o_callV 3 12 FX12_list ((vX12_countBroken_205 j)))))))))
set_option maxRecDepth 20000 in
theorem wX12_countBroken_189 (hZ : zO b e D A X) (j : Nat → rx_K) (hj : ∀ k pc, [6, 27, 102][k]? = some pc → rx_OK (zV b e D A X) mX12_countBroken 6 pc (j k)) : rx_OK (zV b e D A X) mX12_countBroken 6 189 (vX12_countBroken_189 j) := by
  unfold vX12_countBroken_189
  refine s_aload_n hZ.1 dX12_countBroken_189 rfl ?_
  refine s_iload hZ.1 dX12_countBroken_190 ?_
  refine s_aload hZ.1 dX12_countBroken_192 ?_
  refine yg10_16 dX12_countBroken_194 zw878 ?_
  refine s_iload hZ.1 dX12_countBroken_197 ?_
  refine s_iadd dX12_countBroken_199 ?_
  refine s_iload hZ.1 dX12_countBroken_200 ?_
  refine s_callV hZ.1 (Met_X12_list hZ) (Nat.le_of_ble_eq_true rfl) vy_X12_list zcl12 zw2571 zw137 (Or.inl zw2569) dX12_countBroken_202 ?_
  exact (wX12_countBroken_205 hZ j hj)
noncomputable def vX12_countBroken_186 (j : Nat → rx_K) : rx_K := o_ld rx_isI 4 (o_ret1 rx_isI)
set_option maxRecDepth 20000 in
theorem wX12_countBroken_186 (hZ : zO b e D A X) (j : Nat → rx_K) (hj : ∀ k pc, [6, 27, 102][k]? = some pc → rx_OK (zV b e D A X) mX12_countBroken 6 pc (j k)) : rx_OK (zV b e D A X) mX12_countBroken 6 186 (vX12_countBroken_186 j) := by
  unfold vX12_countBroken_186
  refine s_iload hZ.1 dX12_countBroken_186 ?_
  exact s_iret hZ.1 rfl dX12_countBroken_188
noncomputable def vX12_countBroken_179 (j : Nat → rx_K) : rx_K := o_inc 4 (1) (o_ld rx_isI 3 (o_c1 rx_eq (vX12_countBroken_186 j) (vX12_countBroken_189 j)))
set_option maxRecDepth 20000 in
theorem wX12_countBroken_179 (hZ : zO b e D A X) (j : Nat → rx_K) (hj : ∀ k pc, [6, 27, 102][k]? = some pc → rx_OK (zV b e D A X) mX12_countBroken 6 pc (j k)) : rx_OK (zV b e D A X) mX12_countBroken 6 179 (vX12_countBroken_179 j) := by
  unfold vX12_countBroken_179
  refine s_iinc hZ.1 dX12_countBroken_179 (Nat.le_of_ble_eq_true rfl) ?_
  refine s_iload_n hZ.1 dX12_countBroken_182 rfl ?_
  exact s_if_ne dX12_countBroken_183 (by decide) (wX12_countBroken_189 hZ j hj) (wX12_countBroken_186 hZ j hj)
noncomputable def vX12_countBroken_163 (j : Nat → rx_K) : rx_K := o_st rx_isI 12 (o_ld rx_isR 0 (o_getf 12 16 (o_ld rx_isI 10 (o_callV 1 5 FX5_undo (o_ld rx_isI 12 (o_c1 rx_eq (vX12_countBroken_205 j) (vX12_countBroken_179 j)))))))
set_option maxRecDepth 20000 in
theorem wX12_countBroken_163 (hZ : zO b e D A X) (j : Nat → rx_K) (hj : ∀ k pc, [6, 27, 102][k]? = some pc → rx_OK (zV b e D A X) mX12_countBroken 6 pc (j k)) : rx_OK (zV b e D A X) mX12_countBroken 6 163 (vX12_countBroken_163 j) := by
  unfold vX12_countBroken_163
  refine s_istore hZ.1 dX12_countBroken_163 (Nat.le_of_ble_eq_true rfl) ?_
  refine s_aload_n hZ.1 dX12_countBroken_165 rfl ?_
  refine yg12_16 dX12_countBroken_166 zw1619 ?_
  refine s_iload hZ.1 dX12_countBroken_169 ?_
  refine s_callV hZ.1 (Met_X5_undo hZ) (Nat.le_of_ble_eq_true rfl) vy_X5_undo zcl5 zw2566 zw2567 (Or.inl zw2565) dX12_countBroken_171 ?_
  refine s_iload hZ.1 dX12_countBroken_174 ?_
  exact s_if_eq dX12_countBroken_176 (by decide) (wX12_countBroken_205 hZ j hj) (wX12_countBroken_179 hZ j hj)
noncomputable def vX12_countBroken_152 (j : Nat → rx_K) : rx_K := o_ld rx_isR 0 (o_getf 12 16 (o_ld rx_isI 9 (o_ld rx_isI 11 (o_callV 2 5 FX5_ask ((vX12_countBroken_163 j))))))
set_option maxRecDepth 20000 in
theorem wX12_countBroken_152 (hZ : zO b e D A X) (j : Nat → rx_K) (hj : ∀ k pc, [6, 27, 102][k]? = some pc → rx_OK (zV b e D A X) mX12_countBroken 6 pc (j k)) : rx_OK (zV b e D A X) mX12_countBroken 6 152 (vX12_countBroken_152 j) := by
  unfold vX12_countBroken_152
  refine s_aload_n hZ.1 dX12_countBroken_152 rfl ?_
  refine yg12_16 dX12_countBroken_153 zw1619 ?_
  refine s_iload hZ.1 dX12_countBroken_156 ?_
  refine s_iload hZ.1 dX12_countBroken_158 ?_
  refine s_callV hZ.1 (Met_X5_ask hZ) (Nat.le_of_ble_eq_true rfl) vy_X5_ask zcl5 zw2481 zw2482 (Or.inl zw2480) dX12_countBroken_160 ?_
  exact (wX12_countBroken_163 hZ j hj)
noncomputable def vX12_countBroken_148 (j : Nat → rx_K) : rx_K := o_const 0 ((vX12_countBroken_163 j))
set_option maxRecDepth 20000 in
theorem wX12_countBroken_148 (hZ : zO b e D A X) (j : Nat → rx_K) (hj : ∀ k pc, [6, 27, 102][k]? = some pc → rx_OK (zV b e D A X) mX12_countBroken 6 pc (j k)) : rx_OK (zV b e D A X) mX12_countBroken 6 148 (vX12_countBroken_148 j) := by
  unfold vX12_countBroken_148
  refine s_iconst dX12_countBroken_148 (by decide +kernel) ?_
  exact s_goto dX12_countBroken_149 (by decide) (wX12_countBroken_163 hZ j hj)
noncomputable def vX12_countBroken_129 (j : Nat → rx_K) : rx_K := o_ld rx_isR 6 (o_getf 1 10 (o_ld rx_isR 8 (o_getf 10 16 (o_ld rx_isI 11 (o_bi (fun x y => x + y) (o_ald 0 (o_const 128 (o_c2 rx_eq (vX12_countBroken_148 j) (vX12_countBroken_152 j)))))))))
set_option maxRecDepth 20000 in
theorem wX12_countBroken_129 (hZ : zO b e D A X) (j : Nat → rx_K) (hj : ∀ k pc, [6, 27, 102][k]? = some pc → rx_OK (zV b e D A X) mX12_countBroken 6 pc (j k)) : rx_OK (zV b e D A X) mX12_countBroken 6 129 (vX12_countBroken_129 j) := by
  unfold vX12_countBroken_129
  refine s_aload hZ.1 dX12_countBroken_129 ?_
  refine yg1_10 dX12_countBroken_131 zw1148 ?_
  refine s_aload hZ.1 dX12_countBroken_134 ?_
  refine yg10_16 dX12_countBroken_136 zw878 ?_
  refine s_iload hZ.1 dX12_countBroken_139 ?_
  refine s_iadd dX12_countBroken_141 ?_
  refine s_iald (tt := 0) rfl dX12_countBroken_142 ?_
  refine s_bipush dX12_countBroken_143 (by decide +kernel) ?_
  exact s_icmp_ne dX12_countBroken_145 (by decide) (wX12_countBroken_152 hZ j hj) (wX12_countBroken_148 hZ j hj)
noncomputable def vX12_countBroken_117 (j : Nat → rx_K) : rx_K := o_ld rx_isR 1 (o_getf 11 1 (o_ld rx_isI 9 (o_ald 4 (o_ld rx_isR 8 (o_acmp (vX12_countBroken_129 j) (vX12_countBroken_211 j))))))
set_option maxRecDepth 20000 in
theorem wX12_countBroken_117 (hZ : zO b e D A X) (j : Nat → rx_K) (hj : ∀ k pc, [6, 27, 102][k]? = some pc → rx_OK (zV b e D A X) mX12_countBroken 6 pc (j k)) : rx_OK (zV b e D A X) mX12_countBroken 6 117 (vX12_countBroken_117 j) := by
  unfold vX12_countBroken_117
  refine s_aload_n hZ.1 dX12_countBroken_117 rfl ?_
  refine yg11_1 dX12_countBroken_118 zw1258 ?_
  refine s_iload hZ.1 dX12_countBroken_121 ?_
  refine s_aald (tt := 4) rfl rfl dX12_countBroken_123 ?_
  refine s_aload hZ.1 dX12_countBroken_124 ?_
  exact s_acmp_ne hZ.1 dX12_countBroken_126 (by decide) (wX12_countBroken_211 hZ j hj) (wX12_countBroken_129 hZ j hj)
noncomputable def vX12_countBroken_112 (j : Nat → rx_K) : rx_K := o_ld rx_isI 9 (o_c1 rx_lt (vX12_countBroken_211 j) (vX12_countBroken_117 j))
set_option maxRecDepth 20000 in
theorem wX12_countBroken_112 (hZ : zO b e D A X) (j : Nat → rx_K) (hj : ∀ k pc, [6, 27, 102][k]? = some pc → rx_OK (zV b e D A X) mX12_countBroken 6 pc (j k)) : rx_OK (zV b e D A X) mX12_countBroken 6 112 (vX12_countBroken_112 j) := by
  unfold vX12_countBroken_112
  refine s_iload hZ.1 dX12_countBroken_112 ?_
  exact s_if_lt dX12_countBroken_114 (by decide) (wX12_countBroken_211 hZ j hj) (wX12_countBroken_117 hZ j hj)
noncomputable def vX12_countBroken_102 (j : Nat → rx_K) : rx_K := o_ld rx_isI 11 (o_ld rx_isR 8 (o_getf 10 17 (o_c2 rx_lt (vX12_countBroken_112 j) (vX12_countBroken_211 j))))
set_option maxRecDepth 20000 in
theorem wX12_countBroken_102 (hZ : zO b e D A X) (j : Nat → rx_K) (hj : ∀ k pc, [6, 27, 102][k]? = some pc → rx_OK (zV b e D A X) mX12_countBroken 6 pc (j k)) : rx_OK (zV b e D A X) mX12_countBroken 6 102 (vX12_countBroken_102 j) := by
  unfold vX12_countBroken_102
  refine s_iload hZ.1 dX12_countBroken_102 ?_
  refine s_aload hZ.1 dX12_countBroken_104 ?_
  refine yg10_17 dX12_countBroken_106 zw882 ?_
  exact s_icmp_ge dX12_countBroken_109 (by decide) (wX12_countBroken_211 hZ j hj) (wX12_countBroken_112 hZ j hj)
noncomputable def vX12_countBroken_86 (j : Nat → rx_K) : rx_K := o_callV 1 5 FX5_load (o_pop (o_ld rx_isR 0 (o_getf 12 16 (o_getf 5 6 (o_st rx_isI 10 (o_const 0 (o_st rx_isI 11 ((vX12_countBroken_102 j)))))))))
set_option maxRecDepth 20000 in
theorem wX12_countBroken_86 (hZ : zO b e D A X) (j : Nat → rx_K) (hj : ∀ k pc, [6, 27, 102][k]? = some pc → rx_OK (zV b e D A X) mX12_countBroken 6 pc (j k)) : rx_OK (zV b e D A X) mX12_countBroken 6 86 (vX12_countBroken_86 j) := by
  unfold vX12_countBroken_86
  refine s_callV hZ.1 (Met_X5_load hZ) (Nat.le_of_ble_eq_true rfl) vy_X5_load zcl5 zw2493 zw2494 (Or.inl zw2564) dX12_countBroken_86 ?_
  refine s_pop hZ.1 dX12_countBroken_89 ?_
  refine s_aload_n hZ.1 dX12_countBroken_90 rfl ?_
  refine yg12_16 dX12_countBroken_91 zw1619 ?_
  refine yg5_6 dX12_countBroken_94 zw1361 ?_
  refine s_istore hZ.1 dX12_countBroken_97 (Nat.le_of_ble_eq_true rfl) ?_
  refine s_iconst dX12_countBroken_99 (by decide +kernel) ?_
  refine s_istore hZ.1 dX12_countBroken_100 (Nat.le_of_ble_eq_true rfl) ?_
  exact (wX12_countBroken_102 hZ j hj)
noncomputable def vX12_countBroken_84 (j : Nat → rx_K) : rx_K := o_ld rx_isI 9 ((vX12_countBroken_86 j))
set_option maxRecDepth 20000 in
theorem wX12_countBroken_84 (hZ : zO b e D A X) (j : Nat → rx_K) (hj : ∀ k pc, [6, 27, 102][k]? = some pc → rx_OK (zV b e D A X) mX12_countBroken 6 pc (j k)) : rx_OK (zV b e D A X) mX12_countBroken 6 84 (vX12_countBroken_84 j) := by
  unfold vX12_countBroken_84
  refine s_iload hZ.1 dX12_countBroken_84 ?_
  exact (wX12_countBroken_86 hZ j hj)
noncomputable def vX12_countBroken_80 (j : Nat → rx_K) : rx_K := o_const 0 ((vX12_countBroken_86 j))
set_option maxRecDepth 20000 in
theorem wX12_countBroken_80 (hZ : zO b e D A X) (j : Nat → rx_K) (hj : ∀ k pc, [6, 27, 102][k]? = some pc → rx_OK (zV b e D A X) mX12_countBroken 6 pc (j k)) : rx_OK (zV b e D A X) mX12_countBroken 6 80 (vX12_countBroken_80 j) := by
  unfold vX12_countBroken_80
  refine s_iconst dX12_countBroken_80 (by decide +kernel) ?_
  exact s_goto dX12_countBroken_81 (by decide) (wX12_countBroken_86 hZ j hj)
noncomputable def vX12_countBroken_42 (j : Nat → rx_K) : rx_K := o_ld rx_isR 6 (o_getf 1 2 (o_ld rx_isI 7 (o_ald 4 (o_st rx_isR 8 (o_ld rx_isR 1 (o_ld rx_isR 8 (o_getf 10 1 (o_callV 1 11 FX11_find (o_st rx_isI 9 (o_ld rx_isR 0 (o_getf 12 16 (o_ld rx_isR 1 (o_callV 1 5 FX5_clear (o_ld rx_isR 0 (o_getf 12 16 (o_ld rx_isI 9 (o_c1 rx_lt (vX12_countBroken_80 j) (vX12_countBroken_84 j))))))))))))))))))
set_option maxRecDepth 20000 in
theorem wX12_countBroken_42 (hZ : zO b e D A X) (j : Nat → rx_K) (hj : ∀ k pc, [6, 27, 102][k]? = some pc → rx_OK (zV b e D A X) mX12_countBroken 6 pc (j k)) : rx_OK (zV b e D A X) mX12_countBroken 6 42 (vX12_countBroken_42 j) := by
  unfold vX12_countBroken_42
  refine s_aload hZ.1 dX12_countBroken_42 ?_
  refine yg1_2 dX12_countBroken_44 zw1119 ?_
  refine s_iload hZ.1 dX12_countBroken_47 ?_
  refine s_aald (tt := 4) rfl rfl dX12_countBroken_49 ?_
  refine s_astore hZ.1 dX12_countBroken_50 (Nat.le_of_ble_eq_true rfl) ?_
  refine s_aload_n hZ.1 dX12_countBroken_52 rfl ?_
  refine s_aload hZ.1 dX12_countBroken_53 ?_
  refine yg10_1 dX12_countBroken_55 zw777 ?_
  refine s_callV hZ.1 (Met_X11_find hZ) (Nat.le_of_ble_eq_true rfl) vy_X11_find zcl11 zw1574 zw1575 (Or.inl zw2478) dX12_countBroken_58 ?_
  refine s_istore hZ.1 dX12_countBroken_61 (Nat.le_of_ble_eq_true rfl) ?_
  refine s_aload_n hZ.1 dX12_countBroken_63 rfl ?_
  refine yg12_16 dX12_countBroken_64 zw1619 ?_
  refine s_aload_n hZ.1 dX12_countBroken_67 rfl ?_
  refine s_callV hZ.1 (Met_X5_clear hZ) (Nat.le_of_ble_eq_true rfl) vy_X5_clear zcl5 zw1598 zw1599 (Or.inl zw2479) dX12_countBroken_68 ?_
  refine s_aload_n hZ.1 dX12_countBroken_71 rfl ?_
  refine yg12_16 dX12_countBroken_72 zw1619 ?_
  refine s_iload hZ.1 dX12_countBroken_75 ?_
  exact s_if_ge dX12_countBroken_77 (by decide) (wX12_countBroken_84 hZ j hj) (wX12_countBroken_80 hZ j hj)
noncomputable def vX12_countBroken_32 (j : Nat → rx_K) : rx_K := o_ld rx_isI 7 (o_ld rx_isR 6 (o_getf 1 3 (o_c2 rx_lt (vX12_countBroken_42 j) (vX12_countBroken_217 j))))
set_option maxRecDepth 20000 in
theorem wX12_countBroken_32 (hZ : zO b e D A X) (j : Nat → rx_K) (hj : ∀ k pc, [6, 27, 102][k]? = some pc → rx_OK (zV b e D A X) mX12_countBroken 6 pc (j k)) : rx_OK (zV b e D A X) mX12_countBroken 6 32 (vX12_countBroken_32 j) := by
  unfold vX12_countBroken_32
  refine s_iload hZ.1 dX12_countBroken_32 ?_
  refine s_aload hZ.1 dX12_countBroken_34 ?_
  refine yg1_3 dX12_countBroken_36 zw1126 ?_
  exact s_icmp_ge dX12_countBroken_39 (by decide) (wX12_countBroken_217 hZ j hj) (wX12_countBroken_42 hZ j hj)
noncomputable def vX12_countBroken_27 (j : Nat → rx_K) : rx_K := o_ld rx_isR 6 (o_nul (vX12_countBroken_217 j) (vX12_countBroken_32 j))
set_option maxRecDepth 20000 in
theorem wX12_countBroken_27 (hZ : zO b e D A X) (j : Nat → rx_K) (hj : ∀ k pc, [6, 27, 102][k]? = some pc → rx_OK (zV b e D A X) mX12_countBroken 6 pc (j k)) : rx_OK (zV b e D A X) mX12_countBroken 6 27 (vX12_countBroken_27 j) := by
  unfold vX12_countBroken_27
  refine s_aload hZ.1 dX12_countBroken_27 ?_
  exact s_ifnull dX12_countBroken_29 (by decide) (wX12_countBroken_217 hZ j hj) (wX12_countBroken_32 hZ j hj)
noncomputable def vX12_countBroken_12 (j : Nat → rx_K) : rx_K := o_ld rx_isR 0 (o_ld rx_isI 5 (o_ld rx_isR 2 (o_ld rx_isI 5 (o_ald 0 (o_callV 2 12 FX12_buildOf (o_st rx_isR 6 (o_const 0 (o_st rx_isI 7 ((vX12_countBroken_27 j))))))))))
set_option maxRecDepth 20000 in
theorem wX12_countBroken_12 (hZ : zO b e D A X) (j : Nat → rx_K) (hj : ∀ k pc, [6, 27, 102][k]? = some pc → rx_OK (zV b e D A X) mX12_countBroken 6 pc (j k)) : rx_OK (zV b e D A X) mX12_countBroken 6 12 (vX12_countBroken_12 j) := by
  unfold vX12_countBroken_12
  refine s_aload_n hZ.1 dX12_countBroken_12 rfl ?_
  refine s_iload hZ.1 dX12_countBroken_13 ?_
  refine s_aload_n hZ.1 dX12_countBroken_15 rfl ?_
  refine s_iload hZ.1 dX12_countBroken_16 ?_
  refine s_iald (tt := 0) rfl dX12_countBroken_18 ?_
  refine s_callV hZ.1 (Met_X12_buildOf hZ) (Nat.le_of_ble_eq_true rfl) vy_X12_buildOf zcl12 zw1559 zw1 (Or.inl zw1557) dX12_countBroken_19 ?_
  refine s_astore hZ.1 dX12_countBroken_22 (Nat.le_of_ble_eq_true rfl) ?_
  refine s_iconst dX12_countBroken_24 (by decide +kernel) ?_
  refine s_istore hZ.1 dX12_countBroken_25 (Nat.le_of_ble_eq_true rfl) ?_
  exact (wX12_countBroken_27 hZ j hj)
noncomputable def vX12_countBroken_6 (j : Nat → rx_K) : rx_K := o_ld rx_isI 5 (o_const 40 (o_c2 rx_lt (vX12_countBroken_12 j) (vX12_countBroken_223 j)))
set_option maxRecDepth 20000 in
theorem wX12_countBroken_6 (hZ : zO b e D A X) (j : Nat → rx_K) (hj : ∀ k pc, [6, 27, 102][k]? = some pc → rx_OK (zV b e D A X) mX12_countBroken 6 pc (j k)) : rx_OK (zV b e D A X) mX12_countBroken 6 6 (vX12_countBroken_6 j) := by
  unfold vX12_countBroken_6
  refine s_iload hZ.1 dX12_countBroken_6 ?_
  refine s_iconst dX12_countBroken_8 (by decide +kernel) ?_
  exact s_icmp_ge dX12_countBroken_9 (by decide) (wX12_countBroken_223 hZ j hj) (wX12_countBroken_12 hZ j hj)
noncomputable def vX12_countBroken_0 (j : Nat → rx_K) : rx_K := o_const 0 (o_st rx_isI 4 (o_const 0 (o_st rx_isI 5 ((vX12_countBroken_6 j)))))
set_option maxRecDepth 20000 in
theorem wX12_countBroken_0 (hZ : zO b e D A X) (j : Nat → rx_K) (hj : ∀ k pc, [6, 27, 102][k]? = some pc → rx_OK (zV b e D A X) mX12_countBroken 6 pc (j k)) : rx_OK (zV b e D A X) mX12_countBroken 6 0 (vX12_countBroken_0 j) := by
  unfold vX12_countBroken_0
  refine s_iconst dX12_countBroken_0 (by decide +kernel) ?_
  refine s_istore hZ.1 dX12_countBroken_1 (Nat.le_of_ble_eq_true rfl) ?_
  refine s_iconst dX12_countBroken_3 (by decide +kernel) ?_
  refine s_istore hZ.1 dX12_countBroken_4 (Nat.le_of_ble_eq_true rfl) ?_
  exact (wX12_countBroken_6 hZ j hj)
noncomputable def vhX12_countBroken (j : Nat → rx_K) : List rx_K := [vX12_countBroken_6 j, vX12_countBroken_27 j, vX12_countBroken_102 j]
theorem vlX12_countBroken (hZ : zO b e D A X) : ∀ n k pc, [6, 27, 102][k]? = some pc → rx_OK (zV b e D A X) mX12_countBroken 6 pc (rx_J (vhX12_countBroken) n k) := rx_loop fun j hj k pc h => by
  match k, h with
  | 0, h =>
    have e9 := Option.some.inj (show some 6 = some pc from h)
    subst e9
    exact wX12_countBroken_6 hZ j hj
  | 1, h =>
    have e9 := Option.some.inj (show some 27 = some pc from h)
    subst e9
    exact wX12_countBroken_27 hZ j hj
  | 2, h =>
    have e9 := Option.some.inj (show some 102 = some pc from h)
    subst e9
    exact wX12_countBroken_102 hZ j hj
  | _ + 3, h => exact absurd h (by simp)
noncomputable def FX12_countBroken : List Nat → rx_H → Option (Nat × rx_H) := rx_ent 13 (vX12_countBroken_0 (rx_J (vhX12_countBroken) 4000000000))
theorem Met_X12_countBroken (hZ : zO b e D A X) : rx_Met (zV b e D A X) 6 yX12_countBroken mX12_countBroken (FX12_countBroken) := rx_entry hZ.1 (wX12_countBroken_0 hZ _ (vlX12_countBroken hZ 4000000000)) (by decide +kernel) rfl (fun h => by cases h)
abbrev mX12_broken : rx_M := (RX12, cX12_broken, 1, (some .int), false)
theorem vy_X12_broken : rx_Y (zV b e D A X) yX12_broken mX12_broken 0 := ⟨zw2559, zw413, by decide, by decide +kernel, by decide +kernel, by decide +kernel⟩
noncomputable def vX12_broken_0 : rx_K := o_ld rx_isR 0 (o_const 0 (o_putf rx_isI 12 18 (o_ld rx_isR 0 (o_ld rx_isR 0 (o_getf 12 13 (o_ld rx_isR 0 (o_getf 12 6 (o_const 8 (o_callV 3 12 FX12_countBroken (o_ret1 rx_isI))))))))))
set_option maxRecDepth 20000 in
theorem wX12_broken_0 (hZ : zO b e D A X) : rx_OK (zV b e D A X) mX12_broken 7 0 vX12_broken_0 := by
  unfold vX12_broken_0
  refine s_aload_n hZ.1 dX12_broken_0 rfl ?_
  refine s_iconst dX12_broken_1 (by decide +kernel) ?_
  refine yp12_18 hZ.1 dX12_broken_2 zw1621 ?_
  refine s_aload_n hZ.1 dX12_broken_5 rfl ?_
  refine s_aload_n hZ.1 dX12_broken_6 rfl ?_
  refine yg12_13 dX12_broken_7 zw1616 ?_
  refine s_aload_n hZ.1 dX12_broken_10 rfl ?_
  refine yg12_6 dX12_broken_11 zw1609 ?_
  refine s_iconst dX12_broken_14 (by decide +kernel) ?_
  refine s_callV hZ.1 (Met_X12_countBroken hZ) (Nat.le_of_ble_eq_true rfl) vy_X12_countBroken zcl12 zw2562 zw136 (Or.inl zw2560) dX12_broken_15 ?_
  exact s_iret hZ.1 rfl dX12_broken_18
noncomputable def FX12_broken : List Nat → rx_H → Option (Nat × rx_H) := rx_ent 1 vX12_broken_0
theorem Met_X12_broken (hZ : zO b e D A X) : rx_Met (zV b e D A X) 7 yX12_broken mX12_broken (FX12_broken) := rx_entry hZ.1 (wX12_broken_0 hZ) (by decide +kernel) rfl (fun h => by cases h)
abbrev mX12_brokenAt : rx_M := (RX12, cX12_brokenAt, 3, (some .int), false)
theorem vy_X12_brokenAt : rx_Y (zV b e D A X) yX12_brokenAt mX12_brokenAt 2 := ⟨zw2576, zw413, by decide, by decide +kernel, by decide +kernel, by decide +kernel⟩
noncomputable def vX12_brokenAt_35 : rx_K := o_ret1 rx_isI
set_option maxRecDepth 20000 in
theorem wX12_brokenAt_35 (hZ : zO b e D A X) : rx_OK (zV b e D A X) mX12_brokenAt 0 35 vX12_brokenAt_35 := by
  unfold vX12_brokenAt_35
  exact s_iret hZ.1 rfl dX12_brokenAt_35
noncomputable def vX12_brokenAt_25 : rx_K := o_ld rx_isR 0 (o_getf 12 17 (o_const 24 (o_ld rx_isI 1 (o_bi (fun x y => x * y) (o_ld rx_isI 2 (o_bi (fun x y => x + y) (o_ald 0 (vX12_brokenAt_35))))))))
set_option maxRecDepth 20000 in
theorem wX12_brokenAt_25 (hZ : zO b e D A X) : rx_OK (zV b e D A X) mX12_brokenAt 0 25 vX12_brokenAt_25 := by
  unfold vX12_brokenAt_25
  refine s_aload_n hZ.1 dX12_brokenAt_25 rfl ?_
  refine yg12_17 dX12_brokenAt_26 zw1620 ?_
  refine s_iconst dX12_brokenAt_29 (by decide +kernel) ?_
  refine s_iload_n hZ.1 dX12_brokenAt_30 rfl ?_
  refine s_imul dX12_brokenAt_31 ?_
  refine s_iload_n hZ.1 dX12_brokenAt_32 rfl ?_
  refine s_iadd dX12_brokenAt_33 ?_
  refine s_iald (tt := 0) rfl dX12_brokenAt_34 ?_
  exact (wX12_brokenAt_35 hZ)
noncomputable def vX12_brokenAt_21 : rx_K := o_const 34359738360 (vX12_brokenAt_35)
set_option maxRecDepth 20000 in
theorem wX12_brokenAt_21 (hZ : zO b e D A X) : rx_OK (zV b e D A X) mX12_brokenAt 0 21 vX12_brokenAt_21 := by
  unfold vX12_brokenAt_21
  refine s_iconst dX12_brokenAt_21 (by decide +kernel) ?_
  exact s_goto dX12_brokenAt_22 (by decide) (wX12_brokenAt_35 hZ)
noncomputable def vX12_brokenAt_16 : rx_K := o_ld rx_isI 2 (o_const 16 (o_c2 (fun h x y => rx_lt h y x) vX12_brokenAt_21 vX12_brokenAt_25))
set_option maxRecDepth 20000 in
theorem wX12_brokenAt_16 (hZ : zO b e D A X) : rx_OK (zV b e D A X) mX12_brokenAt 0 16 vX12_brokenAt_16 := by
  unfold vX12_brokenAt_16
  refine s_iload_n hZ.1 dX12_brokenAt_16 rfl ?_
  refine s_iconst dX12_brokenAt_17 (by decide +kernel) ?_
  exact s_icmp_le dX12_brokenAt_18 (by decide) (wX12_brokenAt_25 hZ) (wX12_brokenAt_21 hZ)
noncomputable def vX12_brokenAt_12 : rx_K := o_ld rx_isI 2 (o_c1 rx_lt vX12_brokenAt_21 vX12_brokenAt_16)
set_option maxRecDepth 20000 in
theorem wX12_brokenAt_12 (hZ : zO b e D A X) : rx_OK (zV b e D A X) mX12_brokenAt 0 12 vX12_brokenAt_12 := by
  unfold vX12_brokenAt_12
  refine s_iload_n hZ.1 dX12_brokenAt_12 rfl ?_
  exact s_if_lt dX12_brokenAt_13 (by decide) (wX12_brokenAt_21 hZ) (wX12_brokenAt_16 hZ)
noncomputable def vX12_brokenAt_4 : rx_K := o_ld rx_isI 1 (o_ld rx_isR 0 (o_getf 12 18 (o_c2 rx_lt vX12_brokenAt_12 vX12_brokenAt_21)))
set_option maxRecDepth 20000 in
theorem wX12_brokenAt_4 (hZ : zO b e D A X) : rx_OK (zV b e D A X) mX12_brokenAt 0 4 vX12_brokenAt_4 := by
  unfold vX12_brokenAt_4
  refine s_iload_n hZ.1 dX12_brokenAt_4 rfl ?_
  refine s_aload_n hZ.1 dX12_brokenAt_5 rfl ?_
  refine yg12_18 dX12_brokenAt_6 zw1621 ?_
  exact s_icmp_ge dX12_brokenAt_9 (by decide) (wX12_brokenAt_21 hZ) (wX12_brokenAt_12 hZ)
noncomputable def vX12_brokenAt_0 : rx_K := o_ld rx_isI 1 (o_c1 rx_lt vX12_brokenAt_21 vX12_brokenAt_4)
set_option maxRecDepth 20000 in
theorem wX12_brokenAt_0 (hZ : zO b e D A X) : rx_OK (zV b e D A X) mX12_brokenAt 0 0 vX12_brokenAt_0 := by
  unfold vX12_brokenAt_0
  refine s_iload_n hZ.1 dX12_brokenAt_0 rfl ?_
  exact s_if_lt dX12_brokenAt_1 (by decide) (wX12_brokenAt_21 hZ) (wX12_brokenAt_4 hZ)
noncomputable def FX12_brokenAt : List Nat → rx_H → Option (Nat × rx_H) := rx_ent 3 vX12_brokenAt_0
theorem Met_X12_brokenAt (hZ : zO b e D A X) : rx_Met (zV b e D A X) 0 yX12_brokenAt mX12_brokenAt (FX12_brokenAt) := rx_entry hZ.1 (wX12_brokenAt_0 hZ) (by decide +kernel) rfl (fun h => by cases h)
abbrev mX12_stale : rx_M := (RX12, cX12_stale, 6, (some .int), false)
theorem vy_X12_stale : rx_Y (zV b e D A X) yX12_stale mX12_stale 0 := ⟨zw2580, zw413, by decide, by decide +kernel, by decide +kernel, by decide +kernel⟩
noncomputable def vX12_stale_133 (j : Nat → rx_K) : rx_K := o_ld rx_isI 1 (o_ret1 rx_isI)
set_option maxRecDepth 20000 in
theorem wX12_stale_133 (hZ : zO b e D A X) (j : Nat → rx_K) (hj : ∀ k pc, [15, 35][k]? = some pc → rx_OK (zV b e D A X) mX12_stale 6 pc (j k)) : rx_OK (zV b e D A X) mX12_stale 6 133 (vX12_stale_133 j) := by
  unfold vX12_stale_133
  refine s_iload_n hZ.1 dX12_stale_133 rfl ?_
  exact s_iret hZ.1 rfl dX12_stale_134
noncomputable def vX12_stale_127 (j : Nat → rx_K) : rx_K := o_inc 2 (1) ((j 0))
set_option maxRecDepth 20000 in
theorem wX12_stale_127 (hZ : zO b e D A X) (j : Nat → rx_K) (hj : ∀ k pc, [15, 35][k]? = some pc → rx_OK (zV b e D A X) mX12_stale 6 pc (j k)) : rx_OK (zV b e D A X) mX12_stale 6 127 (vX12_stale_127 j) := by
  unfold vX12_stale_127
  refine s_iinc hZ.1 dX12_stale_127 (Nat.le_of_ble_eq_true rfl) ?_
  exact s_goto dX12_stale_130 (by decide) (hj 0 15 rfl)
noncomputable def vX12_stale_119 (j : Nat → rx_K) : rx_K := o_bi (fun x y => x + y) (o_st rx_isI 1 (o_inc 4 (1) ((j 1))))
set_option maxRecDepth 20000 in
theorem wX12_stale_119 (hZ : zO b e D A X) (j : Nat → rx_K) (hj : ∀ k pc, [15, 35][k]? = some pc → rx_OK (zV b e D A X) mX12_stale 6 pc (j k)) : rx_OK (zV b e D A X) mX12_stale 6 119 (vX12_stale_119 j) := by
  unfold vX12_stale_119
  refine s_iadd dX12_stale_119 ?_
  refine s_istore_n hZ.1 dX12_stale_120 rfl (Nat.le_of_ble_eq_true rfl) ?_
  refine s_iinc hZ.1 dX12_stale_121 (Nat.le_of_ble_eq_true rfl) ?_
  exact s_goto dX12_stale_124 (by decide) (hj 1 35 rfl)
noncomputable def vX12_stale_118 (j : Nat → rx_K) : rx_K := o_const 0 ((vX12_stale_119 j))
set_option maxRecDepth 20000 in
theorem wX12_stale_118 (hZ : zO b e D A X) (j : Nat → rx_K) (hj : ∀ k pc, [15, 35][k]? = some pc → rx_OK (zV b e D A X) mX12_stale 6 pc (j k)) : rx_OK (zV b e D A X) mX12_stale 6 118 (vX12_stale_118 j) := by
  unfold vX12_stale_118
  refine s_iconst dX12_stale_118 (by decide +kernel) ?_
  exact (wX12_stale_119 hZ j hj)
noncomputable def vX12_stale_114 (j : Nat → rx_K) : rx_K := o_const 8 ((vX12_stale_119 j))
set_option maxRecDepth 20000 in
theorem wX12_stale_114 (hZ : zO b e D A X) (j : Nat → rx_K) (hj : ∀ k pc, [15, 35][k]? = some pc → rx_OK (zV b e D A X) mX12_stale 6 pc (j k)) : rx_OK (zV b e D A X) mX12_stale 6 114 (vX12_stale_114 j) := by
  unfold vX12_stale_114
  refine s_iconst dX12_stale_114 (by decide +kernel) ?_
  exact s_goto dX12_stale_115 (by decide) (wX12_stale_119 hZ j hj)
noncomputable def vX12_stale_86 (j : Nat → rx_K) : rx_K := o_ld rx_isR 0 (o_getf 12 16 (o_ld rx_isI 5 (o_ld rx_isI 4 (o_ld rx_isR 0 (o_getf 12 13 (o_getf 11 1 (o_ld rx_isI 5 (o_ald 4 (o_getf 10 16 (o_bi (fun x y => x - y) (o_callV 2 5 FX5_ask (o_c1 rx_eq (vX12_stale_118 j) (vX12_stale_114 j)))))))))))))
set_option maxRecDepth 20000 in
theorem wX12_stale_86 (hZ : zO b e D A X) (j : Nat → rx_K) (hj : ∀ k pc, [15, 35][k]? = some pc → rx_OK (zV b e D A X) mX12_stale 6 pc (j k)) : rx_OK (zV b e D A X) mX12_stale 6 86 (vX12_stale_86 j) := by
  unfold vX12_stale_86
  refine s_aload_n hZ.1 dX12_stale_86 rfl ?_
  refine yg12_16 dX12_stale_87 zw1619 ?_
  refine s_iload hZ.1 dX12_stale_90 ?_
  refine s_iload hZ.1 dX12_stale_92 ?_
  refine s_aload_n hZ.1 dX12_stale_94 rfl ?_
  refine yg12_13 dX12_stale_95 zw1616 ?_
  refine yg11_1 dX12_stale_98 zw1258 ?_
  refine s_iload hZ.1 dX12_stale_101 ?_
  refine s_aald (tt := 4) rfl rfl dX12_stale_103 ?_
  refine yg10_16 dX12_stale_104 zw878 ?_
  refine s_isub dX12_stale_107 ?_
  refine s_callV hZ.1 (Met_X5_ask hZ) (Nat.le_of_ble_eq_true rfl) vy_X5_ask zcl5 zw2481 zw2482 (Or.inl zw2480) dX12_stale_108 ?_
  exact s_if_eq dX12_stale_111 (by decide) (wX12_stale_118 hZ j hj) (wX12_stale_114 hZ j hj)
noncomputable def vX12_stale_78 (j : Nat → rx_K) : rx_K := o_st rx_isI 5 (o_ld rx_isI 1 (o_ld rx_isI 5 (o_c1 rx_lt (vX12_stale_118 j) (vX12_stale_86 j))))
set_option maxRecDepth 20000 in
theorem wX12_stale_78 (hZ : zO b e D A X) (j : Nat → rx_K) (hj : ∀ k pc, [15, 35][k]? = some pc → rx_OK (zV b e D A X) mX12_stale 6 pc (j k)) : rx_OK (zV b e D A X) mX12_stale 6 78 (vX12_stale_78 j) := by
  unfold vX12_stale_78
  refine s_istore hZ.1 dX12_stale_78 (Nat.le_of_ble_eq_true rfl) ?_
  refine s_iload_n hZ.1 dX12_stale_80 rfl ?_
  refine s_iload hZ.1 dX12_stale_81 ?_
  exact s_if_lt dX12_stale_83 (by decide) (wX12_stale_118 hZ j hj) (wX12_stale_86 hZ j hj)
noncomputable def vX12_stale_76 (j : Nat → rx_K) : rx_K := o_const 34359738352 ((vX12_stale_78 j))
set_option maxRecDepth 20000 in
theorem wX12_stale_76 (hZ : zO b e D A X) (j : Nat → rx_K) (hj : ∀ k pc, [15, 35][k]? = some pc → rx_OK (zV b e D A X) mX12_stale 6 pc (j k)) : rx_OK (zV b e D A X) mX12_stale 6 76 (vX12_stale_76 j) := by
  unfold vX12_stale_76
  refine s_bipush dX12_stale_76 (by decide +kernel) ?_
  exact (wX12_stale_78 hZ j hj)
noncomputable def vX12_stale_60 (j : Nat → rx_K) : rx_K := o_ld rx_isR 0 (o_ld rx_isI 2 (o_ld rx_isR 0 (o_getf 12 6 (o_ld rx_isI 2 (o_ald 0 (o_ld rx_isI 4 (o_callV 3 12 FX12_whereUsed ((vX12_stale_78 j)))))))))
set_option maxRecDepth 20000 in
theorem wX12_stale_60 (hZ : zO b e D A X) (j : Nat → rx_K) (hj : ∀ k pc, [15, 35][k]? = some pc → rx_OK (zV b e D A X) mX12_stale 6 pc (j k)) : rx_OK (zV b e D A X) mX12_stale 6 60 (vX12_stale_60 j) := by
  unfold vX12_stale_60
  refine s_aload_n hZ.1 dX12_stale_60 rfl ?_
  refine s_iload_n hZ.1 dX12_stale_61 rfl ?_
  refine s_aload_n hZ.1 dX12_stale_62 rfl ?_
  refine yg12_6 dX12_stale_63 zw1609 ?_
  refine s_iload_n hZ.1 dX12_stale_66 rfl ?_
  refine s_iald (tt := 0) rfl dX12_stale_67 ?_
  refine s_iload hZ.1 dX12_stale_68 ?_
  refine s_callV hZ.1 (Met_X12_whereUsed hZ) (Nat.le_of_ble_eq_true rfl) vy_X12_whereUsed zcl12 zw2476 zw125 (Or.inl zw2474) dX12_stale_70 ?_
  exact s_goto dX12_stale_73 (by decide) (wX12_stale_78 hZ j hj)
noncomputable def vX12_stale_48 (j : Nat → rx_K) : rx_K := o_ld rx_isR 3 (o_getf 1 10 (o_ld rx_isI 4 (o_ald 0 (o_const 128 (o_c2 rx_eq (vX12_stale_60 j) (vX12_stale_76 j))))))
set_option maxRecDepth 20000 in
theorem wX12_stale_48 (hZ : zO b e D A X) (j : Nat → rx_K) (hj : ∀ k pc, [15, 35][k]? = some pc → rx_OK (zV b e D A X) mX12_stale 6 pc (j k)) : rx_OK (zV b e D A X) mX12_stale 6 48 (vX12_stale_48 j) := by
  unfold vX12_stale_48
  refine s_aload_n hZ.1 dX12_stale_48 rfl ?_
  refine yg1_10 dX12_stale_49 zw1148 ?_
  refine s_iload hZ.1 dX12_stale_52 ?_
  refine s_iald (tt := 0) rfl dX12_stale_54 ?_
  refine s_bipush dX12_stale_55 (by decide +kernel) ?_
  exact s_icmp_ne dX12_stale_57 (by decide) (wX12_stale_76 hZ j hj) (wX12_stale_60 hZ j hj)
noncomputable def vX12_stale_39 (j : Nat → rx_K) : rx_K := o_ld rx_isI 4 (o_ld rx_isR 3 (o_getf 1 15 (o_c2 rx_lt (vX12_stale_48 j) (vX12_stale_127 j))))
set_option maxRecDepth 20000 in
theorem wX12_stale_39 (hZ : zO b e D A X) (j : Nat → rx_K) (hj : ∀ k pc, [15, 35][k]? = some pc → rx_OK (zV b e D A X) mX12_stale 6 pc (j k)) : rx_OK (zV b e D A X) mX12_stale 6 39 (vX12_stale_39 j) := by
  unfold vX12_stale_39
  refine s_iload hZ.1 dX12_stale_39 ?_
  refine s_aload_n hZ.1 dX12_stale_41 rfl ?_
  refine yg1_15 dX12_stale_42 zw1167 ?_
  exact s_icmp_ge dX12_stale_45 (by decide) (wX12_stale_127 hZ j hj) (wX12_stale_48 hZ j hj)
noncomputable def vX12_stale_35 (j : Nat → rx_K) : rx_K := o_ld rx_isR 3 (o_nul (vX12_stale_127 j) (vX12_stale_39 j))
set_option maxRecDepth 20000 in
theorem wX12_stale_35 (hZ : zO b e D A X) (j : Nat → rx_K) (hj : ∀ k pc, [15, 35][k]? = some pc → rx_OK (zV b e D A X) mX12_stale 6 pc (j k)) : rx_OK (zV b e D A X) mX12_stale 6 35 (vX12_stale_35 j) := by
  unfold vX12_stale_35
  refine s_aload_n hZ.1 dX12_stale_35 rfl ?_
  exact s_ifnull dX12_stale_36 (by decide) (wX12_stale_127 hZ j hj) (wX12_stale_39 hZ j hj)
noncomputable def vX12_stale_20 (j : Nat → rx_K) : rx_K := o_ld rx_isR 0 (o_ld rx_isI 2 (o_ld rx_isR 0 (o_getf 12 6 (o_ld rx_isI 2 (o_ald 0 (o_callV 2 12 FX12_buildOf (o_st rx_isR 3 (o_const 0 (o_st rx_isI 4 ((vX12_stale_35 j)))))))))))
set_option maxRecDepth 20000 in
theorem wX12_stale_20 (hZ : zO b e D A X) (j : Nat → rx_K) (hj : ∀ k pc, [15, 35][k]? = some pc → rx_OK (zV b e D A X) mX12_stale 6 pc (j k)) : rx_OK (zV b e D A X) mX12_stale 6 20 (vX12_stale_20 j) := by
  unfold vX12_stale_20
  refine s_aload_n hZ.1 dX12_stale_20 rfl ?_
  refine s_iload_n hZ.1 dX12_stale_21 rfl ?_
  refine s_aload_n hZ.1 dX12_stale_22 rfl ?_
  refine yg12_6 dX12_stale_23 zw1609 ?_
  refine s_iload_n hZ.1 dX12_stale_26 rfl ?_
  refine s_iald (tt := 0) rfl dX12_stale_27 ?_
  refine s_callV hZ.1 (Met_X12_buildOf hZ) (Nat.le_of_ble_eq_true rfl) vy_X12_buildOf zcl12 zw1559 zw1 (Or.inl zw1557) dX12_stale_28 ?_
  refine s_astore_n hZ.1 dX12_stale_31 rfl (Nat.le_of_ble_eq_true rfl) ?_
  refine s_iconst dX12_stale_32 (by decide +kernel) ?_
  refine s_istore hZ.1 dX12_stale_33 (Nat.le_of_ble_eq_true rfl) ?_
  exact (wX12_stale_35 hZ j hj)
noncomputable def vX12_stale_15 (j : Nat → rx_K) : rx_K := o_ld rx_isI 2 (o_const 40 (o_c2 rx_lt (vX12_stale_20 j) (vX12_stale_133 j)))
set_option maxRecDepth 20000 in
theorem wX12_stale_15 (hZ : zO b e D A X) (j : Nat → rx_K) (hj : ∀ k pc, [15, 35][k]? = some pc → rx_OK (zV b e D A X) mX12_stale 6 pc (j k)) : rx_OK (zV b e D A X) mX12_stale 6 15 (vX12_stale_15 j) := by
  unfold vX12_stale_15
  refine s_iload_n hZ.1 dX12_stale_15 rfl ?_
  refine s_iconst dX12_stale_16 (by decide +kernel) ?_
  exact s_icmp_ge dX12_stale_17 (by decide) (wX12_stale_133 hZ j hj) (wX12_stale_20 hZ j hj)
noncomputable def vX12_stale_0 (j : Nat → rx_K) : rx_K := o_const 0 (o_st rx_isI 1 (o_ld rx_isR 0 (o_getf 12 16 (o_ld rx_isR 0 (o_getf 12 13 (o_callV 1 5 FX5_clear (o_const 0 (o_st rx_isI 2 ((vX12_stale_15 j))))))))))
set_option maxRecDepth 20000 in
theorem wX12_stale_0 (hZ : zO b e D A X) (j : Nat → rx_K) (hj : ∀ k pc, [15, 35][k]? = some pc → rx_OK (zV b e D A X) mX12_stale 6 pc (j k)) : rx_OK (zV b e D A X) mX12_stale 6 0 (vX12_stale_0 j) := by
  unfold vX12_stale_0
  refine s_iconst dX12_stale_0 (by decide +kernel) ?_
  refine s_istore_n hZ.1 dX12_stale_1 rfl (Nat.le_of_ble_eq_true rfl) ?_
  refine s_aload_n hZ.1 dX12_stale_2 rfl ?_
  refine yg12_16 dX12_stale_3 zw1619 ?_
  refine s_aload_n hZ.1 dX12_stale_6 rfl ?_
  refine yg12_13 dX12_stale_7 zw1616 ?_
  refine s_callV hZ.1 (Met_X5_clear hZ) (Nat.le_of_ble_eq_true rfl) vy_X5_clear zcl5 zw1598 zw1599 (Or.inl zw2479) dX12_stale_10 ?_
  refine s_iconst dX12_stale_13 (by decide +kernel) ?_
  refine s_istore_n hZ.1 dX12_stale_14 rfl (Nat.le_of_ble_eq_true rfl) ?_
  exact (wX12_stale_15 hZ j hj)
noncomputable def vhX12_stale (j : Nat → rx_K) : List rx_K := [vX12_stale_15 j, vX12_stale_35 j]
theorem vlX12_stale (hZ : zO b e D A X) : ∀ n k pc, [15, 35][k]? = some pc → rx_OK (zV b e D A X) mX12_stale 6 pc (rx_J (vhX12_stale) n k) := rx_loop fun j hj k pc h => by
  match k, h with
  | 0, h =>
    have e9 := Option.some.inj (show some 15 = some pc from h)
    subst e9
    exact wX12_stale_15 hZ j hj
  | 1, h =>
    have e9 := Option.some.inj (show some 35 = some pc from h)
    subst e9
    exact wX12_stale_35 hZ j hj
  | _ + 2, h => exact absurd h (by simp)
noncomputable def FX12_stale : List Nat → rx_H → Option (Nat × rx_H) := rx_ent 6 (vX12_stale_0 (rx_J (vhX12_stale) 4000000000))
theorem Met_X12_stale (hZ : zO b e D A X) : rx_Met (zV b e D A X) 6 yX12_stale mX12_stale (FX12_stale) := rx_entry hZ.1 (wX12_stale_0 hZ _ (vlX12_stale hZ 4000000000)) (by decide +kernel) rfl (fun h => by cases h)
abbrev mX12_greatest : rx_M := (RX12, cX12_greatest, 2, (some .int), false)
theorem vy_X12_greatest : rx_Y (zV b e D A X) yX12_greatest mX12_greatest 1 := ⟨zw2588, zw413, by decide, by decide +kernel, by decide +kernel, by decide +kernel⟩
noncomputable def vX12_greatest_22 : rx_K := o_ret1 rx_isI
set_option maxRecDepth 20000 in
theorem wX12_greatest_22 (hZ : zO b e D A X) : rx_OK (zV b e D A X) mX12_greatest 0 22 vX12_greatest_22 := by
  unfold vX12_greatest_22
  exact s_iret hZ.1 rfl dX12_greatest_22
noncomputable def vX12_greatest_14 : rx_K := o_ld rx_isR 0 (o_getf 12 5 (o_ld rx_isI 1 (o_ald 0 (o_const 8 (o_bi (fun x y => x - y) (vX12_greatest_22))))))
set_option maxRecDepth 20000 in
theorem wX12_greatest_14 (hZ : zO b e D A X) : rx_OK (zV b e D A X) mX12_greatest 0 14 vX12_greatest_14 := by
  unfold vX12_greatest_14
  refine s_aload_n hZ.1 dX12_greatest_14 rfl ?_
  refine yg12_5 dX12_greatest_15 zw1608 ?_
  refine s_iload_n hZ.1 dX12_greatest_18 rfl ?_
  refine s_iald (tt := 0) rfl dX12_greatest_19 ?_
  refine s_iconst dX12_greatest_20 (by decide +kernel) ?_
  refine s_isub dX12_greatest_21 ?_
  exact (wX12_greatest_22 hZ)
noncomputable def vX12_greatest_9 : rx_K := o_const 34359738352 (vX12_greatest_22)
set_option maxRecDepth 20000 in
theorem wX12_greatest_9 (hZ : zO b e D A X) : rx_OK (zV b e D A X) mX12_greatest 0 9 vX12_greatest_9 := by
  unfold vX12_greatest_9
  refine s_bipush dX12_greatest_9 (by decide +kernel) ?_
  exact s_goto dX12_greatest_11 (by decide) (wX12_greatest_22 hZ)
noncomputable def vX12_greatest_0 : rx_K := o_ld rx_isR 0 (o_getf 12 5 (o_ld rx_isI 1 (o_ald 0 (o_c1 rx_eq vX12_greatest_9 vX12_greatest_14))))
set_option maxRecDepth 20000 in
theorem wX12_greatest_0 (hZ : zO b e D A X) : rx_OK (zV b e D A X) mX12_greatest 0 0 vX12_greatest_0 := by
  unfold vX12_greatest_0
  refine s_aload_n hZ.1 dX12_greatest_0 rfl ?_
  refine yg12_5 dX12_greatest_1 zw1608 ?_
  refine s_iload_n hZ.1 dX12_greatest_4 rfl ?_
  refine s_iald (tt := 0) rfl dX12_greatest_5 ?_
  exact s_if_ne dX12_greatest_6 (by decide) (wX12_greatest_14 hZ) (wX12_greatest_9 hZ)
noncomputable def FX12_greatest : List Nat → rx_H → Option (Nat × rx_H) := rx_ent 2 vX12_greatest_0
theorem Met_X12_greatest (hZ : zO b e D A X) : rx_Met (zV b e D A X) 0 yX12_greatest mX12_greatest (FX12_greatest) := rx_entry hZ.1 (wX12_greatest_0 hZ) (by decide +kernel) rfl (fun h => by cases h)
abbrev mX12_lowerTrial : rx_M := (RX12, cX12_lowerTrial, 2, none, false)
theorem vy_X12_lowerTrial : rx_Y (zV b e D A X) yX12_lowerTrial mX12_lowerTrial 0 := ⟨zw2593, zw413, by decide, by decide +kernel, by decide +kernel, by decide +kernel⟩
noncomputable def vX12_lowerTrial_43 (j : Nat → rx_K) : rx_K := o_ret0
set_option maxRecDepth 20000 in
theorem wX12_lowerTrial_43 (hZ : zO b e D A X) (j : Nat → rx_K) (hj : ∀ k pc, [2][k]? = some pc → rx_OK (zV b e D A X) mX12_lowerTrial 1 pc (j k)) : rx_OK (zV b e D A X) mX12_lowerTrial 1 43 (vX12_lowerTrial_43 j) := by
  unfold vX12_lowerTrial_43
  exact s_vret rfl dX12_lowerTrial_43
noncomputable def vX12_lowerTrial_26 (j : Nat → rx_K) : rx_K := o_ld rx_isR 0 (o_getf 12 7 (o_ld rx_isI 1 (o_ld rx_isR 0 (o_ld rx_isI 1 (o_callV 1 12 FX12_greatest (o_ast 0 (fun v => v) rx_isI (o_inc 1 (-1) ((j 0)))))))))
set_option maxRecDepth 20000 in
theorem wX12_lowerTrial_26 (hZ : zO b e D A X) (j : Nat → rx_K) (hj : ∀ k pc, [2][k]? = some pc → rx_OK (zV b e D A X) mX12_lowerTrial 1 pc (j k)) : rx_OK (zV b e D A X) mX12_lowerTrial 1 26 (vX12_lowerTrial_26 j) := by
  unfold vX12_lowerTrial_26
  refine s_aload_n hZ.1 dX12_lowerTrial_26 rfl ?_
  refine yg12_7 dX12_lowerTrial_27 zw1610 ?_
  refine s_iload_n hZ.1 dX12_lowerTrial_30 rfl ?_
  refine s_aload_n hZ.1 dX12_lowerTrial_31 rfl ?_
  refine s_iload_n hZ.1 dX12_lowerTrial_32 rfl ?_
  refine s_callV hZ.1 (Met_X12_greatest hZ) (Nat.le_of_ble_eq_true rfl) vy_X12_greatest zcl12 zw2587 zw138 (Or.inl zw2585) dX12_lowerTrial_33 ?_
  refine s_iast hZ.1 (tt := 0) rfl dX12_lowerTrial_36 ?_
  refine s_iinc hZ.1 dX12_lowerTrial_37 (Nat.le_of_ble_eq_true rfl) ?_
  exact s_goto dX12_lowerTrial_40 (by decide) (hj 0 2 rfl)
noncomputable def vX12_lowerTrial_15 (j : Nat → rx_K) : rx_K := o_ld rx_isR 0 (o_getf 12 7 (o_ld rx_isI 1 (o_dup2 (o_ald 0 (o_const 8 (o_bi (fun x y => x - y) (o_ast 0 (fun v => v) rx_isI (o_ret0))))))))
set_option maxRecDepth 20000 in
theorem wX12_lowerTrial_15 (hZ : zO b e D A X) (j : Nat → rx_K) (hj : ∀ k pc, [2][k]? = some pc → rx_OK (zV b e D A X) mX12_lowerTrial 1 pc (j k)) : rx_OK (zV b e D A X) mX12_lowerTrial 1 15 (vX12_lowerTrial_15 j) := by
  unfold vX12_lowerTrial_15
  refine s_aload_n hZ.1 dX12_lowerTrial_15 rfl ?_
  refine yg12_7 dX12_lowerTrial_16 zw1610 ?_
  refine s_iload_n hZ.1 dX12_lowerTrial_19 rfl ?_
  refine s_dup2 hZ.1 dX12_lowerTrial_20 ?_
  refine s_iald (tt := 0) rfl dX12_lowerTrial_21 ?_
  refine s_iconst dX12_lowerTrial_22 (by decide +kernel) ?_
  refine s_isub dX12_lowerTrial_23 ?_
  refine s_iast hZ.1 (tt := 0) rfl dX12_lowerTrial_24 ?_
  exact s_vret rfl dX12_lowerTrial_25
noncomputable def vX12_lowerTrial_6 (j : Nat → rx_K) : rx_K := o_ld rx_isR 0 (o_getf 12 7 (o_ld rx_isI 1 (o_ald 0 (o_c1 (fun h x y => rx_lt h y x) (vX12_lowerTrial_15 j) (vX12_lowerTrial_26 j)))))
set_option maxRecDepth 20000 in
theorem wX12_lowerTrial_6 (hZ : zO b e D A X) (j : Nat → rx_K) (hj : ∀ k pc, [2][k]? = some pc → rx_OK (zV b e D A X) mX12_lowerTrial 1 pc (j k)) : rx_OK (zV b e D A X) mX12_lowerTrial 1 6 (vX12_lowerTrial_6 j) := by
  unfold vX12_lowerTrial_6
  refine s_aload_n hZ.1 dX12_lowerTrial_6 rfl ?_
  refine yg12_7 dX12_lowerTrial_7 zw1610 ?_
  refine s_iload_n hZ.1 dX12_lowerTrial_10 rfl ?_
  refine s_iald (tt := 0) rfl dX12_lowerTrial_11 ?_
  exact s_if_le dX12_lowerTrial_12 (by decide) (wX12_lowerTrial_26 hZ j hj) (wX12_lowerTrial_15 hZ j hj)
noncomputable def vX12_lowerTrial_2 (j : Nat → rx_K) : rx_K := o_ld rx_isI 1 (o_c1 rx_lt (vX12_lowerTrial_43 j) (vX12_lowerTrial_6 j))
set_option maxRecDepth 20000 in
theorem wX12_lowerTrial_2 (hZ : zO b e D A X) (j : Nat → rx_K) (hj : ∀ k pc, [2][k]? = some pc → rx_OK (zV b e D A X) mX12_lowerTrial 1 pc (j k)) : rx_OK (zV b e D A X) mX12_lowerTrial 1 2 (vX12_lowerTrial_2 j) := by
  unfold vX12_lowerTrial_2
  refine s_iload_n hZ.1 dX12_lowerTrial_2 rfl ?_
  exact s_if_lt dX12_lowerTrial_3 (by decide) (wX12_lowerTrial_43 hZ j hj) (wX12_lowerTrial_6 hZ j hj)
noncomputable def vX12_lowerTrial_0 (j : Nat → rx_K) : rx_K := o_const 32 (o_st rx_isI 1 ((vX12_lowerTrial_2 j)))
set_option maxRecDepth 20000 in
theorem wX12_lowerTrial_0 (hZ : zO b e D A X) (j : Nat → rx_K) (hj : ∀ k pc, [2][k]? = some pc → rx_OK (zV b e D A X) mX12_lowerTrial 1 pc (j k)) : rx_OK (zV b e D A X) mX12_lowerTrial 1 0 (vX12_lowerTrial_0 j) := by
  unfold vX12_lowerTrial_0
  refine s_iconst dX12_lowerTrial_0 (by decide +kernel) ?_
  refine s_istore_n hZ.1 dX12_lowerTrial_1 rfl (Nat.le_of_ble_eq_true rfl) ?_
  exact (wX12_lowerTrial_2 hZ j hj)
noncomputable def vhX12_lowerTrial (j : Nat → rx_K) : List rx_K := [vX12_lowerTrial_2 j]
theorem vlX12_lowerTrial (hZ : zO b e D A X) : ∀ n k pc, [2][k]? = some pc → rx_OK (zV b e D A X) mX12_lowerTrial 1 pc (rx_J (vhX12_lowerTrial) n k) := rx_loop fun j hj k pc h => by
  match k, h with
  | 0, h =>
    have e9 := Option.some.inj (show some 2 = some pc from h)
    subst e9
    exact wX12_lowerTrial_2 hZ j hj
  | _ + 1, h => exact absurd h (by simp)
noncomputable def FX12_lowerTrial : List Nat → rx_H → Option (Nat × rx_H) := rx_ent 2 (vX12_lowerTrial_0 (rx_J (vhX12_lowerTrial) 4000000000))
theorem Met_X12_lowerTrial (hZ : zO b e D A X) : rx_Met (zV b e D A X) 1 yX12_lowerTrial mX12_lowerTrial (FX12_lowerTrial) := rx_entry hZ.1 (wX12_lowerTrial_0 hZ _ (vlX12_lowerTrial hZ 4000000000)) (by decide +kernel) rfl (fun h => by cases h)
abbrev mX12_choose : rx_M := (RX12, cX12_choose, 3, (some .int), false)
theorem vy_X12_choose : rx_Y (zV b e D A X) yX12_choose mX12_choose 0 := ⟨zw2584, zw413, by decide, by decide +kernel, by decide +kernel, by decide +kernel⟩
noncomputable def vX12_choose_104 (j : Nat → rx_K) : rx_K := o_const 34359738352 (o_ret1 rx_isI)
set_option maxRecDepth 20000 in
theorem wX12_choose_104 (hZ : zO b e D A X) (j : Nat → rx_K) (hj : ∀ k pc, [4, 41][k]? = some pc → rx_OK (zV b e D A X) mX12_choose 7 pc (j k)) : rx_OK (zV b e D A X) mX12_choose 7 104 (vX12_choose_104 j) := by
  unfold vX12_choose_104
  refine s_bipush dX12_choose_104 (by decide +kernel) ?_
  exact s_iret hZ.1 rfl dX12_choose_106
noncomputable def vX12_choose_94 (j : Nat → rx_K) : rx_K := o_ld rx_isR 0 (o_callV 0 12 FX12_lowerTrial (o_inc 2 (1) ((j 1))))
set_option maxRecDepth 20000 in
theorem wX12_choose_94 (hZ : zO b e D A X) (j : Nat → rx_K) (hj : ∀ k pc, [4, 41][k]? = some pc → rx_OK (zV b e D A X) mX12_choose 7 pc (j k)) : rx_OK (zV b e D A X) mX12_choose 7 94 (vX12_choose_94 j) := by
  unfold vX12_choose_94
  refine s_aload_n hZ.1 dX12_choose_94 rfl ?_
  refine s_callV hZ.1 (Met_X12_lowerTrial hZ) (Nat.le_of_ble_eq_true rfl) vy_X12_lowerTrial zcl12 zw2592 zw139 (Or.inl zw2590) dX12_choose_95 ?_
  refine s_iinc hZ.1 dX12_choose_98 (Nat.le_of_ble_eq_true rfl) ?_
  exact s_goto dX12_choose_101 (by decide) (hj 1 41 rfl)
noncomputable def vX12_choose_74 (j : Nat → rx_K) : rx_K := o_ld rx_isR 0 (o_getf 12 7 (o_const 0 (o_ld rx_isR 0 (o_getf 12 6 (o_const 0 (o_const 40 (o_copy 0 rx_isI (o_ld rx_isR 0 (o_callV 0 12 FX12_renewWorld (o_ld rx_isI 2 (o_ret1 rx_isI)))))))))))
set_option maxRecDepth 20000 in
theorem wX12_choose_74 (hZ : zO b e D A X) (j : Nat → rx_K) (hj : ∀ k pc, [4, 41][k]? = some pc → rx_OK (zV b e D A X) mX12_choose 7 pc (j k)) : rx_OK (zV b e D A X) mX12_choose 7 74 (vX12_choose_74 j) := by
  unfold vX12_choose_74
  refine s_aload_n hZ.1 dX12_choose_74 rfl ?_
  refine yg12_7 dX12_choose_75 zw1610 ?_
  refine s_iconst dX12_choose_78 (by decide +kernel) ?_
  refine s_aload_n hZ.1 dX12_choose_79 rfl ?_
  refine yg12_6 dX12_choose_80 zw1609 ?_
  refine s_iconst dX12_choose_83 (by decide +kernel) ?_
  refine s_iconst dX12_choose_84 (by decide +kernel) ?_
  refine s_copy hZ.1 (tt := 0) (ty := .int) rfl rfl (fun c h => Or.inl (rx_isI_v hZ.1 h).2) rfl (by decide) zw1690 zw1692 zw1691 zw433 dX12_choose_85 ?_
  refine s_aload_n hZ.1 dX12_choose_88 rfl ?_
  refine s_callV hZ.1 (Met_X12_renewWorld hZ) (Nat.le_of_ble_eq_true rfl) vy_X12_renewWorld zcl12 zw2354 zw112 (Or.inl zw2352) dX12_choose_89 ?_
  refine s_iload_n hZ.1 dX12_choose_92 rfl ?_
  exact s_iret hZ.1 rfl dX12_choose_93
noncomputable def vX12_choose_46 (j : Nat → rx_K) : rx_K := o_ld rx_isR 0 (o_ld rx_isR 0 (o_getf 12 14 (o_ld rx_isR 0 (o_getf 12 7 (o_callV 2 12 FX12_gather (o_ld rx_isR 0 (o_ld rx_isR 0 (o_getf 12 14 (o_ld rx_isR 0 (o_getf 12 7 (o_const 0 (o_callV 3 12 FX12_countBroken (o_c1 rx_eq (vX12_choose_74 j) (vX12_choose_94 j))))))))))))))
set_option maxRecDepth 20000 in
theorem wX12_choose_46 (hZ : zO b e D A X) (j : Nat → rx_K) (hj : ∀ k pc, [4, 41][k]? = some pc → rx_OK (zV b e D A X) mX12_choose 7 pc (j k)) : rx_OK (zV b e D A X) mX12_choose 7 46 (vX12_choose_46 j) := by
  unfold vX12_choose_46
  refine s_aload_n hZ.1 dX12_choose_46 rfl ?_
  refine s_aload_n hZ.1 dX12_choose_47 rfl ?_
  refine yg12_14 dX12_choose_48 zw1617 ?_
  refine s_aload_n hZ.1 dX12_choose_51 rfl ?_
  refine yg12_7 dX12_choose_52 zw1610 ?_
  refine s_callV hZ.1 (Met_X12_gather hZ) (Nat.le_of_ble_eq_true rfl) vy_X12_gather zcl12 zw1551 zw0 (Or.inl zw1549) dX12_choose_55 ?_
  refine s_aload_n hZ.1 dX12_choose_58 rfl ?_
  refine s_aload_n hZ.1 dX12_choose_59 rfl ?_
  refine yg12_14 dX12_choose_60 zw1617 ?_
  refine s_aload_n hZ.1 dX12_choose_63 rfl ?_
  refine yg12_7 dX12_choose_64 zw1610 ?_
  refine s_iconst dX12_choose_67 (by decide +kernel) ?_
  refine s_callV hZ.1 (Met_X12_countBroken hZ) (Nat.le_of_ble_eq_true rfl) vy_X12_countBroken zcl12 zw2562 zw136 (Or.inl zw2560) dX12_choose_68 ?_
  exact s_if_ne dX12_choose_71 (by decide) (wX12_choose_94 hZ j hj) (wX12_choose_74 hZ j hj)
noncomputable def vX12_choose_41 (j : Nat → rx_K) : rx_K := o_ld rx_isI 2 (o_ld rx_isI 1 (o_c2 (fun h x y => rx_lt h y x) (vX12_choose_104 j) (vX12_choose_46 j)))
set_option maxRecDepth 20000 in
theorem wX12_choose_41 (hZ : zO b e D A X) (j : Nat → rx_K) (hj : ∀ k pc, [4, 41][k]? = some pc → rx_OK (zV b e D A X) mX12_choose 7 pc (j k)) : rx_OK (zV b e D A X) mX12_choose 7 41 (vX12_choose_41 j) := by
  unfold vX12_choose_41
  refine s_iload_n hZ.1 dX12_choose_41 rfl ?_
  refine s_iload_n hZ.1 dX12_choose_42 rfl ?_
  exact s_icmp_gt dX12_choose_43 (by decide) (wX12_choose_104 hZ j hj) (wX12_choose_46 hZ j hj)
noncomputable def vX12_choose_39 (j : Nat → rx_K) : rx_K := o_const 8 (o_st rx_isI 2 ((vX12_choose_41 j)))
set_option maxRecDepth 20000 in
theorem wX12_choose_39 (hZ : zO b e D A X) (j : Nat → rx_K) (hj : ∀ k pc, [4, 41][k]? = some pc → rx_OK (zV b e D A X) mX12_choose 7 pc (j k)) : rx_OK (zV b e D A X) mX12_choose 7 39 (vX12_choose_39 j) := by
  unfold vX12_choose_39
  refine s_iconst dX12_choose_39 (by decide +kernel) ?_
  refine s_istore_n hZ.1 dX12_choose_40 rfl (Nat.le_of_ble_eq_true rfl) ?_
  exact (wX12_choose_41 hZ j hj)
noncomputable def vX12_choose_9 (j : Nat → rx_K) : rx_K := o_ld rx_isR 0 (o_getf 12 7 (o_ld rx_isI 2 (o_ld rx_isR 0 (o_ld rx_isI 2 (o_callV 1 12 FX12_greatest (o_ast 0 (fun v => v) rx_isI (o_ld rx_isI 1 (o_ld rx_isR 0 (o_getf 12 5 (o_ld rx_isI 2 (o_ald 0 (o_const 8 (o_mm z_max (o_bi (fun x y => x * y) (o_st rx_isI 1 (o_inc 2 (1) ((j 0))))))))))))))))))
set_option maxRecDepth 20000 in
theorem wX12_choose_9 (hZ : zO b e D A X) (j : Nat → rx_K) (hj : ∀ k pc, [4, 41][k]? = some pc → rx_OK (zV b e D A X) mX12_choose 7 pc (j k)) : rx_OK (zV b e D A X) mX12_choose 7 9 (vX12_choose_9 j) := by
  unfold vX12_choose_9
  refine s_aload_n hZ.1 dX12_choose_9 rfl ?_
  refine yg12_7 dX12_choose_10 zw1610 ?_
  refine s_iload_n hZ.1 dX12_choose_13 rfl ?_
  refine s_aload_n hZ.1 dX12_choose_14 rfl ?_
  refine s_iload_n hZ.1 dX12_choose_15 rfl ?_
  refine s_callV hZ.1 (Met_X12_greatest hZ) (Nat.le_of_ble_eq_true rfl) vy_X12_greatest zcl12 zw2587 zw138 (Or.inl zw2585) dX12_choose_16 ?_
  refine s_iast hZ.1 (tt := 0) rfl dX12_choose_19 ?_
  refine s_iload_n hZ.1 dX12_choose_20 rfl ?_
  refine s_aload_n hZ.1 dX12_choose_21 rfl ?_
  refine yg12_5 dX12_choose_22 zw1608 ?_
  refine s_iload_n hZ.1 dX12_choose_25 rfl ?_
  refine s_iald (tt := 0) rfl dX12_choose_26 ?_
  refine s_iconst dX12_choose_27 (by decide +kernel) ?_
  refine s_mmax hZ.1 (Nat.le_of_ble_eq_true rfl) zw2589 zw2179 zw432 zmath_max dX12_choose_28 ?_
  refine s_imul dX12_choose_31 ?_
  refine s_istore_n hZ.1 dX12_choose_32 rfl (Nat.le_of_ble_eq_true rfl) ?_
  refine s_iinc hZ.1 dX12_choose_33 (Nat.le_of_ble_eq_true rfl) ?_
  exact s_goto dX12_choose_36 (by decide) (hj 0 4 rfl)
noncomputable def vX12_choose_4 (j : Nat → rx_K) : rx_K := o_ld rx_isI 2 (o_const 40 (o_c2 rx_lt (vX12_choose_9 j) (vX12_choose_39 j)))
set_option maxRecDepth 20000 in
theorem wX12_choose_4 (hZ : zO b e D A X) (j : Nat → rx_K) (hj : ∀ k pc, [4, 41][k]? = some pc → rx_OK (zV b e D A X) mX12_choose 7 pc (j k)) : rx_OK (zV b e D A X) mX12_choose 7 4 (vX12_choose_4 j) := by
  unfold vX12_choose_4
  refine s_iload_n hZ.1 dX12_choose_4 rfl ?_
  refine s_iconst dX12_choose_5 (by decide +kernel) ?_
  exact s_icmp_ge dX12_choose_6 (by decide) (wX12_choose_39 hZ j hj) (wX12_choose_9 hZ j hj)
noncomputable def vX12_choose_0 (j : Nat → rx_K) : rx_K := o_const 8 (o_st rx_isI 1 (o_const 0 (o_st rx_isI 2 ((vX12_choose_4 j)))))
set_option maxRecDepth 20000 in
theorem wX12_choose_0 (hZ : zO b e D A X) (j : Nat → rx_K) (hj : ∀ k pc, [4, 41][k]? = some pc → rx_OK (zV b e D A X) mX12_choose 7 pc (j k)) : rx_OK (zV b e D A X) mX12_choose 7 0 (vX12_choose_0 j) := by
  unfold vX12_choose_0
  refine s_iconst dX12_choose_0 (by decide +kernel) ?_
  refine s_istore_n hZ.1 dX12_choose_1 rfl (Nat.le_of_ble_eq_true rfl) ?_
  refine s_iconst dX12_choose_2 (by decide +kernel) ?_
  refine s_istore_n hZ.1 dX12_choose_3 rfl (Nat.le_of_ble_eq_true rfl) ?_
  exact (wX12_choose_4 hZ j hj)
noncomputable def vhX12_choose (j : Nat → rx_K) : List rx_K := [vX12_choose_4 j, vX12_choose_41 j]
theorem vlX12_choose (hZ : zO b e D A X) : ∀ n k pc, [4, 41][k]? = some pc → rx_OK (zV b e D A X) mX12_choose 7 pc (rx_J (vhX12_choose) n k) := rx_loop fun j hj k pc h => by
  match k, h with
  | 0, h =>
    have e9 := Option.some.inj (show some 4 = some pc from h)
    subst e9
    exact wX12_choose_4 hZ j hj
  | 1, h =>
    have e9 := Option.some.inj (show some 41 = some pc from h)
    subst e9
    exact wX12_choose_41 hZ j hj
  | _ + 2, h => exact absurd h (by simp)
noncomputable def FX12_choose : List Nat → rx_H → Option (Nat × rx_H) := rx_ent 3 (vX12_choose_0 (rx_J (vhX12_choose) 4000000000))
theorem Met_X12_choose (hZ : zO b e D A X) : rx_Met (zV b e D A X) 7 yX12_choose mX12_choose (FX12_choose) := rx_entry hZ.1 (wX12_choose_0 hZ _ (vlX12_choose hZ 4000000000)) (by decide +kernel) rfl (fun h => by cases h)
abbrev mX12_differ : rx_M := (RX12, cX12_differ, 6, (some .int), false)
theorem vy_X12_differ : rx_Y (zV b e D A X) yX12_differ mX12_differ 3 := ⟨zw2597, zw413, by decide, by decide +kernel, by decide +kernel, by decide +kernel⟩
noncomputable def vX12_differ_42 : rx_K := o_ret1 rx_isI
set_option maxRecDepth 20000 in
theorem wX12_differ_42 (hZ : zO b e D A X) : rx_OK (zV b e D A X) mX12_differ 6 42 vX12_differ_42 := by
  unfold vX12_differ_42
  exact s_iret hZ.1 rfl dX12_differ_42
noncomputable def vX12_differ_30 : rx_K := o_ld rx_isR 0 (o_getf 12 19 (o_ld rx_isR 4 (o_ld rx_isR 5 (o_const 8 (o_callV 3 2 FX2_compare (vX12_differ_42))))))
set_option maxRecDepth 20000 in
theorem wX12_differ_30 (hZ : zO b e D A X) : rx_OK (zV b e D A X) mX12_differ 6 30 vX12_differ_30 := by
  unfold vX12_differ_30
  refine s_aload_n hZ.1 dX12_differ_30 rfl ?_
  refine yg12_19 dX12_differ_31 zw1622 ?_
  refine s_aload hZ.1 dX12_differ_34 ?_
  refine s_aload hZ.1 dX12_differ_36 ?_
  refine s_iconst dX12_differ_38 (by decide +kernel) ?_
  refine s_callV hZ.1 (Met_X2_compare hZ) (Nat.le_of_ble_eq_true rfl) vy_X2_compare zcl2 zw2599 zw2600 (Or.inl zw2598) dX12_differ_39 ?_
  exact (wX12_differ_42 hZ)
noncomputable def vX12_differ_26 : rx_K := o_const 34359738360 (vX12_differ_42)
set_option maxRecDepth 20000 in
theorem wX12_differ_26 (hZ : zO b e D A X) : rx_OK (zV b e D A X) mX12_differ 6 26 vX12_differ_26 := by
  unfold vX12_differ_26
  refine s_iconst dX12_differ_26 (by decide +kernel) ?_
  exact s_goto dX12_differ_27 (by decide) (wX12_differ_42 hZ)
noncomputable def vX12_differ_21 : rx_K := o_ld rx_isR 5 (o_nul vX12_differ_26 vX12_differ_30)
set_option maxRecDepth 20000 in
theorem wX12_differ_21 (hZ : zO b e D A X) : rx_OK (zV b e D A X) mX12_differ 6 21 vX12_differ_21 := by
  unfold vX12_differ_21
  refine s_aload hZ.1 dX12_differ_21 ?_
  exact s_ifnonnull dX12_differ_23 (by decide) (wX12_differ_30 hZ) (wX12_differ_26 hZ)
noncomputable def vX12_differ_0 : rx_K := o_ld rx_isR 0 (o_ld rx_isI 1 (o_ld rx_isI 2 (o_callV 2 12 FX12_buildOf (o_st rx_isR 4 (o_ld rx_isR 0 (o_ld rx_isI 1 (o_ld rx_isI 3 (o_callV 2 12 FX12_buildOf (o_st rx_isR 5 (o_ld rx_isR 4 (o_nul vX12_differ_26 vX12_differ_21)))))))))))
set_option maxRecDepth 20000 in
theorem wX12_differ_0 (hZ : zO b e D A X) : rx_OK (zV b e D A X) mX12_differ 6 0 vX12_differ_0 := by
  unfold vX12_differ_0
  refine s_aload_n hZ.1 dX12_differ_0 rfl ?_
  refine s_iload_n hZ.1 dX12_differ_1 rfl ?_
  refine s_iload_n hZ.1 dX12_differ_2 rfl ?_
  refine s_callV hZ.1 (Met_X12_buildOf hZ) (Nat.le_of_ble_eq_true rfl) vy_X12_buildOf zcl12 zw1559 zw1 (Or.inl zw1557) dX12_differ_3 ?_
  refine s_astore hZ.1 dX12_differ_6 (Nat.le_of_ble_eq_true rfl) ?_
  refine s_aload_n hZ.1 dX12_differ_8 rfl ?_
  refine s_iload_n hZ.1 dX12_differ_9 rfl ?_
  refine s_iload_n hZ.1 dX12_differ_10 rfl ?_
  refine s_callV hZ.1 (Met_X12_buildOf hZ) (Nat.le_of_ble_eq_true rfl) vy_X12_buildOf zcl12 zw1559 zw1 (Or.inl zw1557) dX12_differ_11 ?_
  refine s_astore hZ.1 dX12_differ_14 (Nat.le_of_ble_eq_true rfl) ?_
  refine s_aload hZ.1 dX12_differ_16 ?_
  exact s_ifnull dX12_differ_18 (by decide) (wX12_differ_26 hZ) (wX12_differ_21 hZ)
noncomputable def FX12_differ : List Nat → rx_H → Option (Nat × rx_H) := rx_ent 6 vX12_differ_0
theorem Met_X12_differ (hZ : zO b e D A X) : rx_Met (zV b e D A X) 6 yX12_differ mX12_differ (FX12_differ) := rx_entry hZ.1 (wX12_differ_0 hZ) (by decide +kernel) rfl (fun h => by cases h)
abbrev mX12_change : rx_M := (RX12, cX12_change, 3, (some .int), false)
theorem vy_X12_change : rx_Y (zV b e D A X) yX12_change mX12_change 2 := ⟨zw2685, zw413, by decide, by decide +kernel, by decide +kernel, by decide +kernel⟩
noncomputable def vX12_change_41 : rx_K := o_ret1 rx_isI
set_option maxRecDepth 20000 in
theorem wX12_change_41 (hZ : zO b e D A X) : rx_OK (zV b e D A X) mX12_change 0 41 vX12_change_41 := by
  unfold vX12_change_41
  exact s_iret hZ.1 rfl dX12_change_41
noncomputable def vX12_change_28 : rx_K := o_ld rx_isR 0 (o_getf 12 19 (o_getf 2 3 (o_const 40 (o_ld rx_isI 1 (o_bi (fun x y => x * y) (o_ld rx_isI 2 (o_bi (fun x y => x + y) (o_ald 0 (vX12_change_41)))))))))
set_option maxRecDepth 20000 in
theorem wX12_change_28 (hZ : zO b e D A X) : rx_OK (zV b e D A X) mX12_change 0 28 vX12_change_28 := by
  unfold vX12_change_28
  refine s_aload_n hZ.1 dX12_change_28 rfl ?_
  refine yg12_19 dX12_change_29 zw1622 ?_
  refine yg2_3 dX12_change_32 zw1433 ?_
  refine s_iconst dX12_change_35 (by decide +kernel) ?_
  refine s_iload_n hZ.1 dX12_change_36 rfl ?_
  refine s_imul dX12_change_37 ?_
  refine s_iload_n hZ.1 dX12_change_38 rfl ?_
  refine s_iadd dX12_change_39 ?_
  refine s_iald (tt := 0) rfl dX12_change_40 ?_
  exact (wX12_change_41 hZ)
noncomputable def vX12_change_24 : rx_K := o_const 34359738360 (vX12_change_41)
set_option maxRecDepth 20000 in
theorem wX12_change_24 (hZ : zO b e D A X) : rx_OK (zV b e D A X) mX12_change 0 24 vX12_change_24 := by
  unfold vX12_change_24
  refine s_iconst dX12_change_24 (by decide +kernel) ?_
  exact s_goto dX12_change_25 (by decide) (wX12_change_41 hZ)
noncomputable def vX12_change_19 : rx_K := o_ld rx_isI 2 (o_const 40 (o_c2 rx_lt vX12_change_28 vX12_change_24))
set_option maxRecDepth 20000 in
theorem wX12_change_19 (hZ : zO b e D A X) : rx_OK (zV b e D A X) mX12_change 0 19 vX12_change_19 := by
  unfold vX12_change_19
  refine s_iload_n hZ.1 dX12_change_19 rfl ?_
  refine s_iconst dX12_change_20 (by decide +kernel) ?_
  exact s_icmp_lt dX12_change_21 (by decide) (wX12_change_28 hZ) (wX12_change_24 hZ)
noncomputable def vX12_change_15 : rx_K := o_ld rx_isI 2 (o_c1 rx_lt vX12_change_24 vX12_change_19)
set_option maxRecDepth 20000 in
theorem wX12_change_15 (hZ : zO b e D A X) : rx_OK (zV b e D A X) mX12_change 0 15 vX12_change_15 := by
  unfold vX12_change_15
  refine s_iload_n hZ.1 dX12_change_15 rfl ?_
  exact s_if_lt dX12_change_16 (by decide) (wX12_change_24 hZ) (wX12_change_19 hZ)
noncomputable def vX12_change_4 : rx_K := o_ld rx_isI 1 (o_ld rx_isR 0 (o_getf 12 19 (o_getf 2 4 (o_c2 rx_lt vX12_change_15 vX12_change_24))))
set_option maxRecDepth 20000 in
theorem wX12_change_4 (hZ : zO b e D A X) : rx_OK (zV b e D A X) mX12_change 0 4 vX12_change_4 := by
  unfold vX12_change_4
  refine s_iload_n hZ.1 dX12_change_4 rfl ?_
  refine s_aload_n hZ.1 dX12_change_5 rfl ?_
  refine yg12_19 dX12_change_6 zw1622 ?_
  refine yg2_4 dX12_change_9 zw1435 ?_
  exact s_icmp_ge dX12_change_12 (by decide) (wX12_change_24 hZ) (wX12_change_15 hZ)
noncomputable def vX12_change_0 : rx_K := o_ld rx_isI 1 (o_c1 rx_lt vX12_change_24 vX12_change_4)
set_option maxRecDepth 20000 in
theorem wX12_change_0 (hZ : zO b e D A X) : rx_OK (zV b e D A X) mX12_change 0 0 vX12_change_0 := by
  unfold vX12_change_0
  refine s_iload_n hZ.1 dX12_change_0 rfl ?_
  exact s_if_lt dX12_change_1 (by decide) (wX12_change_24 hZ) (wX12_change_4 hZ)
noncomputable def FX12_change : List Nat → rx_H → Option (Nat × rx_H) := rx_ent 3 vX12_change_0
theorem Met_X12_change (hZ : zO b e D A X) : rx_Met (zV b e D A X) 0 yX12_change mX12_change (FX12_change) := rx_entry hZ.1 (wX12_change_0 hZ) (by decide +kernel) rfl (fun h => by cases h)
abbrev mX12_word : rx_M := (RX12, cX12_word, 6, (some .int), false)
theorem vy_X12_word : rx_Y (zV b e D A X) yX12_word mX12_word 3 := ⟨zw2689, zw413, by decide, by decide +kernel, by decide +kernel, by decide +kernel⟩
noncomputable def vX12_word_28 : rx_K := o_ld rx_isR 0 (o_getf 12 19 (o_ld rx_isR 4 (o_ld rx_isR 5 (o_const 0 (o_callV 3 2 FX2_compare (o_pop (o_ld rx_isR 0 (o_getf 12 19 (o_getf 2 5 (o_ret1 rx_isI))))))))))
set_option maxRecDepth 20000 in
theorem wX12_word_28 (hZ : zO b e D A X) : rx_OK (zV b e D A X) mX12_word 6 28 vX12_word_28 := by
  unfold vX12_word_28
  refine s_aload_n hZ.1 dX12_word_28 rfl ?_
  refine yg12_19 dX12_word_29 zw1622 ?_
  refine s_aload hZ.1 dX12_word_32 ?_
  refine s_aload hZ.1 dX12_word_34 ?_
  refine s_iconst dX12_word_36 (by decide +kernel) ?_
  refine s_callV hZ.1 (Met_X2_compare hZ) (Nat.le_of_ble_eq_true rfl) vy_X2_compare zcl2 zw2599 zw2600 (Or.inl zw2598) dX12_word_37 ?_
  refine s_pop hZ.1 dX12_word_40 ?_
  refine s_aload_n hZ.1 dX12_word_41 rfl ?_
  refine yg12_19 dX12_word_42 zw1622 ?_
  refine yg2_5 dX12_word_45 zw1437 ?_
  exact s_iret hZ.1 rfl dX12_word_48
noncomputable def vX12_word_26 : rx_K := o_const 34359738360 (o_ret1 rx_isI)
set_option maxRecDepth 20000 in
theorem wX12_word_26 (hZ : zO b e D A X) : rx_OK (zV b e D A X) mX12_word 6 26 vX12_word_26 := by
  unfold vX12_word_26
  refine s_iconst dX12_word_26 (by decide +kernel) ?_
  exact s_iret hZ.1 rfl dX12_word_27
noncomputable def vX12_word_21 : rx_K := o_ld rx_isR 5 (o_nul vX12_word_26 vX12_word_28)
set_option maxRecDepth 20000 in
theorem wX12_word_21 (hZ : zO b e D A X) : rx_OK (zV b e D A X) mX12_word 6 21 vX12_word_21 := by
  unfold vX12_word_21
  refine s_aload hZ.1 dX12_word_21 ?_
  exact s_ifnonnull dX12_word_23 (by decide) (wX12_word_28 hZ) (wX12_word_26 hZ)
noncomputable def vX12_word_0 : rx_K := o_ld rx_isR 0 (o_ld rx_isI 1 (o_ld rx_isI 2 (o_callV 2 12 FX12_buildOf (o_st rx_isR 4 (o_ld rx_isR 0 (o_ld rx_isI 1 (o_ld rx_isI 3 (o_callV 2 12 FX12_buildOf (o_st rx_isR 5 (o_ld rx_isR 4 (o_nul vX12_word_26 vX12_word_21)))))))))))
set_option maxRecDepth 20000 in
theorem wX12_word_0 (hZ : zO b e D A X) : rx_OK (zV b e D A X) mX12_word 6 0 vX12_word_0 := by
  unfold vX12_word_0
  refine s_aload_n hZ.1 dX12_word_0 rfl ?_
  refine s_iload_n hZ.1 dX12_word_1 rfl ?_
  refine s_iload_n hZ.1 dX12_word_2 rfl ?_
  refine s_callV hZ.1 (Met_X12_buildOf hZ) (Nat.le_of_ble_eq_true rfl) vy_X12_buildOf zcl12 zw1559 zw1 (Or.inl zw1557) dX12_word_3 ?_
  refine s_astore hZ.1 dX12_word_6 (Nat.le_of_ble_eq_true rfl) ?_
  refine s_aload_n hZ.1 dX12_word_8 rfl ?_
  refine s_iload_n hZ.1 dX12_word_9 rfl ?_
  refine s_iload_n hZ.1 dX12_word_10 rfl ?_
  refine s_callV hZ.1 (Met_X12_buildOf hZ) (Nat.le_of_ble_eq_true rfl) vy_X12_buildOf zcl12 zw1559 zw1 (Or.inl zw1557) dX12_word_11 ?_
  refine s_astore hZ.1 dX12_word_14 (Nat.le_of_ble_eq_true rfl) ?_
  refine s_aload hZ.1 dX12_word_16 ?_
  exact s_ifnull dX12_word_18 (by decide) (wX12_word_26 hZ) (wX12_word_21 hZ)
noncomputable def FX12_word : List Nat → rx_H → Option (Nat × rx_H) := rx_ent 6 vX12_word_0
theorem Met_X12_word (hZ : zO b e D A X) : rx_Met (zV b e D A X) 6 yX12_word mX12_word (FX12_word) := rx_entry hZ.1 (wX12_word_0 hZ) (by decide +kernel) rfl (fun h => by cases h)
abbrev mX12_healing : rx_M := (RX12, cX12_healing, 4, (some (.object "LinkHouse$Member")), false)
theorem vy_X12_healing : rx_Y (zV b e D A X) yX12_healing mX12_healing 2 := ⟨zw2707, zw413, by decide, by decide +kernel, by decide +kernel, by decide +kernel⟩
noncomputable def vX12_healing_92 : rx_K := o_ret1 rx_isR
set_option maxRecDepth 20000 in
theorem wX12_healing_92 (hZ : zO b e D A X) : rx_OK (zV b e D A X) mX12_healing 2 92 vX12_healing_92 := by
  unfold vX12_healing_92
  exact s_aret hZ.1 rfl (Or.inl ⟨_, rfl⟩) dX12_healing_92
noncomputable def vX12_healing_91 : rx_K := o_const 3 (vX12_healing_92)
set_option maxRecDepth 20000 in
theorem wX12_healing_91 (hZ : zO b e D A X) : rx_OK (zV b e D A X) mX12_healing 2 91 vX12_healing_91 := by
  unfold vX12_healing_91
  refine s_null dX12_healing_91 ?_
  exact (wX12_healing_92 hZ)
noncomputable def vX12_healing_87 : rx_K := o_ld rx_isR 3 (vX12_healing_92)
set_option maxRecDepth 20000 in
theorem wX12_healing_87 (hZ : zO b e D A X) : rx_OK (zV b e D A X) mX12_healing 2 87 vX12_healing_87 := by
  unfold vX12_healing_87
  refine s_aload_n hZ.1 dX12_healing_87 rfl ?_
  exact s_goto dX12_healing_88 (by decide) (wX12_healing_92 hZ)
noncomputable def vX12_healing_69 : rx_K := o_ld rx_isR 0 (o_getf 12 14 (o_ld rx_isR 3 (o_getf 7 8 (o_ld rx_isR 2 (o_getf 7 8 (o_callV 2 11 FX11_fits (o_c1 rx_eq vX12_healing_91 vX12_healing_87)))))))
set_option maxRecDepth 20000 in
theorem wX12_healing_69 (hZ : zO b e D A X) : rx_OK (zV b e D A X) mX12_healing 2 69 vX12_healing_69 := by
  unfold vX12_healing_69
  refine s_aload_n hZ.1 dX12_healing_69 rfl ?_
  refine yg12_14 dX12_healing_70 zw1617 ?_
  refine s_aload_n hZ.1 dX12_healing_73 rfl ?_
  refine yg7_8 dX12_healing_74 zw1020 ?_
  refine s_aload_n hZ.1 dX12_healing_77 rfl ?_
  refine yg7_8 dX12_healing_78 zw1020 ?_
  refine s_callV hZ.1 (Met_X11_fits hZ) (Nat.le_of_ble_eq_true rfl) vy_X11_fits zcl11 zw1978 zw1979 (Or.inl zw2710) dX12_healing_81 ?_
  exact s_if_eq dX12_healing_84 (by decide) (wX12_healing_91 hZ) (wX12_healing_87 hZ)
noncomputable def vX12_healing_58 : rx_K := o_ld rx_isR 3 (o_getf 7 8 (o_const 147573952589676412905 (o_bc (fun x y => lg_cmp x y) (o_c1 rx_eq vX12_healing_91 vX12_healing_69))))
set_option maxRecDepth 20000 in
theorem wX12_healing_58 (hZ : zO b e D A X) : rx_OK (zV b e D A X) mX12_healing 2 58 vX12_healing_58 := by
  unfold vX12_healing_58
  refine s_aload_n hZ.1 dX12_healing_58 rfl ?_
  refine yg7_8 dX12_healing_59 zw1020 ?_
  refine s_ldc2 dX12_healing_62 zw2401 (by decide +kernel) ?_
  refine s_lcmp dX12_healing_65 ?_
  exact s_if_eq dX12_healing_66 (by decide) (wX12_healing_91 hZ) (wX12_healing_69 hZ)
noncomputable def vX12_healing_47 : rx_K := o_ld rx_isR 3 (o_getf 7 8 (o_const 147573952589676412921 (o_bc (fun x y => lg_cmp x y) (o_c1 rx_eq vX12_healing_91 vX12_healing_58))))
set_option maxRecDepth 20000 in
theorem wX12_healing_47 (hZ : zO b e D A X) : rx_OK (zV b e D A X) mX12_healing 2 47 vX12_healing_47 := by
  unfold vX12_healing_47
  refine s_aload_n hZ.1 dX12_healing_47 rfl ?_
  refine yg7_8 dX12_healing_48 zw1020 ?_
  refine s_ldc2 dX12_healing_51 zw2400 (by decide +kernel) ?_
  refine s_lcmp dX12_healing_54 ?_
  exact s_if_eq dX12_healing_55 (by decide) (wX12_healing_91 hZ) (wX12_healing_58 hZ)
noncomputable def vX12_healing_45 : rx_K := o_const 3 (o_ret1 rx_isR)
set_option maxRecDepth 20000 in
theorem wX12_healing_45 (hZ : zO b e D A X) : rx_OK (zV b e D A X) mX12_healing 2 45 vX12_healing_45 := by
  unfold vX12_healing_45
  refine s_null dX12_healing_45 ?_
  exact s_aret hZ.1 rfl (Or.inl ⟨_, rfl⟩) dX12_healing_46
noncomputable def vX12_healing_34 : rx_K := o_ld rx_isR 3 (o_getf 7 2 (o_ld rx_isR 2 (o_getf 7 2 (o_c2 rx_eq vX12_healing_47 vX12_healing_45))))
set_option maxRecDepth 20000 in
theorem wX12_healing_34 (hZ : zO b e D A X) : rx_OK (zV b e D A X) mX12_healing 2 34 vX12_healing_34 := by
  unfold vX12_healing_34
  refine s_aload_n hZ.1 dX12_healing_34 rfl ?_
  refine yg7_2 dX12_healing_35 zw971 ?_
  refine s_aload_n hZ.1 dX12_healing_38 rfl ?_
  refine yg7_2 dX12_healing_39 zw971 ?_
  exact s_icmp_eq dX12_healing_42 (by decide) (wX12_healing_47 hZ) (wX12_healing_45 hZ)
noncomputable def vX12_healing_27 : rx_K := o_ld rx_isR 3 (o_getf 7 1 (o_c1 rx_eq vX12_healing_45 vX12_healing_34))
set_option maxRecDepth 20000 in
theorem wX12_healing_27 (hZ : zO b e D A X) : rx_OK (zV b e D A X) mX12_healing 2 27 vX12_healing_27 := by
  unfold vX12_healing_27
  refine s_aload_n hZ.1 dX12_healing_27 rfl ?_
  refine yg7_1 dX12_healing_28 zw960 ?_
  exact s_if_eq dX12_healing_31 (by decide) (wX12_healing_45 hZ) (wX12_healing_34 hZ)
noncomputable def vX12_healing_20 : rx_K := o_ld rx_isR 3 (o_getf 7 4 (o_c1 rx_eq vX12_healing_27 vX12_healing_45))
set_option maxRecDepth 20000 in
theorem wX12_healing_20 (hZ : zO b e D A X) : rx_OK (zV b e D A X) mX12_healing 2 20 vX12_healing_20 := by
  unfold vX12_healing_20
  refine s_aload_n hZ.1 dX12_healing_20 rfl ?_
  refine yg7_4 dX12_healing_21 zw986 ?_
  exact s_if_ne dX12_healing_24 (by decide) (wX12_healing_45 hZ) (wX12_healing_27 hZ)
noncomputable def vX12_healing_10 : rx_K := o_ld rx_isR 1 (o_ld rx_isR 2 (o_callV 1 10 FX10_plain (o_st rx_isR 3 (o_ld rx_isR 3 (o_nul vX12_healing_45 vX12_healing_20)))))
set_option maxRecDepth 20000 in
theorem wX12_healing_10 (hZ : zO b e D A X) : rx_OK (zV b e D A X) mX12_healing 2 10 vX12_healing_10 := by
  unfold vX12_healing_10
  refine s_aload_n hZ.1 dX12_healing_10 rfl ?_
  refine s_aload_n hZ.1 dX12_healing_11 rfl ?_
  refine s_callV hZ.1 (Met_X10_plain hZ) (Nat.le_of_ble_eq_true rfl) vy_X10_plain zcl10 zw1965 zw1966 (Or.inl zw2709) dX12_healing_12 ?_
  refine s_astore_n hZ.1 dX12_healing_15 rfl (Nat.le_of_ble_eq_true rfl) ?_
  refine s_aload_n hZ.1 dX12_healing_16 rfl ?_
  exact s_ifnull dX12_healing_17 (by decide) (wX12_healing_45 hZ) (wX12_healing_20 hZ)
noncomputable def vX12_healing_8 : rx_K := o_const 3 (o_ret1 rx_isR)
set_option maxRecDepth 20000 in
theorem wX12_healing_8 (hZ : zO b e D A X) : rx_OK (zV b e D A X) mX12_healing 2 8 vX12_healing_8 := by
  unfold vX12_healing_8
  refine s_null dX12_healing_8 ?_
  exact s_aret hZ.1 rfl (Or.inl ⟨_, rfl⟩) dX12_healing_9
noncomputable def vX12_healing_0 : rx_K := o_ld rx_isR 1 (o_ld rx_isR 2 (o_callV 1 10 FX10_method (o_nul vX12_healing_10 vX12_healing_8)))
set_option maxRecDepth 20000 in
theorem wX12_healing_0 (hZ : zO b e D A X) : rx_OK (zV b e D A X) mX12_healing 2 0 vX12_healing_0 := by
  unfold vX12_healing_0
  refine s_aload_n hZ.1 dX12_healing_0 rfl ?_
  refine s_aload_n hZ.1 dX12_healing_1 rfl ?_
  refine s_callV hZ.1 (Met_X10_method hZ) (Nat.le_of_ble_eq_true rfl) vy_X10_method zcl10 zw2011 zw2012 (Or.inl zw2708) dX12_healing_2 ?_
  exact s_ifnull dX12_healing_5 (by decide) (wX12_healing_10 hZ) (wX12_healing_8 hZ)
noncomputable def FX12_healing : List Nat → rx_H → Option (Nat × rx_H) := rx_ent 4 vX12_healing_0
theorem Met_X12_healing (hZ : zO b e D A X) : rx_Met (zV b e D A X) 2 yX12_healing mX12_healing (FX12_healing) := rx_entry hZ.1 (wX12_healing_0 hZ) (by decide +kernel) rfl (fun h => by cases h)
end ZM33

section ZM10
variable {b : Nat} {e : Nat → Value} {D : va_G} {A : Nat → ClassId} {X : State → Prop}
abbrev mX3_got : rx_M := (RX3, cX3_got, 3, none, false)
theorem vy_X3_got : rx_Y (zV b e D A X) yX3_got mX3_got 1 := ⟨zw2260, zw422, by decide, by decide +kernel, by decide +kernel, by decide +kernel⟩
noncomputable def vX3_got_131 : rx_K := o_ret0
set_option maxRecDepth 20000 in
theorem wX3_got_131 (hZ : zO b e D A X) : rx_OK (zV b e D A X) mX3_got 2 131 vX3_got_131 := by
  unfold vX3_got_131
  exact s_vret rfl dX3_got_131
noncomputable def vX3_got_98 : rx_K := o_ld rx_isR 0 (o_getf 3 1 (o_const 24 (o_const 0 (o_callV 2 1 FX1_emit (o_pop (o_ld rx_isR 0 (o_getf 3 1 (o_const 240 (o_ld rx_isR 0 (o_const 24 (o_ld rx_isR 1 (o_getf 8 10 (o_ld rx_isR 2 (o_const 147573952589676412897 (o_callV 4 3 FX3_useOf (o_callV 2 1 FX1_emit (o_pop (vX3_got_131))))))))))))))))))
set_option maxRecDepth 20000 in
theorem wX3_got_98 (hZ : zO b e D A X) : rx_OK (zV b e D A X) mX3_got 2 98 vX3_got_98 := by
  unfold vX3_got_98
  refine s_aload_n hZ.1 dX3_got_98 rfl ?_
  refine yg3_1 dX3_got_99 zw722 ?_
  refine s_iconst dX3_got_102 (by decide +kernel) ?_
  refine s_iconst dX3_got_103 (by decide +kernel) ?_
  refine s_callV hZ.1 (Met_X1_emit hZ) (Nat.le_of_ble_eq_true rfl) vy_X1_emit zcl1 zw2254 zw2255 (Or.inl zw2253) dX3_got_104 ?_
  refine s_pop hZ.1 dX3_got_107 ?_
  refine s_aload_n hZ.1 dX3_got_108 rfl ?_
  refine yg3_1 dX3_got_109 zw722 ?_
  refine s_bipush dX3_got_112 (by decide +kernel) ?_
  refine s_aload_n hZ.1 dX3_got_114 rfl ?_
  refine s_iconst dX3_got_115 (by decide +kernel) ?_
  refine s_aload_n hZ.1 dX3_got_116 rfl ?_
  refine yg8_10 dX3_got_117 zw496 ?_
  refine s_aload_n hZ.1 dX3_got_120 rfl ?_
  refine s_ldc2 dX3_got_121 zw2228 (by decide +kernel) ?_
  refine s_callV hZ.1 (Met_X3_useOf hZ) (Nat.le_of_ble_eq_true rfl) vy_X3_useOf zcl3 zw2231 zw92 (Or.inl zw2229) dX3_got_124 ?_
  refine s_callV hZ.1 (Met_X1_emit hZ) (Nat.le_of_ble_eq_true rfl) vy_X1_emit zcl1 zw2254 zw2255 (Or.inl zw2253) dX3_got_127 ?_
  refine s_pop hZ.1 dX3_got_130 ?_
  exact (wX3_got_131 hZ)
noncomputable def vX3_got_72 : rx_K := o_ld rx_isR 0 (o_getf 3 1 (o_const 256 (o_ld rx_isR 0 (o_const 40 (o_ld rx_isR 1 (o_getf 8 10 (o_ld rx_isR 2 (o_const 147573952589676412897 (o_callV 4 3 FX3_useOf (o_callV 2 1 FX1_emit (o_pop (vX3_got_131))))))))))))
set_option maxRecDepth 20000 in
theorem wX3_got_72 (hZ : zO b e D A X) : rx_OK (zV b e D A X) mX3_got 2 72 vX3_got_72 := by
  unfold vX3_got_72
  refine s_aload_n hZ.1 dX3_got_72 rfl ?_
  refine yg3_1 dX3_got_73 zw722 ?_
  refine s_bipush dX3_got_76 (by decide +kernel) ?_
  refine s_aload_n hZ.1 dX3_got_78 rfl ?_
  refine s_iconst dX3_got_79 (by decide +kernel) ?_
  refine s_aload_n hZ.1 dX3_got_80 rfl ?_
  refine yg8_10 dX3_got_81 zw496 ?_
  refine s_aload_n hZ.1 dX3_got_84 rfl ?_
  refine s_ldc2 dX3_got_85 zw2228 (by decide +kernel) ?_
  refine s_callV hZ.1 (Met_X3_useOf hZ) (Nat.le_of_ble_eq_true rfl) vy_X3_useOf zcl3 zw2231 zw92 (Or.inl zw2229) dX3_got_88 ?_
  refine s_callV hZ.1 (Met_X1_emit hZ) (Nat.le_of_ble_eq_true rfl) vy_X1_emit zcl1 zw2254 zw2255 (Or.inl zw2253) dX3_got_91 ?_
  refine s_pop hZ.1 dX3_got_94 ?_
  exact s_goto dX3_got_95 (by decide) (wX3_got_131 hZ)
noncomputable def vX3_got_65 : rx_K := o_ld rx_isR 2 (o_getf 7 2 (o_c1 rx_eq vX3_got_98 vX3_got_72))
set_option maxRecDepth 20000 in
theorem wX3_got_65 (hZ : zO b e D A X) : rx_OK (zV b e D A X) mX3_got 2 65 vX3_got_65 := by
  unfold vX3_got_65
  refine s_aload_n hZ.1 dX3_got_65 rfl ?_
  refine yg7_2 dX3_got_66 zw962 ?_
  exact s_if_eq dX3_got_69 (by decide) (wX3_got_98 hZ) (wX3_got_72 hZ)
noncomputable def vX3_got_32 : rx_K := o_ld rx_isR 0 (o_const 128 (o_ld rx_isR 1 (o_getf 8 10 (o_ld rx_isR 2 (o_ld rx_isR 2 (o_getf 7 16 (o_il (fun x => x.toInt64) (o_callV 4 3 FX3_useOf (o_pop (o_ld rx_isR 0 (o_getf 3 1 (o_const 16 (o_ld rx_isR 2 (o_getf 7 16 (o_callV 2 1 FX1_emit (o_pop (vX3_got_131)))))))))))))))))
set_option maxRecDepth 20000 in
theorem wX3_got_32 (hZ : zO b e D A X) : rx_OK (zV b e D A X) mX3_got 2 32 vX3_got_32 := by
  unfold vX3_got_32
  refine s_aload_n hZ.1 dX3_got_32 rfl ?_
  refine s_bipush dX3_got_33 (by decide +kernel) ?_
  refine s_aload_n hZ.1 dX3_got_35 rfl ?_
  refine yg8_10 dX3_got_36 zw496 ?_
  refine s_aload_n hZ.1 dX3_got_39 rfl ?_
  refine s_aload_n hZ.1 dX3_got_40 rfl ?_
  refine yg7_16 dX3_got_41 zw1062 ?_
  refine s_i2l dX3_got_44 ?_
  refine s_callV hZ.1 (Met_X3_useOf hZ) (Nat.le_of_ble_eq_true rfl) vy_X3_useOf zcl3 zw2231 zw92 (Or.inl zw2229) dX3_got_45 ?_
  refine s_pop hZ.1 dX3_got_48 ?_
  refine s_aload_n hZ.1 dX3_got_49 rfl ?_
  refine yg3_1 dX3_got_50 zw722 ?_
  refine s_iconst dX3_got_53 (by decide +kernel) ?_
  refine s_aload_n hZ.1 dX3_got_54 rfl ?_
  refine yg7_16 dX3_got_55 zw1062 ?_
  refine s_callV hZ.1 (Met_X1_emit hZ) (Nat.le_of_ble_eq_true rfl) vy_X1_emit zcl1 zw2254 zw2255 (Or.inl zw2253) dX3_got_58 ?_
  refine s_pop hZ.1 dX3_got_61 ?_
  exact s_goto dX3_got_62 (by decide) (wX3_got_131 hZ)
noncomputable def vX3_got_25 : rx_K := o_ld rx_isR 2 (o_getf 7 15 (o_c1 rx_eq vX3_got_65 vX3_got_32))
set_option maxRecDepth 20000 in
theorem wX3_got_25 (hZ : zO b e D A X) : rx_OK (zV b e D A X) mX3_got 2 25 vX3_got_25 := by
  unfold vX3_got_25
  refine s_aload_n hZ.1 dX3_got_25 rfl ?_
  refine yg7_15 dX3_got_26 zw1053 ?_
  exact s_if_eq dX3_got_29 (by decide) (wX3_got_65 hZ) (wX3_got_32 hZ)
noncomputable def vX3_got_9 : rx_K := o_ld rx_isR 0 (o_getf 3 1 (o_const 24 (o_ld rx_isR 1 (o_getf 8 4 (o_callV 2 1 FX1_emit (o_pop (vX3_got_131)))))))
set_option maxRecDepth 20000 in
theorem wX3_got_9 (hZ : zO b e D A X) : rx_OK (zV b e D A X) mX3_got 2 9 vX3_got_9 := by
  unfold vX3_got_9
  refine s_aload_n hZ.1 dX3_got_9 rfl ?_
  refine yg3_1 dX3_got_10 zw722 ?_
  refine s_iconst dX3_got_13 (by decide +kernel) ?_
  refine s_aload_n hZ.1 dX3_got_14 rfl ?_
  refine yg8_4 dX3_got_15 zw472 ?_
  refine s_callV hZ.1 (Met_X1_emit hZ) (Nat.le_of_ble_eq_true rfl) vy_X1_emit zcl1 zw2254 zw2255 (Or.inl zw2253) dX3_got_18 ?_
  refine s_pop hZ.1 dX3_got_21 ?_
  exact s_goto dX3_got_22 (by decide) (wX3_got_131 hZ)
noncomputable def vX3_got_0 : rx_K := o_ld rx_isR 1 (o_getf 8 11 (o_st rx_isR 2 (o_ld rx_isR 2 (o_nul vX3_got_9 vX3_got_25))))
set_option maxRecDepth 20000 in
theorem wX3_got_0 (hZ : zO b e D A X) : rx_OK (zV b e D A X) mX3_got 2 0 vX3_got_0 := by
  unfold vX3_got_0
  refine s_aload_n hZ.1 dX3_got_0 rfl ?_
  refine yg8_11 dX3_got_1 zw499 ?_
  refine s_astore_n hZ.1 dX3_got_4 rfl (Nat.le_of_ble_eq_true rfl) ?_
  refine s_aload_n hZ.1 dX3_got_5 rfl ?_
  exact s_ifnonnull dX3_got_6 (by decide) (wX3_got_25 hZ) (wX3_got_9 hZ)
noncomputable def FX3_got : List Nat → rx_H → Option (Nat × rx_H) := rx_ent 3 vX3_got_0
theorem Met_X3_got (hZ : zO b e D A X) : rx_Met (zV b e D A X) 2 yX3_got mX3_got (FX3_got) := rx_entry hZ.1 (wX3_got_0 hZ) (by decide +kernel) rfl (fun h => by cases h)
abbrev mX3_args : rx_M := (RX3, cX3_args, 5, none, false)
theorem vy_X3_args : rx_Y (zV b e D A X) yX3_args mX3_args 2 := ⟨zw2264, zw422, by decide, by decide +kernel, by decide +kernel, by decide +kernel⟩
abbrev mX3_call : rx_M := (RX3, cX3_call, 4, none, false)
theorem vy_X3_call : rx_Y (zV b e D A X) yX3_call mX3_call 1 := ⟨zw2281, zw422, by decide, by decide +kernel, by decide +kernel, by decide +kernel⟩
abbrev mX3_chain : rx_M := (RX3, cX3_chain, 3, none, false)
theorem vy_X3_chain : rx_Y (zV b e D A X) yX3_chain mX3_chain 1 := ⟨zw2277, zw422, by decide, by decide +kernel, by decide +kernel, by decide +kernel⟩
abbrev mX3_expr : rx_M := (RX3, cX3_expr, 2, none, false)
theorem vy_X3_expr : rx_Y (zV b e D A X) yX3_expr mX3_expr 1 := ⟨zw2252, zw422, by decide, by decide +kernel, by decide +kernel, by decide +kernel⟩
abbrev mX3_unit : rx_M := (RX3, cX3_unit, 4, none, false)
theorem vy_X3_unit : rx_Y (zV b e D A X) yX3_unit mX3_unit 2 := ⟨zw2268, zw422, by decide, by decide +kernel, by decide +kernel, by decide +kernel⟩
abbrev vl4 : List (MethodName × rx_M) := [(yX3_args, mX3_args), (yX3_call, mX3_call), (yX3_chain, mX3_chain), (yX3_expr, mX3_expr), (yX3_unit, mX3_unit)]
noncomputable def vX3_args_60 (g : Nat → List Nat → rx_H → Option (Nat × rx_H)) (j : Nat → rx_K) : rx_K := o_ret0
set_option maxRecDepth 20000 in
theorem wX3_args_60 {dn : Nat} {g : Nat → List Nat → rx_H → Option (Nat × rx_H)} (hZ : zO b e D A X) (hg : ∀ i y M, vl4[i]? = some (y, M) → rx_Met (zV b e D A X) dn y M (g i)) (hd : 3 ≤ dn) (j : Nat → rx_K) (hj : ∀ k pc, [5][k]? = some pc → rx_OK (zV b e D A X) mX3_args (dn + 1) pc (j k)) : rx_OK (zV b e D A X) mX3_args (dn + 1) 60 (vX3_args_60 g j) := by
  unfold vX3_args_60
  exact s_vret rfl dX3_args_60
noncomputable def vX3_args_47 (g : Nat → List Nat → rx_H → Option (Nat × rx_H)) (j : Nat → rx_K) : rx_K := o_inc 3 (1) (o_ld rx_isR 4 (o_getf 8 8 (o_st rx_isR 4 ((j 0)))))
set_option maxRecDepth 20000 in
theorem wX3_args_47 {dn : Nat} {g : Nat → List Nat → rx_H → Option (Nat × rx_H)} (hZ : zO b e D A X) (hg : ∀ i y M, vl4[i]? = some (y, M) → rx_Met (zV b e D A X) dn y M (g i)) (hd : 3 ≤ dn) (j : Nat → rx_K) (hj : ∀ k pc, [5][k]? = some pc → rx_OK (zV b e D A X) mX3_args (dn + 1) pc (j k)) : rx_OK (zV b e D A X) mX3_args (dn + 1) 47 (vX3_args_47 g j) := by
  unfold vX3_args_47
  refine s_iinc hZ.1 dX3_args_47 (Nat.le_of_ble_eq_true rfl) ?_
  refine s_aload hZ.1 dX3_args_50 ?_
  refine yg8_8 dX3_args_52 zw488 ?_
  refine s_astore hZ.1 dX3_args_55 (Nat.le_of_ble_eq_true rfl) ?_
  exact s_goto dX3_args_57 (by decide) (hj 0 5 rfl)
noncomputable def vX3_args_28 (g : Nat → List Nat → rx_H → Option (Nat × rx_H)) (j : Nat → rx_K) : rx_K := o_ld rx_isR 0 (o_const 136 (o_ld rx_isR 4 (o_getf 8 9 (o_const 3 (o_ld rx_isR 2 (o_getf 7 10 (o_ld rx_isI 3 (o_ald 1 (o_callV 4 3 FX3_useOf (o_pop ((vX3_args_47 g j))))))))))))
set_option maxRecDepth 20000 in
theorem wX3_args_28 {dn : Nat} {g : Nat → List Nat → rx_H → Option (Nat × rx_H)} (hZ : zO b e D A X) (hg : ∀ i y M, vl4[i]? = some (y, M) → rx_Met (zV b e D A X) dn y M (g i)) (hd : 3 ≤ dn) (j : Nat → rx_K) (hj : ∀ k pc, [5][k]? = some pc → rx_OK (zV b e D A X) mX3_args (dn + 1) pc (j k)) : rx_OK (zV b e D A X) mX3_args (dn + 1) 28 (vX3_args_28 g j) := by
  unfold vX3_args_28
  refine s_aload_n hZ.1 dX3_args_28 rfl ?_
  refine s_bipush dX3_args_29 (by decide +kernel) ?_
  refine s_aload hZ.1 dX3_args_31 ?_
  refine yg8_9 dX3_args_33 zw491 ?_
  refine s_null dX3_args_36 ?_
  refine s_aload_n hZ.1 dX3_args_37 rfl ?_
  refine yg7_10 dX3_args_38 zw1033 ?_
  refine s_iload_n hZ.1 dX3_args_41 rfl ?_
  refine s_lald (tt := 1) rfl dX3_args_42 ?_
  refine s_callV hZ.1 (Met_X3_useOf hZ) (Nat.succ_le_succ (Nat.le_trans (Nat.le_of_ble_eq_true rfl) hd)) vy_X3_useOf zcl3 zw2231 zw92 (Or.inl zw2229) dX3_args_43 ?_
  refine s_pop hZ.1 dX3_args_46 ?_
  exact (wX3_args_47 hZ hg hd j hj)
noncomputable def vX3_args_20 (g : Nat → List Nat → rx_H → Option (Nat × rx_H)) (j : Nat → rx_K) : rx_K := o_ld rx_isI 3 (o_ld rx_isR 2 (o_getf 7 9 (o_c2 rx_lt (vX3_args_28 g j) (vX3_args_47 g j))))
set_option maxRecDepth 20000 in
theorem wX3_args_20 {dn : Nat} {g : Nat → List Nat → rx_H → Option (Nat × rx_H)} (hZ : zO b e D A X) (hg : ∀ i y M, vl4[i]? = some (y, M) → rx_Met (zV b e D A X) dn y M (g i)) (hd : 3 ≤ dn) (j : Nat → rx_K) (hj : ∀ k pc, [5][k]? = some pc → rx_OK (zV b e D A X) mX3_args (dn + 1) pc (j k)) : rx_OK (zV b e D A X) mX3_args (dn + 1) 20 (vX3_args_20 g j) := by
  unfold vX3_args_20
  refine s_iload_n hZ.1 dX3_args_20 rfl ?_
  refine s_aload_n hZ.1 dX3_args_21 rfl ?_
  refine yg7_9 dX3_args_22 zw1023 ?_
  exact s_icmp_ge dX3_args_25 (by decide) (wX3_args_47 hZ hg hd j hj) (wX3_args_28 hZ hg hd j hj)
noncomputable def vX3_args_10 (g : Nat → List Nat → rx_H → Option (Nat × rx_H)) (j : Nat → rx_K) : rx_K := o_ld rx_isR 0 (o_ld rx_isR 4 (o_callV 1 3 (g 3) (o_ld rx_isR 2 (o_nul (vX3_args_47 g j) (vX3_args_20 g j)))))
set_option maxRecDepth 20000 in
theorem wX3_args_10 {dn : Nat} {g : Nat → List Nat → rx_H → Option (Nat × rx_H)} (hZ : zO b e D A X) (hg : ∀ i y M, vl4[i]? = some (y, M) → rx_Met (zV b e D A X) dn y M (g i)) (hd : 3 ≤ dn) (j : Nat → rx_K) (hj : ∀ k pc, [5][k]? = some pc → rx_OK (zV b e D A X) mX3_args (dn + 1) pc (j k)) : rx_OK (zV b e D A X) mX3_args (dn + 1) 10 (vX3_args_10 g j) := by
  unfold vX3_args_10
  refine s_aload_n hZ.1 dX3_args_10 rfl ?_
  refine s_aload hZ.1 dX3_args_11 ?_
  refine s_callV hZ.1 (hg 3 _ _ rfl) (Nat.le_refl _) vy_X3_expr zcl3 zw2251 zw94 (Or.inl zw2249) dX3_args_13 ?_
  refine s_aload_n hZ.1 dX3_args_16 rfl ?_
  exact s_ifnull dX3_args_17 (by decide) (wX3_args_47 hZ hg hd j hj) (wX3_args_20 hZ hg hd j hj)
noncomputable def vX3_args_5 (g : Nat → List Nat → rx_H → Option (Nat × rx_H)) (j : Nat → rx_K) : rx_K := o_ld rx_isR 4 (o_nul (vX3_args_60 g j) (vX3_args_10 g j))
set_option maxRecDepth 20000 in
theorem wX3_args_5 {dn : Nat} {g : Nat → List Nat → rx_H → Option (Nat × rx_H)} (hZ : zO b e D A X) (hg : ∀ i y M, vl4[i]? = some (y, M) → rx_Met (zV b e D A X) dn y M (g i)) (hd : 3 ≤ dn) (j : Nat → rx_K) (hj : ∀ k pc, [5][k]? = some pc → rx_OK (zV b e D A X) mX3_args (dn + 1) pc (j k)) : rx_OK (zV b e D A X) mX3_args (dn + 1) 5 (vX3_args_5 g j) := by
  unfold vX3_args_5
  refine s_aload hZ.1 dX3_args_5 ?_
  exact s_ifnull dX3_args_7 (by decide) (wX3_args_60 hZ hg hd j hj) (wX3_args_10 hZ hg hd j hj)
noncomputable def vX3_args_0 (g : Nat → List Nat → rx_H → Option (Nat × rx_H)) (j : Nat → rx_K) : rx_K := o_const 0 (o_st rx_isI 3 (o_ld rx_isR 1 (o_st rx_isR 4 ((vX3_args_5 g j)))))
set_option maxRecDepth 20000 in
theorem wX3_args_0 {dn : Nat} {g : Nat → List Nat → rx_H → Option (Nat × rx_H)} (hZ : zO b e D A X) (hg : ∀ i y M, vl4[i]? = some (y, M) → rx_Met (zV b e D A X) dn y M (g i)) (hd : 3 ≤ dn) (j : Nat → rx_K) (hj : ∀ k pc, [5][k]? = some pc → rx_OK (zV b e D A X) mX3_args (dn + 1) pc (j k)) : rx_OK (zV b e D A X) mX3_args (dn + 1) 0 (vX3_args_0 g j) := by
  unfold vX3_args_0
  refine s_iconst dX3_args_0 (by decide +kernel) ?_
  refine s_istore_n hZ.1 dX3_args_1 rfl (Nat.le_of_ble_eq_true rfl) ?_
  refine s_aload_n hZ.1 dX3_args_2 rfl ?_
  refine s_astore hZ.1 dX3_args_3 (Nat.le_of_ble_eq_true rfl) ?_
  exact (wX3_args_5 hZ hg hd j hj)
noncomputable def vhX3_args (g : Nat → List Nat → rx_H → Option (Nat × rx_H)) (j : Nat → rx_K) : List rx_K := [vX3_args_5 g j]
theorem vlX3_args {dn : Nat} {g : Nat → List Nat → rx_H → Option (Nat × rx_H)} (hZ : zO b e D A X) (hg : ∀ i y M, vl4[i]? = some (y, M) → rx_Met (zV b e D A X) dn y M (g i)) (hd : 3 ≤ dn) : ∀ n k pc, [5][k]? = some pc → rx_OK (zV b e D A X) mX3_args (dn + 1) pc (rx_J (vhX3_args g) n k) := rx_loop fun j hj k pc h => by
  match k, h with
  | 0, h =>
    have e9 := Option.some.inj (show some 5 = some pc from h)
    subst e9
    exact wX3_args_5 hZ hg hd j hj
  | _ + 1, h => exact absurd h (by simp)
noncomputable def FX3_args (g : Nat → List Nat → rx_H → Option (Nat × rx_H)) : List Nat → rx_H → Option (Nat × rx_H) := rx_ent 5 (vX3_args_0 g (rx_J (vhX3_args g) 4000000000))
theorem Met_X3_args {dn : Nat} {g : Nat → List Nat → rx_H → Option (Nat × rx_H)} (hZ : zO b e D A X) (hg : ∀ i y M, vl4[i]? = some (y, M) → rx_Met (zV b e D A X) dn y M (g i)) (hd : 3 ≤ dn) : rx_Met (zV b e D A X) (dn + 1) yX3_args mX3_args (FX3_args g) := rx_entry hZ.1 (wX3_args_0 hZ hg hd _ (vlX3_args hZ hg hd 4000000000)) (by decide +kernel) rfl (fun h => by cases h)
noncomputable def vX3_call_73 (g : Nat → List Nat → rx_H → Option (Nat × rx_H)) : rx_K := o_st rx_isI 3 (o_ld rx_isR 0 (o_getf 3 1 (o_const 272 (o_ld rx_isR 0 (o_ld rx_isI 3 (o_ld rx_isR 1 (o_getf 8 10 (o_ld rx_isR 2 (o_const 147573952589676412897 (o_callV 4 3 FX3_useOf (o_callV 2 1 FX1_emit (o_pop (o_ret0)))))))))))))
set_option maxRecDepth 20000 in
theorem wX3_call_73 {dn : Nat} {g : Nat → List Nat → rx_H → Option (Nat × rx_H)} (hZ : zO b e D A X) (hg : ∀ i y M, vl4[i]? = some (y, M) → rx_Met (zV b e D A X) dn y M (g i)) (hd : 3 ≤ dn) : rx_OK (zV b e D A X) mX3_call (dn + 1) 73 (vX3_call_73 g) := by
  unfold vX3_call_73
  refine s_istore_n hZ.1 dX3_call_73 rfl (Nat.le_of_ble_eq_true rfl) ?_
  refine s_aload_n hZ.1 dX3_call_74 rfl ?_
  refine yg3_1 dX3_call_75 zw722 ?_
  refine s_bipush dX3_call_78 (by decide +kernel) ?_
  refine s_aload_n hZ.1 dX3_call_80 rfl ?_
  refine s_iload_n hZ.1 dX3_call_81 rfl ?_
  refine s_aload_n hZ.1 dX3_call_82 rfl ?_
  refine yg8_10 dX3_call_83 zw496 ?_
  refine s_aload_n hZ.1 dX3_call_86 rfl ?_
  refine s_ldc2 dX3_call_87 zw2228 (by decide +kernel) ?_
  refine s_callV hZ.1 (Met_X3_useOf hZ) (Nat.succ_le_succ (Nat.le_trans (Nat.le_of_ble_eq_true rfl) hd)) vy_X3_useOf zcl3 zw2231 zw92 (Or.inl zw2229) dX3_call_90 ?_
  refine s_callV hZ.1 (Met_X1_emit hZ) (Nat.succ_le_succ (Nat.le_trans (Nat.le_of_ble_eq_true rfl) hd)) vy_X1_emit zcl1 zw2254 zw2255 (Or.inl zw2253) dX3_call_93 ?_
  refine s_pop hZ.1 dX3_call_96 ?_
  exact s_vret rfl dX3_call_97
noncomputable def vX3_call_64 (g : Nat → List Nat → rx_H → Option (Nat × rx_H)) : rx_K := o_ld rx_isR 0 (o_ld rx_isR 1 (o_getf 8 10 (o_ld rx_isR 2 (o_callV 2 3 FX3_callSort ((vX3_call_73 g))))))
set_option maxRecDepth 20000 in
theorem wX3_call_64 {dn : Nat} {g : Nat → List Nat → rx_H → Option (Nat × rx_H)} (hZ : zO b e D A X) (hg : ∀ i y M, vl4[i]? = some (y, M) → rx_Met (zV b e D A X) dn y M (g i)) (hd : 3 ≤ dn) : rx_OK (zV b e D A X) mX3_call (dn + 1) 64 (vX3_call_64 g) := by
  unfold vX3_call_64
  refine s_aload_n hZ.1 dX3_call_64 rfl ?_
  refine s_aload_n hZ.1 dX3_call_65 rfl ?_
  refine yg8_10 dX3_call_66 zw496 ?_
  refine s_aload_n hZ.1 dX3_call_69 rfl ?_
  refine s_callV hZ.1 (Met_X3_callSort hZ) (Nat.succ_le_succ (Nat.le_trans (Nat.le_of_ble_eq_true rfl) hd)) vy_X3_callSort zcl3 zw2271 zw98 (Or.inl zw2269) dX3_call_70 ?_
  exact (wX3_call_73 hZ hg hd)
noncomputable def vX3_call_59 (g : Nat → List Nat → rx_H → Option (Nat × rx_H)) : rx_K := o_const 96 ((vX3_call_73 g))
set_option maxRecDepth 20000 in
theorem wX3_call_59 {dn : Nat} {g : Nat → List Nat → rx_H → Option (Nat × rx_H)} (hZ : zO b e D A X) (hg : ∀ i y M, vl4[i]? = some (y, M) → rx_Met (zV b e D A X) dn y M (g i)) (hd : 3 ≤ dn) : rx_OK (zV b e D A X) mX3_call (dn + 1) 59 (vX3_call_59 g) := by
  unfold vX3_call_59
  refine s_bipush dX3_call_59 (by decide +kernel) ?_
  exact s_goto dX3_call_61 (by decide) (wX3_call_73 hZ hg hd)
noncomputable def vX3_call_50 (g : Nat → List Nat → rx_H → Option (Nat × rx_H)) : rx_K := o_ld rx_isR 1 (o_getf 8 0 (o_const 64 (o_c2 rx_eq (vX3_call_59 g) (vX3_call_64 g))))
set_option maxRecDepth 20000 in
theorem wX3_call_50 {dn : Nat} {g : Nat → List Nat → rx_H → Option (Nat × rx_H)} (hZ : zO b e D A X) (hg : ∀ i y M, vl4[i]? = some (y, M) → rx_Met (zV b e D A X) dn y M (g i)) (hd : 3 ≤ dn) : rx_OK (zV b e D A X) mX3_call (dn + 1) 50 (vX3_call_50 g) := by
  unfold vX3_call_50
  refine s_aload_n hZ.1 dX3_call_50 rfl ?_
  refine yg8_0 dX3_call_51 zw459 ?_
  refine s_bipush dX3_call_54 (by decide +kernel) ?_
  exact s_icmp_ne dX3_call_56 (by decide) (wX3_call_64 hZ hg hd) (wX3_call_59 hZ hg hd)
noncomputable def vX3_call_45 (g : Nat → List Nat → rx_H → Option (Nat × rx_H)) : rx_K := o_const 88 ((vX3_call_73 g))
set_option maxRecDepth 20000 in
theorem wX3_call_45 {dn : Nat} {g : Nat → List Nat → rx_H → Option (Nat × rx_H)} (hZ : zO b e D A X) (hg : ∀ i y M, vl4[i]? = some (y, M) → rx_Met (zV b e D A X) dn y M (g i)) (hd : 3 ≤ dn) : rx_OK (zV b e D A X) mX3_call (dn + 1) 45 (vX3_call_45 g) := by
  unfold vX3_call_45
  refine s_bipush dX3_call_45 (by decide +kernel) ?_
  exact s_goto dX3_call_47 (by decide) (wX3_call_73 hZ hg hd)
noncomputable def vX3_call_27 (g : Nat → List Nat → rx_H → Option (Nat × rx_H)) : rx_K := o_ld rx_isR 0 (o_ld rx_isR 1 (o_getf 8 5 (o_ld rx_isR 2 (o_callV 2 3 (g 0) (o_ld rx_isR 1 (o_getf 8 0 (o_const 72 (o_c2 rx_eq (vX3_call_45 g) (vX3_call_50 g)))))))))
set_option maxRecDepth 20000 in
theorem wX3_call_27 {dn : Nat} {g : Nat → List Nat → rx_H → Option (Nat × rx_H)} (hZ : zO b e D A X) (hg : ∀ i y M, vl4[i]? = some (y, M) → rx_Met (zV b e D A X) dn y M (g i)) (hd : 3 ≤ dn) : rx_OK (zV b e D A X) mX3_call (dn + 1) 27 (vX3_call_27 g) := by
  unfold vX3_call_27
  refine s_aload_n hZ.1 dX3_call_27 rfl ?_
  refine s_aload_n hZ.1 dX3_call_28 rfl ?_
  refine yg8_5 dX3_call_29 zw476 ?_
  refine s_aload_n hZ.1 dX3_call_32 rfl ?_
  refine s_callV hZ.1 (hg 0 _ _ rfl) (Nat.le_refl _) vy_X3_args zcl3 zw2263 zw96 (Or.inl zw2261) dX3_call_33 ?_
  refine s_aload_n hZ.1 dX3_call_36 rfl ?_
  refine yg8_0 dX3_call_37 zw459 ?_
  refine s_bipush dX3_call_40 (by decide +kernel) ?_
  exact s_icmp_ne dX3_call_42 (by decide) (wX3_call_50 hZ hg hd) (wX3_call_45 hZ hg hd)
noncomputable def vX3_call_17 (g : Nat → List Nat → rx_H → Option (Nat × rx_H)) : rx_K := o_ld rx_isR 0 (o_getf 3 1 (o_const 24 (o_const 0 (o_callV 2 1 FX1_emit (o_pop ((vX3_call_27 g)))))))
set_option maxRecDepth 20000 in
theorem wX3_call_17 {dn : Nat} {g : Nat → List Nat → rx_H → Option (Nat × rx_H)} (hZ : zO b e D A X) (hg : ∀ i y M, vl4[i]? = some (y, M) → rx_Met (zV b e D A X) dn y M (g i)) (hd : 3 ≤ dn) : rx_OK (zV b e D A X) mX3_call (dn + 1) 17 (vX3_call_17 g) := by
  unfold vX3_call_17
  refine s_aload_n hZ.1 dX3_call_17 rfl ?_
  refine yg3_1 dX3_call_18 zw722 ?_
  refine s_iconst dX3_call_21 (by decide +kernel) ?_
  refine s_iconst dX3_call_22 (by decide +kernel) ?_
  refine s_callV hZ.1 (Met_X1_emit hZ) (Nat.succ_le_succ (Nat.le_trans (Nat.le_of_ble_eq_true rfl) hd)) vy_X1_emit zcl1 zw2254 zw2255 (Or.inl zw2253) dX3_call_23 ?_
  refine s_pop hZ.1 dX3_call_26 ?_
  exact (wX3_call_27 hZ hg hd)
noncomputable def vX3_call_10 (g : Nat → List Nat → rx_H → Option (Nat × rx_H)) : rx_K := o_ld rx_isR 2 (o_getf 7 2 (o_c1 rx_eq (vX3_call_17 g) (vX3_call_27 g)))
set_option maxRecDepth 20000 in
theorem wX3_call_10 {dn : Nat} {g : Nat → List Nat → rx_H → Option (Nat × rx_H)} (hZ : zO b e D A X) (hg : ∀ i y M, vl4[i]? = some (y, M) → rx_Met (zV b e D A X) dn y M (g i)) (hd : 3 ≤ dn) : rx_OK (zV b e D A X) mX3_call (dn + 1) 10 (vX3_call_10 g) := by
  unfold vX3_call_10
  refine s_aload_n hZ.1 dX3_call_10 rfl ?_
  refine yg7_2 dX3_call_11 zw962 ?_
  exact s_if_ne dX3_call_14 (by decide) (wX3_call_27 hZ hg hd) (wX3_call_17 hZ hg hd)
noncomputable def vX3_call_9 (g : Nat → List Nat → rx_H → Option (Nat × rx_H)) : rx_K := o_ret0
set_option maxRecDepth 20000 in
theorem wX3_call_9 {dn : Nat} {g : Nat → List Nat → rx_H → Option (Nat × rx_H)} (hZ : zO b e D A X) (hg : ∀ i y M, vl4[i]? = some (y, M) → rx_Met (zV b e D A X) dn y M (g i)) (hd : 3 ≤ dn) : rx_OK (zV b e D A X) mX3_call (dn + 1) 9 (vX3_call_9 g) := by
  unfold vX3_call_9
  exact s_vret rfl dX3_call_9
noncomputable def vX3_call_0 (g : Nat → List Nat → rx_H → Option (Nat × rx_H)) : rx_K := o_ld rx_isR 1 (o_getf 8 11 (o_st rx_isR 2 (o_ld rx_isR 2 (o_nul (vX3_call_9 g) (vX3_call_10 g)))))
set_option maxRecDepth 20000 in
theorem wX3_call_0 {dn : Nat} {g : Nat → List Nat → rx_H → Option (Nat × rx_H)} (hZ : zO b e D A X) (hg : ∀ i y M, vl4[i]? = some (y, M) → rx_Met (zV b e D A X) dn y M (g i)) (hd : 3 ≤ dn) : rx_OK (zV b e D A X) mX3_call (dn + 1) 0 (vX3_call_0 g) := by
  unfold vX3_call_0
  refine s_aload_n hZ.1 dX3_call_0 rfl ?_
  refine yg8_11 dX3_call_1 zw499 ?_
  refine s_astore_n hZ.1 dX3_call_4 rfl (Nat.le_of_ble_eq_true rfl) ?_
  refine s_aload_n hZ.1 dX3_call_5 rfl ?_
  exact s_ifnonnull dX3_call_6 (by decide) (wX3_call_10 hZ hg hd) (wX3_call_9 hZ hg hd)
noncomputable def FX3_call (g : Nat → List Nat → rx_H → Option (Nat × rx_H)) : List Nat → rx_H → Option (Nat × rx_H) := rx_ent 4 (vX3_call_0 g)
theorem Met_X3_call {dn : Nat} {g : Nat → List Nat → rx_H → Option (Nat × rx_H)} (hZ : zO b e D A X) (hg : ∀ i y M, vl4[i]? = some (y, M) → rx_Met (zV b e D A X) dn y M (g i)) (hd : 3 ≤ dn) : rx_Met (zV b e D A X) (dn + 1) yX3_call mX3_call (FX3_call g) := rx_entry hZ.1 (wX3_call_0 hZ hg hd) (by decide +kernel) rfl (fun h => by cases h)
noncomputable def vX3_chain_85 (g : Nat → List Nat → rx_H → Option (Nat × rx_H)) (j : Nat → rx_K) : rx_K := o_ret0
set_option maxRecDepth 20000 in
theorem wX3_chain_85 {dn : Nat} {g : Nat → List Nat → rx_H → Option (Nat × rx_H)} (hZ : zO b e D A X) (hg : ∀ i y M, vl4[i]? = some (y, M) → rx_Met (zV b e D A X) dn y M (g i)) (hd : 3 ≤ dn) (j : Nat → rx_K) (hj : ∀ k pc, [27][k]? = some pc → rx_OK (zV b e D A X) mX3_chain (dn + 1) pc (j k)) : rx_OK (zV b e D A X) mX3_chain (dn + 1) 85 (vX3_chain_85 g j) := by
  unfold vX3_chain_85
  exact s_vret rfl dX3_chain_85
noncomputable def vX3_chain_72 (g : Nat → List Nat → rx_H → Option (Nat × rx_H)) (j : Nat → rx_K) : rx_K := o_const 0 (o_callV 2 1 FX1_emit (o_pop (o_ld rx_isR 2 (o_getf 8 8 (o_st rx_isR 2 ((j 0)))))))
set_option maxRecDepth 20000 in
theorem wX3_chain_72 {dn : Nat} {g : Nat → List Nat → rx_H → Option (Nat × rx_H)} (hZ : zO b e D A X) (hg : ∀ i y M, vl4[i]? = some (y, M) → rx_Met (zV b e D A X) dn y M (g i)) (hd : 3 ≤ dn) (j : Nat → rx_K) (hj : ∀ k pc, [27][k]? = some pc → rx_OK (zV b e D A X) mX3_chain (dn + 1) pc (j k)) : rx_OK (zV b e D A X) mX3_chain (dn + 1) 72 (vX3_chain_72 g j) := by
  unfold vX3_chain_72
  refine s_iconst dX3_chain_72 (by decide +kernel) ?_
  refine s_callV hZ.1 (Met_X1_emit hZ) (Nat.succ_le_succ (Nat.le_trans (Nat.le_of_ble_eq_true rfl) hd)) vy_X1_emit zcl1 zw2254 zw2255 (Or.inl zw2253) dX3_chain_73 ?_
  refine s_pop hZ.1 dX3_chain_76 ?_
  refine s_aload_n hZ.1 dX3_chain_77 rfl ?_
  refine yg8_8 dX3_chain_78 zw488 ?_
  refine s_astore_n hZ.1 dX3_chain_81 rfl (Nat.le_of_ble_eq_true rfl) ?_
  exact s_goto dX3_chain_82 (by decide) (hj 0 27 rfl)
noncomputable def vX3_chain_70 (g : Nat → List Nat → rx_H → Option (Nat × rx_H)) (j : Nat → rx_K) : rx_K := o_const 72 ((vX3_chain_72 g j))
set_option maxRecDepth 20000 in
theorem wX3_chain_70 {dn : Nat} {g : Nat → List Nat → rx_H → Option (Nat × rx_H)} (hZ : zO b e D A X) (hg : ∀ i y M, vl4[i]? = some (y, M) → rx_Met (zV b e D A X) dn y M (g i)) (hd : 3 ≤ dn) (j : Nat → rx_K) (hj : ∀ k pc, [27][k]? = some pc → rx_OK (zV b e D A X) mX3_chain (dn + 1) pc (j k)) : rx_OK (zV b e D A X) mX3_chain (dn + 1) 70 (vX3_chain_70 g j) := by
  unfold vX3_chain_70
  refine s_bipush dX3_chain_70 (by decide +kernel) ?_
  exact (wX3_chain_72 hZ hg hd j hj)
noncomputable def vX3_chain_65 (g : Nat → List Nat → rx_H → Option (Nat × rx_H)) (j : Nat → rx_K) : rx_K := o_const 64 ((vX3_chain_72 g j))
set_option maxRecDepth 20000 in
theorem wX3_chain_65 {dn : Nat} {g : Nat → List Nat → rx_H → Option (Nat × rx_H)} (hZ : zO b e D A X) (hg : ∀ i y M, vl4[i]? = some (y, M) → rx_Met (zV b e D A X) dn y M (g i)) (hd : 3 ≤ dn) (j : Nat → rx_K) (hj : ∀ k pc, [27][k]? = some pc → rx_OK (zV b e D A X) mX3_chain (dn + 1) pc (j k)) : rx_OK (zV b e D A X) mX3_chain (dn + 1) 65 (vX3_chain_65 g j) := by
  unfold vX3_chain_65
  refine s_bipush dX3_chain_65 (by decide +kernel) ?_
  exact s_goto dX3_chain_67 (by decide) (wX3_chain_72 hZ hg hd j hj)
noncomputable def vX3_chain_55 (g : Nat → List Nat → rx_H → Option (Nat × rx_H)) (j : Nat → rx_K) : rx_K := o_ld rx_isR 2 (o_getf 8 3 (o_const 1160 (o_c2 rx_eq (vX3_chain_65 g j) (vX3_chain_70 g j))))
set_option maxRecDepth 20000 in
theorem wX3_chain_55 {dn : Nat} {g : Nat → List Nat → rx_H → Option (Nat × rx_H)} (hZ : zO b e D A X) (hg : ∀ i y M, vl4[i]? = some (y, M) → rx_Met (zV b e D A X) dn y M (g i)) (hd : 3 ≤ dn) (j : Nat → rx_K) (hj : ∀ k pc, [27][k]? = some pc → rx_OK (zV b e D A X) mX3_chain (dn + 1) pc (j k)) : rx_OK (zV b e D A X) mX3_chain (dn + 1) 55 (vX3_chain_55 g j) := by
  unfold vX3_chain_55
  refine s_aload_n hZ.1 dX3_chain_55 rfl ?_
  refine yg8_3 dX3_chain_56 zw469 ?_
  refine s_sipush dX3_chain_59 (by decide +kernel) ?_
  exact s_icmp_ne dX3_chain_62 (by decide) (wX3_chain_70 hZ hg hd j hj) (wX3_chain_65 hZ hg hd j hj)
noncomputable def vX3_chain_50 (g : Nat → List Nat → rx_H → Option (Nat × rx_H)) (j : Nat → rx_K) : rx_K := o_const 56 ((vX3_chain_72 g j))
set_option maxRecDepth 20000 in
theorem wX3_chain_50 {dn : Nat} {g : Nat → List Nat → rx_H → Option (Nat × rx_H)} (hZ : zO b e D A X) (hg : ∀ i y M, vl4[i]? = some (y, M) → rx_Met (zV b e D A X) dn y M (g i)) (hd : 3 ≤ dn) (j : Nat → rx_K) (hj : ∀ k pc, [27][k]? = some pc → rx_OK (zV b e D A X) mX3_chain (dn + 1) pc (j k)) : rx_OK (zV b e D A X) mX3_chain (dn + 1) 50 (vX3_chain_50 g j) := by
  unfold vX3_chain_50
  refine s_bipush dX3_chain_50 (by decide +kernel) ?_
  exact s_goto dX3_chain_52 (by decide) (wX3_chain_72 hZ hg hd j hj)
noncomputable def vX3_chain_31 (g : Nat → List Nat → rx_H → Option (Nat × rx_H)) (j : Nat → rx_K) : rx_K := o_ld rx_isR 0 (o_ld rx_isR 2 (o_callV 1 3 (g 3) (o_ld rx_isR 0 (o_getf 3 1 (o_ld rx_isR 2 (o_getf 8 3 (o_const 1144 (o_c2 rx_eq (vX3_chain_50 g j) (vX3_chain_55 g j)))))))))
set_option maxRecDepth 20000 in
theorem wX3_chain_31 {dn : Nat} {g : Nat → List Nat → rx_H → Option (Nat × rx_H)} (hZ : zO b e D A X) (hg : ∀ i y M, vl4[i]? = some (y, M) → rx_Met (zV b e D A X) dn y M (g i)) (hd : 3 ≤ dn) (j : Nat → rx_K) (hj : ∀ k pc, [27][k]? = some pc → rx_OK (zV b e D A X) mX3_chain (dn + 1) pc (j k)) : rx_OK (zV b e D A X) mX3_chain (dn + 1) 31 (vX3_chain_31 g j) := by
  unfold vX3_chain_31
  refine s_aload_n hZ.1 dX3_chain_31 rfl ?_
  refine s_aload_n hZ.1 dX3_chain_32 rfl ?_
  refine s_callV hZ.1 (hg 3 _ _ rfl) (Nat.le_refl _) vy_X3_expr zcl3 zw2251 zw94 (Or.inl zw2249) dX3_chain_33 ?_
  refine s_aload_n hZ.1 dX3_chain_36 rfl ?_
  refine yg3_1 dX3_chain_37 zw722 ?_
  refine s_aload_n hZ.1 dX3_chain_40 rfl ?_
  refine yg8_3 dX3_chain_41 zw469 ?_
  refine s_sipush dX3_chain_44 (by decide +kernel) ?_
  exact s_icmp_ne dX3_chain_47 (by decide) (wX3_chain_55 hZ hg hd j hj) (wX3_chain_50 hZ hg hd j hj)
noncomputable def vX3_chain_27 (g : Nat → List Nat → rx_H → Option (Nat × rx_H)) (j : Nat → rx_K) : rx_K := o_ld rx_isR 2 (o_nul (vX3_chain_85 g j) (vX3_chain_31 g j))
set_option maxRecDepth 20000 in
theorem wX3_chain_27 {dn : Nat} {g : Nat → List Nat → rx_H → Option (Nat × rx_H)} (hZ : zO b e D A X) (hg : ∀ i y M, vl4[i]? = some (y, M) → rx_Met (zV b e D A X) dn y M (g i)) (hd : 3 ≤ dn) (j : Nat → rx_K) (hj : ∀ k pc, [27][k]? = some pc → rx_OK (zV b e D A X) mX3_chain (dn + 1) pc (j k)) : rx_OK (zV b e D A X) mX3_chain (dn + 1) 27 (vX3_chain_27 g j) := by
  unfold vX3_chain_27
  refine s_aload_n hZ.1 dX3_chain_27 rfl ?_
  exact s_ifnull dX3_chain_28 (by decide) (wX3_chain_85 hZ hg hd j hj) (wX3_chain_31 hZ hg hd j hj)
noncomputable def vX3_chain_26 (g : Nat → List Nat → rx_H → Option (Nat × rx_H)) (j : Nat → rx_K) : rx_K := o_st rx_isR 2 ((vX3_chain_27 g j))
set_option maxRecDepth 20000 in
theorem wX3_chain_26 {dn : Nat} {g : Nat → List Nat → rx_H → Option (Nat × rx_H)} (hZ : zO b e D A X) (hg : ∀ i y M, vl4[i]? = some (y, M) → rx_Met (zV b e D A X) dn y M (g i)) (hd : 3 ≤ dn) (j : Nat → rx_K) (hj : ∀ k pc, [27][k]? = some pc → rx_OK (zV b e D A X) mX3_chain (dn + 1) pc (j k)) : rx_OK (zV b e D A X) mX3_chain (dn + 1) 26 (vX3_chain_26 g j) := by
  unfold vX3_chain_26
  refine s_astore_n hZ.1 dX3_chain_26 rfl (Nat.le_of_ble_eq_true rfl) ?_
  exact (wX3_chain_27 hZ hg hd j hj)
noncomputable def vX3_chain_19 (g : Nat → List Nat → rx_H → Option (Nat × rx_H)) (j : Nat → rx_K) : rx_K := o_ld rx_isR 1 (o_getf 8 5 (o_getf 8 8 ((vX3_chain_26 g j))))
set_option maxRecDepth 20000 in
theorem wX3_chain_19 {dn : Nat} {g : Nat → List Nat → rx_H → Option (Nat × rx_H)} (hZ : zO b e D A X) (hg : ∀ i y M, vl4[i]? = some (y, M) → rx_Met (zV b e D A X) dn y M (g i)) (hd : 3 ≤ dn) (j : Nat → rx_K) (hj : ∀ k pc, [27][k]? = some pc → rx_OK (zV b e D A X) mX3_chain (dn + 1) pc (j k)) : rx_OK (zV b e D A X) mX3_chain (dn + 1) 19 (vX3_chain_19 g j) := by
  unfold vX3_chain_19
  refine s_aload_n hZ.1 dX3_chain_19 rfl ?_
  refine yg8_5 dX3_chain_20 zw476 ?_
  refine yg8_8 dX3_chain_23 zw488 ?_
  exact (wX3_chain_26 hZ hg hd j hj)
noncomputable def vX3_chain_15 (g : Nat → List Nat → rx_H → Option (Nat × rx_H)) (j : Nat → rx_K) : rx_K := o_const 3 ((vX3_chain_26 g j))
set_option maxRecDepth 20000 in
theorem wX3_chain_15 {dn : Nat} {g : Nat → List Nat → rx_H → Option (Nat × rx_H)} (hZ : zO b e D A X) (hg : ∀ i y M, vl4[i]? = some (y, M) → rx_Met (zV b e D A X) dn y M (g i)) (hd : 3 ≤ dn) (j : Nat → rx_K) (hj : ∀ k pc, [27][k]? = some pc → rx_OK (zV b e D A X) mX3_chain (dn + 1) pc (j k)) : rx_OK (zV b e D A X) mX3_chain (dn + 1) 15 (vX3_chain_15 g j) := by
  unfold vX3_chain_15
  refine s_null dX3_chain_15 ?_
  exact s_goto dX3_chain_16 (by decide) (wX3_chain_26 hZ hg hd j hj)
noncomputable def vX3_chain_0 (g : Nat → List Nat → rx_H → Option (Nat × rx_H)) (j : Nat → rx_K) : rx_K := o_ld rx_isR 0 (o_ld rx_isR 1 (o_getf 8 5 (o_callV 1 3 (g 3) (o_ld rx_isR 1 (o_getf 8 5 (o_nul (vX3_chain_15 g j) (vX3_chain_19 g j)))))))
set_option maxRecDepth 20000 in
theorem wX3_chain_0 {dn : Nat} {g : Nat → List Nat → rx_H → Option (Nat × rx_H)} (hZ : zO b e D A X) (hg : ∀ i y M, vl4[i]? = some (y, M) → rx_Met (zV b e D A X) dn y M (g i)) (hd : 3 ≤ dn) (j : Nat → rx_K) (hj : ∀ k pc, [27][k]? = some pc → rx_OK (zV b e D A X) mX3_chain (dn + 1) pc (j k)) : rx_OK (zV b e D A X) mX3_chain (dn + 1) 0 (vX3_chain_0 g j) := by
  unfold vX3_chain_0
  refine s_aload_n hZ.1 dX3_chain_0 rfl ?_
  refine s_aload_n hZ.1 dX3_chain_1 rfl ?_
  refine yg8_5 dX3_chain_2 zw476 ?_
  refine s_callV hZ.1 (hg 3 _ _ rfl) (Nat.le_refl _) vy_X3_expr zcl3 zw2251 zw94 (Or.inl zw2249) dX3_chain_5 ?_
  refine s_aload_n hZ.1 dX3_chain_8 rfl ?_
  refine yg8_5 dX3_chain_9 zw476 ?_
  exact s_ifnonnull dX3_chain_12 (by decide) (wX3_chain_19 hZ hg hd j hj) (wX3_chain_15 hZ hg hd j hj)
noncomputable def vhX3_chain (g : Nat → List Nat → rx_H → Option (Nat × rx_H)) (j : Nat → rx_K) : List rx_K := [vX3_chain_27 g j]
theorem vlX3_chain {dn : Nat} {g : Nat → List Nat → rx_H → Option (Nat × rx_H)} (hZ : zO b e D A X) (hg : ∀ i y M, vl4[i]? = some (y, M) → rx_Met (zV b e D A X) dn y M (g i)) (hd : 3 ≤ dn) : ∀ n k pc, [27][k]? = some pc → rx_OK (zV b e D A X) mX3_chain (dn + 1) pc (rx_J (vhX3_chain g) n k) := rx_loop fun j hj k pc h => by
  match k, h with
  | 0, h =>
    have e9 := Option.some.inj (show some 27 = some pc from h)
    subst e9
    exact wX3_chain_27 hZ hg hd j hj
  | _ + 1, h => exact absurd h (by simp)
noncomputable def FX3_chain (g : Nat → List Nat → rx_H → Option (Nat × rx_H)) : List Nat → rx_H → Option (Nat × rx_H) := rx_ent 3 (vX3_chain_0 g (rx_J (vhX3_chain g) 4000000000))
theorem Met_X3_chain {dn : Nat} {g : Nat → List Nat → rx_H → Option (Nat × rx_H)} (hZ : zO b e D A X) (hg : ∀ i y M, vl4[i]? = some (y, M) → rx_Met (zV b e D A X) dn y M (g i)) (hd : 3 ≤ dn) : rx_Met (zV b e D A X) (dn + 1) yX3_chain mX3_chain (FX3_chain g) := rx_entry hZ.1 (wX3_chain_0 hZ hg hd _ (vlX3_chain hZ hg hd 4000000000)) (by decide +kernel) rfl (fun h => by cases h)
noncomputable def vX3_expr_335 (g : Nat → List Nat → rx_H → Option (Nat × rx_H)) : rx_K := o_ret0
set_option maxRecDepth 20000 in
theorem wX3_expr_335 {dn : Nat} {g : Nat → List Nat → rx_H → Option (Nat × rx_H)} (hZ : zO b e D A X) (hg : ∀ i y M, vl4[i]? = some (y, M) → rx_Met (zV b e D A X) dn y M (g i)) (hd : 3 ≤ dn) : rx_OK (zV b e D A X) mX3_expr (dn + 1) 335 (vX3_expr_335 g) := by
  unfold vX3_expr_335
  exact s_vret rfl dX3_expr_335
noncomputable def vX3_expr_330 (g : Nat → List Nat → rx_H → Option (Nat × rx_H)) : rx_K := o_ld rx_isR 0 (o_ld rx_isR 1 (o_callV 1 3 (g 1) ((vX3_expr_335 g))))
set_option maxRecDepth 20000 in
theorem wX3_expr_330 {dn : Nat} {g : Nat → List Nat → rx_H → Option (Nat × rx_H)} (hZ : zO b e D A X) (hg : ∀ i y M, vl4[i]? = some (y, M) → rx_Met (zV b e D A X) dn y M (g i)) (hd : 3 ≤ dn) : rx_OK (zV b e D A X) mX3_expr (dn + 1) 330 (vX3_expr_330 g) := by
  unfold vX3_expr_330
  refine s_aload_n hZ.1 dX3_expr_330 rfl ?_
  refine s_aload_n hZ.1 dX3_expr_331 rfl ?_
  refine s_callV hZ.1 (hg 1 _ _ rfl) (Nat.le_refl _) vy_X3_call zcl3 zw2280 zw100 (Or.inl zw2278) dX3_expr_332 ?_
  exact (wX3_expr_335 hZ hg hd)
noncomputable def vX3_expr_322 (g : Nat → List Nat → rx_H → Option (Nat × rx_H)) : rx_K := o_const 0 (o_callV 2 1 FX1_emit (o_pop ((vX3_expr_335 g))))
set_option maxRecDepth 20000 in
theorem wX3_expr_322 {dn : Nat} {g : Nat → List Nat → rx_H → Option (Nat × rx_H)} (hZ : zO b e D A X) (hg : ∀ i y M, vl4[i]? = some (y, M) → rx_Met (zV b e D A X) dn y M (g i)) (hd : 3 ≤ dn) : rx_OK (zV b e D A X) mX3_expr (dn + 1) 322 (vX3_expr_322 g) := by
  unfold vX3_expr_322
  refine s_iconst dX3_expr_322 (by decide +kernel) ?_
  refine s_callV hZ.1 (Met_X1_emit hZ) (Nat.succ_le_succ (Nat.le_trans (Nat.le_of_ble_eq_true rfl) hd)) vy_X1_emit zcl1 zw2254 zw2255 (Or.inl zw2253) dX3_expr_323 ?_
  refine s_pop hZ.1 dX3_expr_326 ?_
  exact s_goto dX3_expr_327 (by decide) (wX3_expr_335 hZ hg hd)
noncomputable def vX3_expr_320 (g : Nat → List Nat → rx_H → Option (Nat × rx_H)) : rx_K := o_const 88 ((vX3_expr_322 g))
set_option maxRecDepth 20000 in
theorem wX3_expr_320 {dn : Nat} {g : Nat → List Nat → rx_H → Option (Nat × rx_H)} (hZ : zO b e D A X) (hg : ∀ i y M, vl4[i]? = some (y, M) → rx_Met (zV b e D A X) dn y M (g i)) (hd : 3 ≤ dn) : rx_OK (zV b e D A X) mX3_expr (dn + 1) 320 (vX3_expr_320 g) := by
  unfold vX3_expr_320
  refine s_bipush dX3_expr_320 (by decide +kernel) ?_
  exact (wX3_expr_322 hZ hg hd)
noncomputable def vX3_expr_315 (g : Nat → List Nat → rx_H → Option (Nat × rx_H)) : rx_K := o_const 80 ((vX3_expr_322 g))
set_option maxRecDepth 20000 in
theorem wX3_expr_315 {dn : Nat} {g : Nat → List Nat → rx_H → Option (Nat × rx_H)} (hZ : zO b e D A X) (hg : ∀ i y M, vl4[i]? = some (y, M) → rx_Met (zV b e D A X) dn y M (g i)) (hd : 3 ≤ dn) : rx_OK (zV b e D A X) mX3_expr (dn + 1) 315 (vX3_expr_315 g) := by
  unfold vX3_expr_315
  refine s_bipush dX3_expr_315 (by decide +kernel) ?_
  exact s_goto dX3_expr_317 (by decide) (wX3_expr_322 hZ hg hd)
noncomputable def vX3_expr_285 (g : Nat → List Nat → rx_H → Option (Nat × rx_H)) : rx_K := o_ld rx_isR 0 (o_ld rx_isR 1 (o_getf 8 5 (o_callV 1 3 (g 3) (o_ld rx_isR 0 (o_ld rx_isR 1 (o_getf 8 6 (o_callV 1 3 (g 3) (o_ld rx_isR 0 (o_getf 3 1 (o_ld rx_isR 1 (o_getf 8 3 (o_const 1280 (o_c2 rx_eq (vX3_expr_315 g) (vX3_expr_320 g))))))))))))))
set_option maxRecDepth 20000 in
theorem wX3_expr_285 {dn : Nat} {g : Nat → List Nat → rx_H → Option (Nat × rx_H)} (hZ : zO b e D A X) (hg : ∀ i y M, vl4[i]? = some (y, M) → rx_Met (zV b e D A X) dn y M (g i)) (hd : 3 ≤ dn) : rx_OK (zV b e D A X) mX3_expr (dn + 1) 285 (vX3_expr_285 g) := by
  unfold vX3_expr_285
  refine s_aload_n hZ.1 dX3_expr_285 rfl ?_
  refine s_aload_n hZ.1 dX3_expr_286 rfl ?_
  refine yg8_5 dX3_expr_287 zw476 ?_
  refine s_callV hZ.1 (hg 3 _ _ rfl) (Nat.le_refl _) vy_X3_expr zcl3 zw2251 zw94 (Or.inl zw2249) dX3_expr_290 ?_
  refine s_aload_n hZ.1 dX3_expr_293 rfl ?_
  refine s_aload_n hZ.1 dX3_expr_294 rfl ?_
  refine yg8_6 dX3_expr_295 zw480 ?_
  refine s_callV hZ.1 (hg 3 _ _ rfl) (Nat.le_refl _) vy_X3_expr zcl3 zw2251 zw94 (Or.inl zw2249) dX3_expr_298 ?_
  refine s_aload_n hZ.1 dX3_expr_301 rfl ?_
  refine yg3_1 dX3_expr_302 zw722 ?_
  refine s_aload_n hZ.1 dX3_expr_305 rfl ?_
  refine yg8_3 dX3_expr_306 zw469 ?_
  refine s_sipush dX3_expr_309 (by decide +kernel) ?_
  exact s_icmp_ne dX3_expr_312 (by decide) (wX3_expr_320 hZ hg hd) (wX3_expr_315 hZ hg hd)
noncomputable def vX3_expr_277 (g : Nat → List Nat → rx_H → Option (Nat × rx_H)) : rx_K := o_ld rx_isR 0 (o_ld rx_isR 1 (o_callV 1 3 (g 2) ((vX3_expr_335 g))))
set_option maxRecDepth 20000 in
theorem wX3_expr_277 {dn : Nat} {g : Nat → List Nat → rx_H → Option (Nat × rx_H)} (hZ : zO b e D A X) (hg : ∀ i y M, vl4[i]? = some (y, M) → rx_Met (zV b e D A X) dn y M (g i)) (hd : 3 ≤ dn) : rx_OK (zV b e D A X) mX3_expr (dn + 1) 277 (vX3_expr_277 g) := by
  unfold vX3_expr_277
  refine s_aload_n hZ.1 dX3_expr_277 rfl ?_
  refine s_aload_n hZ.1 dX3_expr_278 rfl ?_
  refine s_callV hZ.1 (hg 2 _ _ rfl) (Nat.le_refl _) vy_X3_chain zcl3 zw2276 zw99 (Or.inl zw2274) dX3_expr_279 ?_
  exact s_goto dX3_expr_282 (by decide) (wX3_expr_335 hZ hg hd)
noncomputable def vX3_expr_268 (g : Nat → List Nat → rx_H → Option (Nat × rx_H)) : rx_K := o_ld rx_isR 0 (o_ld rx_isR 1 (o_const 3 (o_callV 2 3 (g 4) ((vX3_expr_335 g)))))
set_option maxRecDepth 20000 in
theorem wX3_expr_268 {dn : Nat} {g : Nat → List Nat → rx_H → Option (Nat × rx_H)} (hZ : zO b e D A X) (hg : ∀ i y M, vl4[i]? = some (y, M) → rx_Met (zV b e D A X) dn y M (g i)) (hd : 3 ≤ dn) : rx_OK (zV b e D A X) mX3_expr (dn + 1) 268 (vX3_expr_268 g) := by
  unfold vX3_expr_268
  refine s_aload_n hZ.1 dX3_expr_268 rfl ?_
  refine s_aload_n hZ.1 dX3_expr_269 rfl ?_
  refine s_null dX3_expr_270 ?_
  refine s_callV hZ.1 (hg 4 _ _ rfl) (Nat.le_refl _) vy_X3_unit zcl3 zw2267 zw97 (Or.inl zw2265) dX3_expr_271 ?_
  exact s_goto dX3_expr_274 (by decide) (wX3_expr_335 hZ hg hd)
noncomputable def vX3_expr_257 (g : Nat → List Nat → rx_H → Option (Nat × rx_H)) : rx_K := o_ld rx_isR 0 (o_ld rx_isR 1 (o_getf 8 5 (o_callV 1 3 (g 3) ((vX3_expr_335 g)))))
set_option maxRecDepth 20000 in
theorem wX3_expr_257 {dn : Nat} {g : Nat → List Nat → rx_H → Option (Nat × rx_H)} (hZ : zO b e D A X) (hg : ∀ i y M, vl4[i]? = some (y, M) → rx_Met (zV b e D A X) dn y M (g i)) (hd : 3 ≤ dn) : rx_OK (zV b e D A X) mX3_expr (dn + 1) 257 (vX3_expr_257 g) := by
  unfold vX3_expr_257
  refine s_aload_n hZ.1 dX3_expr_257 rfl ?_
  refine s_aload_n hZ.1 dX3_expr_258 rfl ?_
  refine yg8_5 dX3_expr_259 zw476 ?_
  refine s_callV hZ.1 (hg 3 _ _ rfl) (Nat.le_refl _) vy_X3_expr zcl3 zw2251 zw94 (Or.inl zw2249) dX3_expr_262 ?_
  exact s_goto dX3_expr_265 (by decide) (wX3_expr_335 hZ hg hd)
noncomputable def vX3_expr_222 (g : Nat → List Nat → rx_H → Option (Nat × rx_H)) : rx_K := o_ld rx_isR 0 (o_ld rx_isR 1 (o_getf 8 5 (o_callV 1 3 (g 3) (o_ld rx_isR 0 (o_getf 3 1 (o_const 296 (o_ld rx_isR 0 (o_const 104 (o_ld rx_isR 1 (o_getf 8 10 (o_const 3 (o_const 147573952589676412897 (o_callV 4 3 FX3_useOf (o_callV 2 1 FX1_emit (o_pop ((vX3_expr_335 g)))))))))))))))))
set_option maxRecDepth 20000 in
theorem wX3_expr_222 {dn : Nat} {g : Nat → List Nat → rx_H → Option (Nat × rx_H)} (hZ : zO b e D A X) (hg : ∀ i y M, vl4[i]? = some (y, M) → rx_Met (zV b e D A X) dn y M (g i)) (hd : 3 ≤ dn) : rx_OK (zV b e D A X) mX3_expr (dn + 1) 222 (vX3_expr_222 g) := by
  unfold vX3_expr_222
  refine s_aload_n hZ.1 dX3_expr_222 rfl ?_
  refine s_aload_n hZ.1 dX3_expr_223 rfl ?_
  refine yg8_5 dX3_expr_224 zw476 ?_
  refine s_callV hZ.1 (hg 3 _ _ rfl) (Nat.le_refl _) vy_X3_expr zcl3 zw2251 zw94 (Or.inl zw2249) dX3_expr_227 ?_
  refine s_aload_n hZ.1 dX3_expr_230 rfl ?_
  refine yg3_1 dX3_expr_231 zw722 ?_
  refine s_bipush dX3_expr_234 (by decide +kernel) ?_
  refine s_aload_n hZ.1 dX3_expr_236 rfl ?_
  refine s_bipush dX3_expr_237 (by decide +kernel) ?_
  refine s_aload_n hZ.1 dX3_expr_239 rfl ?_
  refine yg8_10 dX3_expr_240 zw496 ?_
  refine s_null dX3_expr_243 ?_
  refine s_ldc2 dX3_expr_244 zw2228 (by decide +kernel) ?_
  refine s_callV hZ.1 (Met_X3_useOf hZ) (Nat.succ_le_succ (Nat.le_trans (Nat.le_of_ble_eq_true rfl) hd)) vy_X3_useOf zcl3 zw2231 zw92 (Or.inl zw2229) dX3_expr_247 ?_
  refine s_callV hZ.1 (Met_X1_emit hZ) (Nat.succ_le_succ (Nat.le_trans (Nat.le_of_ble_eq_true rfl) hd)) vy_X1_emit zcl1 zw2254 zw2255 (Or.inl zw2253) dX3_expr_250 ?_
  refine s_pop hZ.1 dX3_expr_253 ?_
  exact s_goto dX3_expr_254 (by decide) (wX3_expr_335 hZ hg hd)
noncomputable def vX3_expr_193 (g : Nat → List Nat → rx_H → Option (Nat × rx_H)) : rx_K := o_ld rx_isR 0 (o_getf 3 1 (o_const 288 (o_ld rx_isR 0 (o_const 16 (o_ld rx_isR 1 (o_getf 8 10 (o_ld rx_isR 1 (o_getf 8 11 (o_const 147573952589676412897 (o_callV 4 3 FX3_useOf (o_callV 2 1 FX1_emit (o_pop ((vX3_expr_335 g))))))))))))))
set_option maxRecDepth 20000 in
theorem wX3_expr_193 {dn : Nat} {g : Nat → List Nat → rx_H → Option (Nat × rx_H)} (hZ : zO b e D A X) (hg : ∀ i y M, vl4[i]? = some (y, M) → rx_Met (zV b e D A X) dn y M (g i)) (hd : 3 ≤ dn) : rx_OK (zV b e D A X) mX3_expr (dn + 1) 193 (vX3_expr_193 g) := by
  unfold vX3_expr_193
  refine s_aload_n hZ.1 dX3_expr_193 rfl ?_
  refine yg3_1 dX3_expr_194 zw722 ?_
  refine s_bipush dX3_expr_197 (by decide +kernel) ?_
  refine s_aload_n hZ.1 dX3_expr_199 rfl ?_
  refine s_iconst dX3_expr_200 (by decide +kernel) ?_
  refine s_aload_n hZ.1 dX3_expr_201 rfl ?_
  refine yg8_10 dX3_expr_202 zw496 ?_
  refine s_aload_n hZ.1 dX3_expr_205 rfl ?_
  refine yg8_11 dX3_expr_206 zw499 ?_
  refine s_ldc2 dX3_expr_209 zw2228 (by decide +kernel) ?_
  refine s_callV hZ.1 (Met_X3_useOf hZ) (Nat.succ_le_succ (Nat.le_trans (Nat.le_of_ble_eq_true rfl) hd)) vy_X3_useOf zcl3 zw2231 zw92 (Or.inl zw2229) dX3_expr_212 ?_
  refine s_callV hZ.1 (Met_X1_emit hZ) (Nat.succ_le_succ (Nat.le_trans (Nat.le_of_ble_eq_true rfl) hd)) vy_X1_emit zcl1 zw2254 zw2255 (Or.inl zw2253) dX3_expr_215 ?_
  refine s_pop hZ.1 dX3_expr_218 ?_
  exact s_goto dX3_expr_219 (by decide) (wX3_expr_335 hZ hg hd)
noncomputable def vX3_expr_147 (g : Nat → List Nat → rx_H → Option (Nat × rx_H)) : rx_K := o_ld rx_isR 0 (o_getf 3 1 (o_const 280 (o_ld rx_isR 0 (o_const 8 (o_ld rx_isR 1 (o_getf 8 10 (o_const 3 (o_const 147573952589676412897 (o_callV 4 3 FX3_useOf (o_callV 2 1 FX1_emit (o_pop (o_ld rx_isR 0 (o_getf 3 1 (o_const 48 (o_const 0 (o_callV 2 1 FX1_emit (o_pop (o_ld rx_isR 0 (o_ld rx_isR 1 (o_getf 8 5 (o_ld rx_isR 1 (o_getf 8 11 (o_callV 2 3 (g 0) ((vX3_expr_193 g)))))))))))))))))))))))))
set_option maxRecDepth 20000 in
theorem wX3_expr_147 {dn : Nat} {g : Nat → List Nat → rx_H → Option (Nat × rx_H)} (hZ : zO b e D A X) (hg : ∀ i y M, vl4[i]? = some (y, M) → rx_Met (zV b e D A X) dn y M (g i)) (hd : 3 ≤ dn) : rx_OK (zV b e D A X) mX3_expr (dn + 1) 147 (vX3_expr_147 g) := by
  unfold vX3_expr_147
  refine s_aload_n hZ.1 dX3_expr_147 rfl ?_
  refine yg3_1 dX3_expr_148 zw722 ?_
  refine s_bipush dX3_expr_151 (by decide +kernel) ?_
  refine s_aload_n hZ.1 dX3_expr_153 rfl ?_
  refine s_iconst dX3_expr_154 (by decide +kernel) ?_
  refine s_aload_n hZ.1 dX3_expr_155 rfl ?_
  refine yg8_10 dX3_expr_156 zw496 ?_
  refine s_null dX3_expr_159 ?_
  refine s_ldc2 dX3_expr_160 zw2228 (by decide +kernel) ?_
  refine s_callV hZ.1 (Met_X3_useOf hZ) (Nat.succ_le_succ (Nat.le_trans (Nat.le_of_ble_eq_true rfl) hd)) vy_X3_useOf zcl3 zw2231 zw92 (Or.inl zw2229) dX3_expr_163 ?_
  refine s_callV hZ.1 (Met_X1_emit hZ) (Nat.succ_le_succ (Nat.le_trans (Nat.le_of_ble_eq_true rfl) hd)) vy_X1_emit zcl1 zw2254 zw2255 (Or.inl zw2253) dX3_expr_166 ?_
  refine s_pop hZ.1 dX3_expr_169 ?_
  refine s_aload_n hZ.1 dX3_expr_170 rfl ?_
  refine yg3_1 dX3_expr_171 zw722 ?_
  refine s_bipush dX3_expr_174 (by decide +kernel) ?_
  refine s_iconst dX3_expr_176 (by decide +kernel) ?_
  refine s_callV hZ.1 (Met_X1_emit hZ) (Nat.succ_le_succ (Nat.le_trans (Nat.le_of_ble_eq_true rfl) hd)) vy_X1_emit zcl1 zw2254 zw2255 (Or.inl zw2253) dX3_expr_177 ?_
  refine s_pop hZ.1 dX3_expr_180 ?_
  refine s_aload_n hZ.1 dX3_expr_181 rfl ?_
  refine s_aload_n hZ.1 dX3_expr_182 rfl ?_
  refine yg8_5 dX3_expr_183 zw476 ?_
  refine s_aload_n hZ.1 dX3_expr_186 rfl ?_
  refine yg8_11 dX3_expr_187 zw499 ?_
  refine s_callV hZ.1 (hg 0 _ _ rfl) (Nat.le_refl _) vy_X3_args zcl3 zw2263 zw96 (Or.inl zw2261) dX3_expr_190 ?_
  exact (wX3_expr_193 hZ hg hd)
noncomputable def vX3_expr_139 (g : Nat → List Nat → rx_H → Option (Nat × rx_H)) : rx_K := o_ld rx_isR 0 (o_ld rx_isR 1 (o_callV 1 3 FX3_got ((vX3_expr_335 g))))
set_option maxRecDepth 20000 in
theorem wX3_expr_139 {dn : Nat} {g : Nat → List Nat → rx_H → Option (Nat × rx_H)} (hZ : zO b e D A X) (hg : ∀ i y M, vl4[i]? = some (y, M) → rx_Met (zV b e D A X) dn y M (g i)) (hd : 3 ≤ dn) : rx_OK (zV b e D A X) mX3_expr (dn + 1) 139 (vX3_expr_139 g) := by
  unfold vX3_expr_139
  refine s_aload_n hZ.1 dX3_expr_139 rfl ?_
  refine s_aload_n hZ.1 dX3_expr_140 rfl ?_
  refine s_callV hZ.1 (Met_X3_got hZ) (Nat.succ_le_succ (Nat.le_trans (Nat.le_of_ble_eq_true rfl) hd)) vy_X3_got zcl3 zw2259 zw95 (Or.inl zw2257) dX3_expr_141 ?_
  exact s_goto dX3_expr_144 (by decide) (wX3_expr_335 hZ hg hd)
noncomputable def vX3_expr_126 (g : Nat → List Nat → rx_H → Option (Nat × rx_H)) : rx_K := o_ld rx_isR 0 (o_getf 3 1 (o_const 24 (o_const 0 (o_callV 2 1 FX1_emit (o_pop ((vX3_expr_335 g)))))))
set_option maxRecDepth 20000 in
theorem wX3_expr_126 {dn : Nat} {g : Nat → List Nat → rx_H → Option (Nat × rx_H)} (hZ : zO b e D A X) (hg : ∀ i y M, vl4[i]? = some (y, M) → rx_Met (zV b e D A X) dn y M (g i)) (hd : 3 ≤ dn) : rx_OK (zV b e D A X) mX3_expr (dn + 1) 126 (vX3_expr_126 g) := by
  unfold vX3_expr_126
  refine s_aload_n hZ.1 dX3_expr_126 rfl ?_
  refine yg3_1 dX3_expr_127 zw722 ?_
  refine s_iconst dX3_expr_130 (by decide +kernel) ?_
  refine s_iconst dX3_expr_131 (by decide +kernel) ?_
  refine s_callV hZ.1 (Met_X1_emit hZ) (Nat.succ_le_succ (Nat.le_trans (Nat.le_of_ble_eq_true rfl) hd)) vy_X1_emit zcl1 zw2254 zw2255 (Or.inl zw2253) dX3_expr_132 ?_
  refine s_pop hZ.1 dX3_expr_135 ?_
  exact s_goto dX3_expr_136 (by decide) (wX3_expr_335 hZ hg hd)
noncomputable def vX3_expr_113 (g : Nat → List Nat → rx_H → Option (Nat × rx_H)) : rx_K := o_ld rx_isR 0 (o_getf 3 1 (o_const 16 (o_const 0 (o_callV 2 1 FX1_emit (o_pop ((vX3_expr_335 g)))))))
set_option maxRecDepth 20000 in
theorem wX3_expr_113 {dn : Nat} {g : Nat → List Nat → rx_H → Option (Nat × rx_H)} (hZ : zO b e D A X) (hg : ∀ i y M, vl4[i]? = some (y, M) → rx_Met (zV b e D A X) dn y M (g i)) (hd : 3 ≤ dn) : rx_OK (zV b e D A X) mX3_expr (dn + 1) 113 (vX3_expr_113 g) := by
  unfold vX3_expr_113
  refine s_aload_n hZ.1 dX3_expr_113 rfl ?_
  refine yg3_1 dX3_expr_114 zw722 ?_
  refine s_iconst dX3_expr_117 (by decide +kernel) ?_
  refine s_iconst dX3_expr_118 (by decide +kernel) ?_
  refine s_callV hZ.1 (Met_X1_emit hZ) (Nat.succ_le_succ (Nat.le_trans (Nat.le_of_ble_eq_true rfl) hd)) vy_X1_emit zcl1 zw2254 zw2255 (Or.inl zw2253) dX3_expr_119 ?_
  refine s_pop hZ.1 dX3_expr_122 ?_
  exact s_goto dX3_expr_123 (by decide) (wX3_expr_335 hZ hg hd)
noncomputable def vX3_expr_96 (g : Nat → List Nat → rx_H → Option (Nat × rx_H)) : rx_K := o_ld rx_isR 0 (o_getf 3 1 (o_const 16 (o_ld rx_isR 1 (o_getf 8 10 (o_li (fun x => x.toInt32) (o_callV 2 1 FX1_emit (o_pop ((vX3_expr_335 g)))))))))
set_option maxRecDepth 20000 in
theorem wX3_expr_96 {dn : Nat} {g : Nat → List Nat → rx_H → Option (Nat × rx_H)} (hZ : zO b e D A X) (hg : ∀ i y M, vl4[i]? = some (y, M) → rx_Met (zV b e D A X) dn y M (g i)) (hd : 3 ≤ dn) : rx_OK (zV b e D A X) mX3_expr (dn + 1) 96 (vX3_expr_96 g) := by
  unfold vX3_expr_96
  refine s_aload_n hZ.1 dX3_expr_96 rfl ?_
  refine yg3_1 dX3_expr_97 zw722 ?_
  refine s_iconst dX3_expr_100 (by decide +kernel) ?_
  refine s_aload_n hZ.1 dX3_expr_101 rfl ?_
  refine yg8_10 dX3_expr_102 zw496 ?_
  refine s_l2i dX3_expr_105 ?_
  refine s_callV hZ.1 (Met_X1_emit hZ) (Nat.succ_le_succ (Nat.le_trans (Nat.le_of_ble_eq_true rfl) hd)) vy_X1_emit zcl1 zw2254 zw2255 (Or.inl zw2253) dX3_expr_106 ?_
  refine s_pop hZ.1 dX3_expr_109 ?_
  exact s_goto dX3_expr_110 (by decide) (wX3_expr_335 hZ hg hd)
noncomputable def vX3_expr_5 (g : Nat → List Nat → rx_H → Option (Nat × rx_H)) : rx_K := o_ld rx_isR 1 (o_getf 8 0 (o_sw 1 [96, 113, 126, 139, 330, 139, 330, 330, 330, 147, 222, 257, 268, 330, 330, 330, 277, 285] 330 (rx_pk [(96, (vX3_expr_96 g)), (113, (vX3_expr_113 g)), (126, (vX3_expr_126 g)), (139, (vX3_expr_139 g)), (147, (vX3_expr_147 g)), (222, (vX3_expr_222 g)), (257, (vX3_expr_257 g)), (268, (vX3_expr_268 g)), (277, (vX3_expr_277 g)), (285, (vX3_expr_285 g)), (330, (vX3_expr_330 g))])))
set_option maxRecDepth 20000 in
theorem wX3_expr_5 {dn : Nat} {g : Nat → List Nat → rx_H → Option (Nat × rx_H)} (hZ : zO b e D A X) (hg : ∀ i y M, vl4[i]? = some (y, M) → rx_Met (zV b e D A X) dn y M (g i)) (hd : 3 ≤ dn) : rx_OK (zV b e D A X) mX3_expr (dn + 1) 5 (vX3_expr_5 g) := by
  unfold vX3_expr_5
  refine s_aload_n hZ.1 dX3_expr_5 rfl ?_
  refine yg8_0 dX3_expr_6 zw459 ?_
  exact s_sw dX3_expr_9 (by decide) (by decide) (by decide) (by decide) (by decide) (fun b _ => (rx_pk_ok (List.forall_mem_cons.mpr ⟨(wX3_expr_96 hZ hg hd), List.forall_mem_cons.mpr ⟨(wX3_expr_113 hZ hg hd), List.forall_mem_cons.mpr ⟨(wX3_expr_126 hZ hg hd), List.forall_mem_cons.mpr ⟨(wX3_expr_139 hZ hg hd), List.forall_mem_cons.mpr ⟨(wX3_expr_147 hZ hg hd), List.forall_mem_cons.mpr ⟨(wX3_expr_222 hZ hg hd), List.forall_mem_cons.mpr ⟨(wX3_expr_257 hZ hg hd), List.forall_mem_cons.mpr ⟨(wX3_expr_268 hZ hg hd), List.forall_mem_cons.mpr ⟨(wX3_expr_277 hZ hg hd), List.forall_mem_cons.mpr ⟨(wX3_expr_285 hZ hg hd), List.forall_mem_cons.mpr ⟨(wX3_expr_330 hZ hg hd), fun _ h => absurd h List.not_mem_nil⟩⟩⟩⟩⟩⟩⟩⟩⟩⟩⟩)) b)
noncomputable def vX3_expr_4 (g : Nat → List Nat → rx_H → Option (Nat × rx_H)) : rx_K := o_ret0
set_option maxRecDepth 20000 in
theorem wX3_expr_4 {dn : Nat} {g : Nat → List Nat → rx_H → Option (Nat × rx_H)} (hZ : zO b e D A X) (hg : ∀ i y M, vl4[i]? = some (y, M) → rx_Met (zV b e D A X) dn y M (g i)) (hd : 3 ≤ dn) : rx_OK (zV b e D A X) mX3_expr (dn + 1) 4 (vX3_expr_4 g) := by
  unfold vX3_expr_4
  exact s_vret rfl dX3_expr_4
noncomputable def vX3_expr_0 (g : Nat → List Nat → rx_H → Option (Nat × rx_H)) : rx_K := o_ld rx_isR 1 (o_nul (vX3_expr_4 g) (vX3_expr_5 g))
set_option maxRecDepth 20000 in
theorem wX3_expr_0 {dn : Nat} {g : Nat → List Nat → rx_H → Option (Nat × rx_H)} (hZ : zO b e D A X) (hg : ∀ i y M, vl4[i]? = some (y, M) → rx_Met (zV b e D A X) dn y M (g i)) (hd : 3 ≤ dn) : rx_OK (zV b e D A X) mX3_expr (dn + 1) 0 (vX3_expr_0 g) := by
  unfold vX3_expr_0
  refine s_aload_n hZ.1 dX3_expr_0 rfl ?_
  exact s_ifnonnull dX3_expr_1 (by decide) (wX3_expr_5 hZ hg hd) (wX3_expr_4 hZ hg hd)
noncomputable def FX3_expr (g : Nat → List Nat → rx_H → Option (Nat × rx_H)) : List Nat → rx_H → Option (Nat × rx_H) := rx_ent 2 (vX3_expr_0 g)
theorem Met_X3_expr {dn : Nat} {g : Nat → List Nat → rx_H → Option (Nat × rx_H)} (hZ : zO b e D A X) (hg : ∀ i y M, vl4[i]? = some (y, M) → rx_Met (zV b e D A X) dn y M (g i)) (hd : 3 ≤ dn) : rx_Met (zV b e D A X) (dn + 1) yX3_expr mX3_expr (FX3_expr g) := rx_entry hZ.1 (wX3_expr_0 hZ hg hd) (by decide +kernel) rfl (fun h => by cases h)
noncomputable def vX3_unit_160 (g : Nat → List Nat → rx_H → Option (Nat × rx_H)) (j : Nat → rx_K) : rx_K := o_ret0
set_option maxRecDepth 20000 in
theorem wX3_unit_160 {dn : Nat} {g : Nat → List Nat → rx_H → Option (Nat × rx_H)} (hZ : zO b e D A X) (hg : ∀ i y M, vl4[i]? = some (y, M) → rx_Met (zV b e D A X) dn y M (g i)) (hd : 3 ≤ dn) (j : Nat → rx_K) (hj : ∀ k pc, [13][k]? = some pc → rx_OK (zV b e D A X) mX3_unit (dn + 1) pc (j k)) : rx_OK (zV b e D A X) mX3_unit (dn + 1) 160 (vX3_unit_160 g j) := by
  unfold vX3_unit_160
  exact s_vret rfl dX3_unit_160
noncomputable def vX3_unit_152 (g : Nat → List Nat → rx_H → Option (Nat × rx_H)) (j : Nat → rx_K) : rx_K := o_ld rx_isR 3 (o_getf 8 8 (o_st rx_isR 3 ((j 0))))
set_option maxRecDepth 20000 in
theorem wX3_unit_152 {dn : Nat} {g : Nat → List Nat → rx_H → Option (Nat × rx_H)} (hZ : zO b e D A X) (hg : ∀ i y M, vl4[i]? = some (y, M) → rx_Met (zV b e D A X) dn y M (g i)) (hd : 3 ≤ dn) (j : Nat → rx_K) (hj : ∀ k pc, [13][k]? = some pc → rx_OK (zV b e D A X) mX3_unit (dn + 1) pc (j k)) : rx_OK (zV b e D A X) mX3_unit (dn + 1) 152 (vX3_unit_152 g j) := by
  unfold vX3_unit_152
  refine s_aload_n hZ.1 dX3_unit_152 rfl ?_
  refine yg8_8 dX3_unit_153 zw488 ?_
  refine s_astore_n hZ.1 dX3_unit_156 rfl (Nat.le_of_ble_eq_true rfl) ?_
  exact s_goto dX3_unit_157 (by decide) (hj 0 13 rfl)
noncomputable def vX3_unit_103 (g : Nat → List Nat → rx_H → Option (Nat × rx_H)) (j : Nat → rx_K) : rx_K := o_ld rx_isR 0 (o_ld rx_isR 3 (o_getf 8 5 (o_ld rx_isR 3 (o_getf 8 11 (o_callV 2 3 (g 0) (o_ld rx_isR 0 (o_getf 3 1 (o_const 272 (o_ld rx_isR 0 (o_ld rx_isR 0 (o_ld rx_isR 3 (o_getf 8 10 (o_ld rx_isR 3 (o_getf 8 11 (o_callV 2 3 FX3_callSort (o_ld rx_isR 3 (o_getf 8 10 (o_ld rx_isR 3 (o_getf 8 11 (o_const 147573952589676412897 (o_callV 4 3 FX3_useOf (o_callV 2 1 FX1_emit (o_pop ((vX3_unit_152 g j)))))))))))))))))))))))))
set_option maxRecDepth 20000 in
theorem wX3_unit_103 {dn : Nat} {g : Nat → List Nat → rx_H → Option (Nat × rx_H)} (hZ : zO b e D A X) (hg : ∀ i y M, vl4[i]? = some (y, M) → rx_Met (zV b e D A X) dn y M (g i)) (hd : 3 ≤ dn) (j : Nat → rx_K) (hj : ∀ k pc, [13][k]? = some pc → rx_OK (zV b e D A X) mX3_unit (dn + 1) pc (j k)) : rx_OK (zV b e D A X) mX3_unit (dn + 1) 103 (vX3_unit_103 g j) := by
  unfold vX3_unit_103
  refine s_aload_n hZ.1 dX3_unit_103 rfl ?_
  refine s_aload_n hZ.1 dX3_unit_104 rfl ?_
  refine yg8_5 dX3_unit_105 zw476 ?_
  refine s_aload_n hZ.1 dX3_unit_108 rfl ?_
  refine yg8_11 dX3_unit_109 zw499 ?_
  refine s_callV hZ.1 (hg 0 _ _ rfl) (Nat.le_refl _) vy_X3_args zcl3 zw2263 zw96 (Or.inl zw2261) dX3_unit_112 ?_
  refine s_aload_n hZ.1 dX3_unit_115 rfl ?_
  refine yg3_1 dX3_unit_116 zw722 ?_
  refine s_bipush dX3_unit_119 (by decide +kernel) ?_
  refine s_aload_n hZ.1 dX3_unit_121 rfl ?_
  refine s_aload_n hZ.1 dX3_unit_122 rfl ?_
  refine s_aload_n hZ.1 dX3_unit_123 rfl ?_
  refine yg8_10 dX3_unit_124 zw496 ?_
  refine s_aload_n hZ.1 dX3_unit_127 rfl ?_
  refine yg8_11 dX3_unit_128 zw499 ?_
  refine s_callV hZ.1 (Met_X3_callSort hZ) (Nat.succ_le_succ (Nat.le_trans (Nat.le_of_ble_eq_true rfl) hd)) vy_X3_callSort zcl3 zw2271 zw98 (Or.inl zw2269) dX3_unit_131 ?_
  refine s_aload_n hZ.1 dX3_unit_134 rfl ?_
  refine yg8_10 dX3_unit_135 zw496 ?_
  refine s_aload_n hZ.1 dX3_unit_138 rfl ?_
  refine yg8_11 dX3_unit_139 zw499 ?_
  refine s_ldc2 dX3_unit_142 zw2228 (by decide +kernel) ?_
  refine s_callV hZ.1 (Met_X3_useOf hZ) (Nat.succ_le_succ (Nat.le_trans (Nat.le_of_ble_eq_true rfl) hd)) vy_X3_useOf zcl3 zw2231 zw92 (Or.inl zw2229) dX3_unit_145 ?_
  refine s_callV hZ.1 (Met_X1_emit hZ) (Nat.succ_le_succ (Nat.le_trans (Nat.le_of_ble_eq_true rfl) hd)) vy_X1_emit zcl1 zw2254 zw2255 (Or.inl zw2253) dX3_unit_148 ?_
  refine s_pop hZ.1 dX3_unit_151 ?_
  exact (wX3_unit_152 hZ hg hd j hj)
noncomputable def vX3_unit_96 (g : Nat → List Nat → rx_H → Option (Nat × rx_H)) (j : Nat → rx_K) : rx_K := o_ld rx_isR 3 (o_getf 8 11 (o_nul (vX3_unit_152 g j) (vX3_unit_103 g j)))
set_option maxRecDepth 20000 in
theorem wX3_unit_96 {dn : Nat} {g : Nat → List Nat → rx_H → Option (Nat × rx_H)} (hZ : zO b e D A X) (hg : ∀ i y M, vl4[i]? = some (y, M) → rx_Met (zV b e D A X) dn y M (g i)) (hd : 3 ≤ dn) (j : Nat → rx_K) (hj : ∀ k pc, [13][k]? = some pc → rx_OK (zV b e D A X) mX3_unit (dn + 1) pc (j k)) : rx_OK (zV b e D A X) mX3_unit (dn + 1) 96 (vX3_unit_96 g j) := by
  unfold vX3_unit_96
  refine s_aload_n hZ.1 dX3_unit_96 rfl ?_
  refine yg8_11 dX3_unit_97 zw499 ?_
  exact s_ifnull dX3_unit_100 (by decide) (wX3_unit_152 hZ hg hd j hj) (wX3_unit_103 hZ hg hd j hj)
noncomputable def vX3_unit_67 (g : Nat → List Nat → rx_H → Option (Nat × rx_H)) (j : Nat → rx_K) : rx_K := o_ld rx_isR 0 (o_getf 3 1 (o_const 240 (o_ld rx_isR 0 (o_const 24 (o_ld rx_isR 3 (o_getf 8 10 (o_ld rx_isR 3 (o_getf 8 11 (o_const 147573952589676412897 (o_callV 4 3 FX3_useOf (o_callV 2 1 FX1_emit (o_pop ((vX3_unit_152 g j))))))))))))))
set_option maxRecDepth 20000 in
theorem wX3_unit_67 {dn : Nat} {g : Nat → List Nat → rx_H → Option (Nat × rx_H)} (hZ : zO b e D A X) (hg : ∀ i y M, vl4[i]? = some (y, M) → rx_Met (zV b e D A X) dn y M (g i)) (hd : 3 ≤ dn) (j : Nat → rx_K) (hj : ∀ k pc, [13][k]? = some pc → rx_OK (zV b e D A X) mX3_unit (dn + 1) pc (j k)) : rx_OK (zV b e D A X) mX3_unit (dn + 1) 67 (vX3_unit_67 g j) := by
  unfold vX3_unit_67
  refine s_aload_n hZ.1 dX3_unit_67 rfl ?_
  refine yg3_1 dX3_unit_68 zw722 ?_
  refine s_bipush dX3_unit_71 (by decide +kernel) ?_
  refine s_aload_n hZ.1 dX3_unit_73 rfl ?_
  refine s_iconst dX3_unit_74 (by decide +kernel) ?_
  refine s_aload_n hZ.1 dX3_unit_75 rfl ?_
  refine yg8_10 dX3_unit_76 zw496 ?_
  refine s_aload_n hZ.1 dX3_unit_79 rfl ?_
  refine yg8_11 dX3_unit_80 zw499 ?_
  refine s_ldc2 dX3_unit_83 zw2228 (by decide +kernel) ?_
  refine s_callV hZ.1 (Met_X3_useOf hZ) (Nat.succ_le_succ (Nat.le_trans (Nat.le_of_ble_eq_true rfl) hd)) vy_X3_useOf zcl3 zw2231 zw92 (Or.inl zw2229) dX3_unit_86 ?_
  refine s_callV hZ.1 (Met_X1_emit hZ) (Nat.succ_le_succ (Nat.le_trans (Nat.le_of_ble_eq_true rfl) hd)) vy_X1_emit zcl1 zw2254 zw2255 (Or.inl zw2253) dX3_unit_89 ?_
  refine s_pop hZ.1 dX3_unit_92 ?_
  exact s_goto dX3_unit_93 (by decide) (wX3_unit_152 hZ hg hd j hj)
noncomputable def vX3_unit_58 (g : Nat → List Nat → rx_H → Option (Nat × rx_H)) (j : Nat → rx_K) : rx_K := o_ld rx_isR 3 (o_getf 8 0 (o_const 112 (o_c2 rx_eq (vX3_unit_67 g j) (vX3_unit_96 g j))))
set_option maxRecDepth 20000 in
theorem wX3_unit_58 {dn : Nat} {g : Nat → List Nat → rx_H → Option (Nat × rx_H)} (hZ : zO b e D A X) (hg : ∀ i y M, vl4[i]? = some (y, M) → rx_Met (zV b e D A X) dn y M (g i)) (hd : 3 ≤ dn) (j : Nat → rx_K) (hj : ∀ k pc, [13][k]? = some pc → rx_OK (zV b e D A X) mX3_unit (dn + 1) pc (j k)) : rx_OK (zV b e D A X) mX3_unit (dn + 1) 58 (vX3_unit_58 g j) := by
  unfold vX3_unit_58
  refine s_aload_n hZ.1 dX3_unit_58 rfl ?_
  refine yg8_0 dX3_unit_59 zw459 ?_
  refine s_bipush dX3_unit_62 (by decide +kernel) ?_
  exact s_icmp_ne dX3_unit_64 (by decide) (wX3_unit_96 hZ hg hd j hj) (wX3_unit_67 hZ hg hd j hj)
noncomputable def vX3_unit_31 (g : Nat → List Nat → rx_H → Option (Nat × rx_H)) (j : Nat → rx_K) : rx_K := o_ld rx_isR 0 (o_getf 3 1 (o_const 304 (o_ld rx_isR 0 (o_const 112 (o_ld rx_isR 3 (o_getf 8 10 (o_const 3 (o_const 147573952589676412897 (o_callV 4 3 FX3_useOf (o_callV 2 1 FX1_emit (o_pop ((vX3_unit_152 g j)))))))))))))
set_option maxRecDepth 20000 in
theorem wX3_unit_31 {dn : Nat} {g : Nat → List Nat → rx_H → Option (Nat × rx_H)} (hZ : zO b e D A X) (hg : ∀ i y M, vl4[i]? = some (y, M) → rx_Met (zV b e D A X) dn y M (g i)) (hd : 3 ≤ dn) (j : Nat → rx_K) (hj : ∀ k pc, [13][k]? = some pc → rx_OK (zV b e D A X) mX3_unit (dn + 1) pc (j k)) : rx_OK (zV b e D A X) mX3_unit (dn + 1) 31 (vX3_unit_31 g j) := by
  unfold vX3_unit_31
  refine s_aload_n hZ.1 dX3_unit_31 rfl ?_
  refine yg3_1 dX3_unit_32 zw722 ?_
  refine s_bipush dX3_unit_35 (by decide +kernel) ?_
  refine s_aload_n hZ.1 dX3_unit_37 rfl ?_
  refine s_bipush dX3_unit_38 (by decide +kernel) ?_
  refine s_aload_n hZ.1 dX3_unit_40 rfl ?_
  refine yg8_10 dX3_unit_41 zw496 ?_
  refine s_null dX3_unit_44 ?_
  refine s_ldc2 dX3_unit_45 zw2228 (by decide +kernel) ?_
  refine s_callV hZ.1 (Met_X3_useOf hZ) (Nat.succ_le_succ (Nat.le_trans (Nat.le_of_ble_eq_true rfl) hd)) vy_X3_useOf zcl3 zw2231 zw92 (Or.inl zw2229) dX3_unit_48 ?_
  refine s_callV hZ.1 (Met_X1_emit hZ) (Nat.succ_le_succ (Nat.le_trans (Nat.le_of_ble_eq_true rfl) hd)) vy_X1_emit zcl1 zw2254 zw2255 (Or.inl zw2253) dX3_unit_51 ?_
  refine s_pop hZ.1 dX3_unit_54 ?_
  exact s_goto dX3_unit_55 (by decide) (wX3_unit_152 hZ hg hd j hj)
noncomputable def vX3_unit_22 (g : Nat → List Nat → rx_H → Option (Nat × rx_H)) (j : Nat → rx_K) : rx_K := o_ld rx_isR 3 (o_getf 8 0 (o_const 128 (o_c2 rx_eq (vX3_unit_31 g j) (vX3_unit_58 g j))))
set_option maxRecDepth 20000 in
theorem wX3_unit_22 {dn : Nat} {g : Nat → List Nat → rx_H → Option (Nat × rx_H)} (hZ : zO b e D A X) (hg : ∀ i y M, vl4[i]? = some (y, M) → rx_Met (zV b e D A X) dn y M (g i)) (hd : 3 ≤ dn) (j : Nat → rx_K) (hj : ∀ k pc, [13][k]? = some pc → rx_OK (zV b e D A X) mX3_unit (dn + 1) pc (j k)) : rx_OK (zV b e D A X) mX3_unit (dn + 1) 22 (vX3_unit_22 g j) := by
  unfold vX3_unit_22
  refine s_aload_n hZ.1 dX3_unit_22 rfl ?_
  refine yg8_0 dX3_unit_23 zw459 ?_
  refine s_bipush dX3_unit_26 (by decide +kernel) ?_
  exact s_icmp_ne dX3_unit_28 (by decide) (wX3_unit_58 hZ hg hd j hj) (wX3_unit_31 hZ hg hd j hj)
noncomputable def vX3_unit_17 (g : Nat → List Nat → rx_H → Option (Nat × rx_H)) (j : Nat → rx_K) : rx_K := o_ld rx_isR 3 (o_ld rx_isR 2 (o_acmp (vX3_unit_160 g j) (vX3_unit_22 g j)))
set_option maxRecDepth 20000 in
theorem wX3_unit_17 {dn : Nat} {g : Nat → List Nat → rx_H → Option (Nat × rx_H)} (hZ : zO b e D A X) (hg : ∀ i y M, vl4[i]? = some (y, M) → rx_Met (zV b e D A X) dn y M (g i)) (hd : 3 ≤ dn) (j : Nat → rx_K) (hj : ∀ k pc, [13][k]? = some pc → rx_OK (zV b e D A X) mX3_unit (dn + 1) pc (j k)) : rx_OK (zV b e D A X) mX3_unit (dn + 1) 17 (vX3_unit_17 g j) := by
  unfold vX3_unit_17
  refine s_aload_n hZ.1 dX3_unit_17 rfl ?_
  refine s_aload_n hZ.1 dX3_unit_18 rfl ?_
  exact s_acmp_eq hZ.1 dX3_unit_19 (by decide) (wX3_unit_160 hZ hg hd j hj) (wX3_unit_22 hZ hg hd j hj)
noncomputable def vX3_unit_13 (g : Nat → List Nat → rx_H → Option (Nat × rx_H)) (j : Nat → rx_K) : rx_K := o_ld rx_isR 3 (o_nul (vX3_unit_160 g j) (vX3_unit_17 g j))
set_option maxRecDepth 20000 in
theorem wX3_unit_13 {dn : Nat} {g : Nat → List Nat → rx_H → Option (Nat × rx_H)} (hZ : zO b e D A X) (hg : ∀ i y M, vl4[i]? = some (y, M) → rx_Met (zV b e D A X) dn y M (g i)) (hd : 3 ≤ dn) (j : Nat → rx_K) (hj : ∀ k pc, [13][k]? = some pc → rx_OK (zV b e D A X) mX3_unit (dn + 1) pc (j k)) : rx_OK (zV b e D A X) mX3_unit (dn + 1) 13 (vX3_unit_13 g j) := by
  unfold vX3_unit_13
  refine s_aload_n hZ.1 dX3_unit_13 rfl ?_
  exact s_ifnull dX3_unit_14 (by decide) (wX3_unit_160 hZ hg hd j hj) (wX3_unit_17 hZ hg hd j hj)
noncomputable def vX3_unit_0 (g : Nat → List Nat → rx_H → Option (Nat × rx_H)) (j : Nat → rx_K) : rx_K := o_ld rx_isR 0 (o_ld rx_isR 1 (o_getf 8 5 (o_callV 1 3 (g 3) (o_ld rx_isR 1 (o_getf 8 6 (o_st rx_isR 3 ((vX3_unit_13 g j))))))))
set_option maxRecDepth 20000 in
theorem wX3_unit_0 {dn : Nat} {g : Nat → List Nat → rx_H → Option (Nat × rx_H)} (hZ : zO b e D A X) (hg : ∀ i y M, vl4[i]? = some (y, M) → rx_Met (zV b e D A X) dn y M (g i)) (hd : 3 ≤ dn) (j : Nat → rx_K) (hj : ∀ k pc, [13][k]? = some pc → rx_OK (zV b e D A X) mX3_unit (dn + 1) pc (j k)) : rx_OK (zV b e D A X) mX3_unit (dn + 1) 0 (vX3_unit_0 g j) := by
  unfold vX3_unit_0
  refine s_aload_n hZ.1 dX3_unit_0 rfl ?_
  refine s_aload_n hZ.1 dX3_unit_1 rfl ?_
  refine yg8_5 dX3_unit_2 zw476 ?_
  refine s_callV hZ.1 (hg 3 _ _ rfl) (Nat.le_refl _) vy_X3_expr zcl3 zw2251 zw94 (Or.inl zw2249) dX3_unit_5 ?_
  refine s_aload_n hZ.1 dX3_unit_8 rfl ?_
  refine yg8_6 dX3_unit_9 zw480 ?_
  refine s_astore_n hZ.1 dX3_unit_12 rfl (Nat.le_of_ble_eq_true rfl) ?_
  exact (wX3_unit_13 hZ hg hd j hj)
noncomputable def vhX3_unit (g : Nat → List Nat → rx_H → Option (Nat × rx_H)) (j : Nat → rx_K) : List rx_K := [vX3_unit_13 g j]
theorem vlX3_unit {dn : Nat} {g : Nat → List Nat → rx_H → Option (Nat × rx_H)} (hZ : zO b e D A X) (hg : ∀ i y M, vl4[i]? = some (y, M) → rx_Met (zV b e D A X) dn y M (g i)) (hd : 3 ≤ dn) : ∀ n k pc, [13][k]? = some pc → rx_OK (zV b e D A X) mX3_unit (dn + 1) pc (rx_J (vhX3_unit g) n k) := rx_loop fun j hj k pc h => by
  match k, h with
  | 0, h =>
    have e9 := Option.some.inj (show some 13 = some pc from h)
    subst e9
    exact wX3_unit_13 hZ hg hd j hj
  | _ + 1, h => exact absurd h (by simp)
noncomputable def FX3_unit (g : Nat → List Nat → rx_H → Option (Nat × rx_H)) : List Nat → rx_H → Option (Nat × rx_H) := rx_ent 4 (vX3_unit_0 g (rx_J (vhX3_unit g) 4000000000))
theorem Met_X3_unit {dn : Nat} {g : Nat → List Nat → rx_H → Option (Nat × rx_H)} (hZ : zO b e D A X) (hg : ∀ i y M, vl4[i]? = some (y, M) → rx_Met (zV b e D A X) dn y M (g i)) (hd : 3 ≤ dn) : rx_Met (zV b e D A X) (dn + 1) yX3_unit mX3_unit (FX3_unit g) := rx_entry hZ.1 (wX3_unit_0 hZ hg hd _ (vlX3_unit hZ hg hd 4000000000)) (by decide +kernel) rfl (fun h => by cases h)
noncomputable def q4 (n : Nat) : Nat → List Nat → rx_H → Option (Nat × rx_H) := Nat.rec (fun _ _ _ => none) (fun _ ih i => rx_nth [FX3_args ih, FX3_call ih, FX3_chain ih, FX3_expr ih, FX3_unit ih] i (fun _ _ => none)) n
theorem q4_ok (hZ : zO b e D A X) : ∀ n i y M, vl4[i]? = some (y, M) → rx_Met (zV b e D A X) (3 + n) y M (q4 n i)
  | 0 => fun i y M _ As h r h2 hf => by cases hf
  | n + 1 => fun i y M h => by
    match i, h with
    | 0, h => cases h; exact Met_X3_args hZ (q4_ok hZ n) (Nat.le_add_right 3 n)
    | 1, h => cases h; exact Met_X3_call hZ (q4_ok hZ n) (Nat.le_add_right 3 n)
    | 2, h => cases h; exact Met_X3_chain hZ (q4_ok hZ n) (Nat.le_add_right 3 n)
    | 3, h => cases h; exact Met_X3_expr hZ (q4_ok hZ n) (Nat.le_add_right 3 n)
    | 4, h => cases h; exact Met_X3_unit hZ (q4_ok hZ n) (Nat.le_add_right 3 n)
    | _ + 5, h => exact absurd h (by simp)
abbrev mX3_put : rx_M := (RX3, cX3_put, 4, none, false)
theorem vy_X3_put : rx_Y (zV b e D A X) yX3_put mX3_put 2 := ⟨zw2315, zw422, by decide, by decide +kernel, by decide +kernel, by decide +kernel⟩
noncomputable def vX3_put_116 : rx_K := o_ret0
set_option maxRecDepth 20000 in
theorem wX3_put_116 (hZ : zO b e D A X) : rx_OK (zV b e D A X) mX3_put 2 116 vX3_put_116 := by
  unfold vX3_put_116
  exact s_vret rfl dX3_put_116
noncomputable def vX3_put_93 : rx_K := o_ld rx_isR 0 (o_getf 3 1 (o_const 248 (o_ld rx_isR 0 (o_const 32 (o_ld rx_isR 2 (o_getf 8 10 (o_ld rx_isR 3 (o_const 147573952589676412897 (o_callV 4 3 FX3_useOf (o_callV 2 1 FX1_emit (o_pop (vX3_put_116))))))))))))
set_option maxRecDepth 20000 in
theorem wX3_put_93 (hZ : zO b e D A X) : rx_OK (zV b e D A X) mX3_put 2 93 vX3_put_93 := by
  unfold vX3_put_93
  refine s_aload_n hZ.1 dX3_put_93 rfl ?_
  refine yg3_1 dX3_put_94 zw722 ?_
  refine s_bipush dX3_put_97 (by decide +kernel) ?_
  refine s_aload_n hZ.1 dX3_put_99 rfl ?_
  refine s_iconst dX3_put_100 (by decide +kernel) ?_
  refine s_aload_n hZ.1 dX3_put_101 rfl ?_
  refine yg8_10 dX3_put_102 zw496 ?_
  refine s_aload_n hZ.1 dX3_put_105 rfl ?_
  refine s_ldc2 dX3_put_106 zw2228 (by decide +kernel) ?_
  refine s_callV hZ.1 (Met_X3_useOf hZ) (Nat.le_of_ble_eq_true rfl) vy_X3_useOf zcl3 zw2231 zw92 (Or.inl zw2229) dX3_put_109 ?_
  refine s_callV hZ.1 (Met_X1_emit hZ) (Nat.le_of_ble_eq_true rfl) vy_X1_emit zcl1 zw2254 zw2255 (Or.inl zw2253) dX3_put_112 ?_
  refine s_pop hZ.1 dX3_put_115 ?_
  exact (wX3_put_116 hZ)
noncomputable def vX3_put_66 : rx_K := o_ld rx_isR 0 (o_getf 3 1 (o_const 264 (o_ld rx_isR 0 (o_const 48 (o_ld rx_isR 2 (o_getf 8 10 (o_ld rx_isR 3 (o_const 147573952589676412897 (o_callV 4 3 FX3_useOf (o_callV 2 1 FX1_emit (o_pop (vX3_put_116))))))))))))
set_option maxRecDepth 20000 in
theorem wX3_put_66 (hZ : zO b e D A X) : rx_OK (zV b e D A X) mX3_put 2 66 vX3_put_66 := by
  unfold vX3_put_66
  refine s_aload_n hZ.1 dX3_put_66 rfl ?_
  refine yg3_1 dX3_put_67 zw722 ?_
  refine s_bipush dX3_put_70 (by decide +kernel) ?_
  refine s_aload_n hZ.1 dX3_put_72 rfl ?_
  refine s_bipush dX3_put_73 (by decide +kernel) ?_
  refine s_aload_n hZ.1 dX3_put_75 rfl ?_
  refine yg8_10 dX3_put_76 zw496 ?_
  refine s_aload_n hZ.1 dX3_put_79 rfl ?_
  refine s_ldc2 dX3_put_80 zw2228 (by decide +kernel) ?_
  refine s_callV hZ.1 (Met_X3_useOf hZ) (Nat.le_of_ble_eq_true rfl) vy_X3_useOf zcl3 zw2231 zw92 (Or.inl zw2229) dX3_put_83 ?_
  refine s_callV hZ.1 (Met_X1_emit hZ) (Nat.le_of_ble_eq_true rfl) vy_X1_emit zcl1 zw2254 zw2255 (Or.inl zw2253) dX3_put_86 ?_
  refine s_pop hZ.1 dX3_put_89 ?_
  exact s_goto dX3_put_90 (by decide) (wX3_put_116 hZ)
noncomputable def vX3_put_59 : rx_K := o_ld rx_isR 3 (o_getf 7 2 (o_c1 rx_eq vX3_put_93 vX3_put_66))
set_option maxRecDepth 20000 in
theorem wX3_put_59 (hZ : zO b e D A X) : rx_OK (zV b e D A X) mX3_put 2 59 vX3_put_59 := by
  unfold vX3_put_59
  refine s_aload_n hZ.1 dX3_put_59 rfl ?_
  refine yg7_2 dX3_put_60 zw962 ?_
  exact s_if_eq dX3_put_63 (by decide) (wX3_put_93 hZ) (wX3_put_66 hZ)
noncomputable def vX3_put_43 : rx_K := o_ld rx_isR 0 (o_getf 3 1 (o_const 32 (o_ld rx_isR 2 (o_getf 8 4 (o_callV 2 1 FX1_emit (o_pop (vX3_put_116)))))))
set_option maxRecDepth 20000 in
theorem wX3_put_43 (hZ : zO b e D A X) : rx_OK (zV b e D A X) mX3_put 2 43 vX3_put_43 := by
  unfold vX3_put_43
  refine s_aload_n hZ.1 dX3_put_43 rfl ?_
  refine yg3_1 dX3_put_44 zw722 ?_
  refine s_iconst dX3_put_47 (by decide +kernel) ?_
  refine s_aload_n hZ.1 dX3_put_48 rfl ?_
  refine yg8_4 dX3_put_49 zw472 ?_
  refine s_callV hZ.1 (Met_X1_emit hZ) (Nat.le_of_ble_eq_true rfl) vy_X1_emit zcl1 zw2254 zw2255 (Or.inl zw2253) dX3_put_52 ?_
  refine s_pop hZ.1 dX3_put_55 ?_
  exact s_goto dX3_put_56 (by decide) (wX3_put_116 hZ)
noncomputable def vX3_put_12 : rx_K := o_ld rx_isR 2 (o_getf 8 11 (o_st rx_isR 3 (o_ld rx_isR 0 (o_const 136 (o_ld rx_isR 1 (o_getf 8 6 (o_getf 8 9 (o_const 3 (o_ld rx_isR 1 (o_getf 8 5 (o_getf 8 9 (o_callV 4 3 FX3_useOf (o_pop (o_ld rx_isR 3 (o_nul vX3_put_43 vX3_put_59)))))))))))))))
set_option maxRecDepth 20000 in
theorem wX3_put_12 (hZ : zO b e D A X) : rx_OK (zV b e D A X) mX3_put 2 12 vX3_put_12 := by
  unfold vX3_put_12
  refine s_aload_n hZ.1 dX3_put_12 rfl ?_
  refine yg8_11 dX3_put_13 zw499 ?_
  refine s_astore_n hZ.1 dX3_put_16 rfl (Nat.le_of_ble_eq_true rfl) ?_
  refine s_aload_n hZ.1 dX3_put_17 rfl ?_
  refine s_bipush dX3_put_18 (by decide +kernel) ?_
  refine s_aload_n hZ.1 dX3_put_20 rfl ?_
  refine yg8_6 dX3_put_21 zw480 ?_
  refine yg8_9 dX3_put_24 zw491 ?_
  refine s_null dX3_put_27 ?_
  refine s_aload_n hZ.1 dX3_put_28 rfl ?_
  refine yg8_5 dX3_put_29 zw476 ?_
  refine yg8_9 dX3_put_32 zw491 ?_
  refine s_callV hZ.1 (Met_X3_useOf hZ) (Nat.le_of_ble_eq_true rfl) vy_X3_useOf zcl3 zw2231 zw92 (Or.inl zw2229) dX3_put_35 ?_
  refine s_pop hZ.1 dX3_put_38 ?_
  refine s_aload_n hZ.1 dX3_put_39 rfl ?_
  exact s_ifnonnull dX3_put_40 (by decide) (wX3_put_59 hZ) (wX3_put_43 hZ)
noncomputable def vX3_put_11 : rx_K := o_ret0
set_option maxRecDepth 20000 in
theorem wX3_put_11 (hZ : zO b e D A X) : rx_OK (zV b e D A X) mX3_put 2 11 vX3_put_11 := by
  unfold vX3_put_11
  exact s_vret rfl dX3_put_11
noncomputable def vX3_put_4 : rx_K := o_ld rx_isR 1 (o_getf 8 6 (o_nul vX3_put_11 vX3_put_12))
set_option maxRecDepth 20000 in
theorem wX3_put_4 (hZ : zO b e D A X) : rx_OK (zV b e D A X) mX3_put 2 4 vX3_put_4 := by
  unfold vX3_put_4
  refine s_aload_n hZ.1 dX3_put_4 rfl ?_
  refine yg8_6 dX3_put_5 zw480 ?_
  exact s_ifnonnull dX3_put_8 (by decide) (wX3_put_12 hZ) (wX3_put_11 hZ)
noncomputable def vX3_put_0 : rx_K := o_ld rx_isR 2 (o_nul vX3_put_11 vX3_put_4)
set_option maxRecDepth 20000 in
theorem wX3_put_0 (hZ : zO b e D A X) : rx_OK (zV b e D A X) mX3_put 2 0 vX3_put_0 := by
  unfold vX3_put_0
  refine s_aload_n hZ.1 dX3_put_0 rfl ?_
  exact s_ifnull dX3_put_1 (by decide) (wX3_put_11 hZ) (wX3_put_4 hZ)
noncomputable def FX3_put : List Nat → rx_H → Option (Nat × rx_H) := rx_ent 4 vX3_put_0
theorem Met_X3_put (hZ : zO b e D A X) : rx_Met (zV b e D A X) 2 yX3_put mX3_put (FX3_put) := rx_entry hZ.1 (wX3_put_0 hZ) (by decide +kernel) rfl (fun h => by cases h)
abbrev mX3_branch : rx_M := (RX3, cX3_branch, 4, none, false)
theorem vy_X3_branch : rx_Y (zV b e D A X) yX3_branch mX3_branch 1 := ⟨zw2301, zw422, by decide, by decide +kernel, by decide +kernel, by decide +kernel⟩
abbrev mX3_loop : rx_M := (RX3, cX3_loop, 4, none, false)
theorem vy_X3_loop : rx_Y (zV b e D A X) yX3_loop mX3_loop 1 := ⟨zw2305, zw422, by decide, by decide +kernel, by decide +kernel, by decide +kernel⟩
abbrev mX3_statement : rx_M := (RX3, cX3_statement, 4, none, false)
theorem vy_X3_statement : rx_Y (zV b e D A X) yX3_statement mX3_statement 1 := ⟨zw2297, zw422, by decide, by decide +kernel, by decide +kernel, by decide +kernel⟩
abbrev mX3_tried : rx_M := (RX3, cX3_tried, 4, none, false)
theorem vy_X3_tried : rx_Y (zV b e D A X) yX3_tried mX3_tried 1 := ⟨zw2310, zw422, by decide, by decide +kernel, by decide +kernel, by decide +kernel⟩
abbrev vl5 : List (MethodName × rx_M) := [(yX3_branch, mX3_branch), (yX3_loop, mX3_loop), (yX3_statement, mX3_statement), (yX3_tried, mX3_tried)]
noncomputable def vX3_branch_63 (g : Nat → List Nat → rx_H → Option (Nat × rx_H)) : rx_K := o_ld rx_isR 0 (o_getf 3 1 (o_ld rx_isI 2 (o_callV 1 1 FX1_patch (o_ret0))))
set_option maxRecDepth 20000 in
theorem wX3_branch_63 {dn : Nat} {g : Nat → List Nat → rx_H → Option (Nat × rx_H)} (hZ : zO b e D A X) (hg : ∀ i y M, vl5[i]? = some (y, M) → rx_Met (zV b e D A X) dn y M (g i)) (hd : 204 ≤ dn) : rx_OK (zV b e D A X) mX3_branch (dn + 1) 63 (vX3_branch_63 g) := by
  unfold vX3_branch_63
  refine s_aload_n hZ.1 dX3_branch_63 rfl ?_
  refine yg3_1 dX3_branch_64 zw722 ?_
  refine s_iload_n hZ.1 dX3_branch_67 rfl ?_
  refine s_callV hZ.1 (Met_X1_patch hZ) (Nat.succ_le_succ (Nat.le_trans (Nat.le_of_ble_eq_true rfl) hd)) vy_X1_patch zcl1 zw2287 zw2288 (Or.inl zw2286) dX3_branch_68 ?_
  exact s_vret rfl dX3_branch_71
noncomputable def vX3_branch_34 (g : Nat → List Nat → rx_H → Option (Nat × rx_H)) : rx_K := o_ld rx_isR 0 (o_getf 3 1 (o_const 96 (o_const 0 (o_callV 2 1 FX1_emit (o_st rx_isI 3 (o_ld rx_isR 0 (o_getf 3 1 (o_ld rx_isI 2 (o_callV 1 1 FX1_patch (o_ld rx_isI 3 (o_st rx_isI 2 (o_ld rx_isR 0 (o_ld rx_isR 1 (o_getf 8 7 (o_callV 1 3 (g 2) ((vX3_branch_63 g)))))))))))))))))
set_option maxRecDepth 20000 in
theorem wX3_branch_34 {dn : Nat} {g : Nat → List Nat → rx_H → Option (Nat × rx_H)} (hZ : zO b e D A X) (hg : ∀ i y M, vl5[i]? = some (y, M) → rx_Met (zV b e D A X) dn y M (g i)) (hd : 204 ≤ dn) : rx_OK (zV b e D A X) mX3_branch (dn + 1) 34 (vX3_branch_34 g) := by
  unfold vX3_branch_34
  refine s_aload_n hZ.1 dX3_branch_34 rfl ?_
  refine yg3_1 dX3_branch_35 zw722 ?_
  refine s_bipush dX3_branch_38 (by decide +kernel) ?_
  refine s_iconst dX3_branch_40 (by decide +kernel) ?_
  refine s_callV hZ.1 (Met_X1_emit hZ) (Nat.succ_le_succ (Nat.le_trans (Nat.le_of_ble_eq_true rfl) hd)) vy_X1_emit zcl1 zw2254 zw2255 (Or.inl zw2253) dX3_branch_41 ?_
  refine s_istore_n hZ.1 dX3_branch_44 rfl (Nat.le_of_ble_eq_true rfl) ?_
  refine s_aload_n hZ.1 dX3_branch_45 rfl ?_
  refine yg3_1 dX3_branch_46 zw722 ?_
  refine s_iload_n hZ.1 dX3_branch_49 rfl ?_
  refine s_callV hZ.1 (Met_X1_patch hZ) (Nat.succ_le_succ (Nat.le_trans (Nat.le_of_ble_eq_true rfl) hd)) vy_X1_patch zcl1 zw2287 zw2288 (Or.inl zw2286) dX3_branch_50 ?_
  refine s_iload_n hZ.1 dX3_branch_53 rfl ?_
  refine s_istore_n hZ.1 dX3_branch_54 rfl (Nat.le_of_ble_eq_true rfl) ?_
  refine s_aload_n hZ.1 dX3_branch_55 rfl ?_
  refine s_aload_n hZ.1 dX3_branch_56 rfl ?_
  refine yg8_7 dX3_branch_57 zw483 ?_
  refine s_callV hZ.1 (hg 2 _ _ rfl) (Nat.le_refl _) vy_X3_statement zcl3 zw2296 zw103 (Or.inl zw2294) dX3_branch_60 ?_
  exact (wX3_branch_63 hZ hg hd)
noncomputable def vX3_branch_0 (g : Nat → List Nat → rx_H → Option (Nat × rx_H)) : rx_K := o_ld rx_isR 0 (o_ld rx_isR 1 (o_getf 8 5 (o_callV 1 3 (q4 200 3) (o_ld rx_isR 0 (o_getf 3 1 (o_const 104 (o_const 0 (o_callV 2 1 FX1_emit (o_st rx_isI 2 (o_ld rx_isR 0 (o_ld rx_isR 1 (o_getf 8 6 (o_callV 1 3 (g 2) (o_ld rx_isR 1 (o_getf 8 7 (o_nul (vX3_branch_63 g) (vX3_branch_34 g)))))))))))))))))
set_option maxRecDepth 20000 in
theorem wX3_branch_0 {dn : Nat} {g : Nat → List Nat → rx_H → Option (Nat × rx_H)} (hZ : zO b e D A X) (hg : ∀ i y M, vl5[i]? = some (y, M) → rx_Met (zV b e D A X) dn y M (g i)) (hd : 204 ≤ dn) : rx_OK (zV b e D A X) mX3_branch (dn + 1) 0 (vX3_branch_0 g) := by
  unfold vX3_branch_0
  refine s_aload_n hZ.1 dX3_branch_0 rfl ?_
  refine s_aload_n hZ.1 dX3_branch_1 rfl ?_
  refine yg8_5 dX3_branch_2 zw476 ?_
  refine s_callV hZ.1 (q4_ok hZ 200 3 _ _ rfl) (Nat.succ_le_succ (Nat.le_trans (Nat.le_of_ble_eq_true rfl) hd)) vy_X3_expr zcl3 zw2251 zw94 (Or.inl zw2249) dX3_branch_5 ?_
  refine s_aload_n hZ.1 dX3_branch_8 rfl ?_
  refine yg3_1 dX3_branch_9 zw722 ?_
  refine s_bipush dX3_branch_12 (by decide +kernel) ?_
  refine s_iconst dX3_branch_14 (by decide +kernel) ?_
  refine s_callV hZ.1 (Met_X1_emit hZ) (Nat.succ_le_succ (Nat.le_trans (Nat.le_of_ble_eq_true rfl) hd)) vy_X1_emit zcl1 zw2254 zw2255 (Or.inl zw2253) dX3_branch_15 ?_
  refine s_istore_n hZ.1 dX3_branch_18 rfl (Nat.le_of_ble_eq_true rfl) ?_
  refine s_aload_n hZ.1 dX3_branch_19 rfl ?_
  refine s_aload_n hZ.1 dX3_branch_20 rfl ?_
  refine yg8_6 dX3_branch_21 zw480 ?_
  refine s_callV hZ.1 (hg 2 _ _ rfl) (Nat.le_refl _) vy_X3_statement zcl3 zw2296 zw103 (Or.inl zw2294) dX3_branch_24 ?_
  refine s_aload_n hZ.1 dX3_branch_27 rfl ?_
  refine yg8_7 dX3_branch_28 zw483 ?_
  exact s_ifnull dX3_branch_31 (by decide) (wX3_branch_63 hZ hg hd) (wX3_branch_34 hZ hg hd)
noncomputable def FX3_branch (g : Nat → List Nat → rx_H → Option (Nat × rx_H)) : List Nat → rx_H → Option (Nat × rx_H) := rx_ent 4 (vX3_branch_0 g)
theorem Met_X3_branch {dn : Nat} {g : Nat → List Nat → rx_H → Option (Nat × rx_H)} (hZ : zO b e D A X) (hg : ∀ i y M, vl5[i]? = some (y, M) → rx_Met (zV b e D A X) dn y M (g i)) (hd : 204 ≤ dn) : rx_Met (zV b e D A X) (dn + 1) yX3_branch mX3_branch (FX3_branch g) := rx_entry hZ.1 (wX3_branch_0 hZ hg hd) (by decide +kernel) rfl (fun h => by cases h)
noncomputable def vX3_loop_45 (g : Nat → List Nat → rx_H → Option (Nat × rx_H)) : rx_K := o_ld rx_isR 0 (o_getf 3 1 (o_const 96 (o_ld rx_isI 2 (o_callV 2 1 FX1_emit (o_pop (o_ld rx_isR 0 (o_getf 3 1 (o_ld rx_isI 3 (o_callV 1 1 FX1_patch (o_ret0))))))))))
set_option maxRecDepth 20000 in
theorem wX3_loop_45 {dn : Nat} {g : Nat → List Nat → rx_H → Option (Nat × rx_H)} (hZ : zO b e D A X) (hg : ∀ i y M, vl5[i]? = some (y, M) → rx_Met (zV b e D A X) dn y M (g i)) (hd : 204 ≤ dn) : rx_OK (zV b e D A X) mX3_loop (dn + 1) 45 (vX3_loop_45 g) := by
  unfold vX3_loop_45
  refine s_aload_n hZ.1 dX3_loop_45 rfl ?_
  refine yg3_1 dX3_loop_46 zw722 ?_
  refine s_bipush dX3_loop_49 (by decide +kernel) ?_
  refine s_iload_n hZ.1 dX3_loop_51 rfl ?_
  refine s_callV hZ.1 (Met_X1_emit hZ) (Nat.succ_le_succ (Nat.le_trans (Nat.le_of_ble_eq_true rfl) hd)) vy_X1_emit zcl1 zw2254 zw2255 (Or.inl zw2253) dX3_loop_52 ?_
  refine s_pop hZ.1 dX3_loop_55 ?_
  refine s_aload_n hZ.1 dX3_loop_56 rfl ?_
  refine yg3_1 dX3_loop_57 zw722 ?_
  refine s_iload_n hZ.1 dX3_loop_60 rfl ?_
  refine s_callV hZ.1 (Met_X1_patch hZ) (Nat.succ_le_succ (Nat.le_trans (Nat.le_of_ble_eq_true rfl) hd)) vy_X1_patch zcl1 zw2287 zw2288 (Or.inl zw2286) dX3_loop_61 ?_
  exact s_vret rfl dX3_loop_64
noncomputable def vX3_loop_0 (g : Nat → List Nat → rx_H → Option (Nat × rx_H)) : rx_K := o_ld rx_isR 0 (o_getf 3 1 (o_getf 1 17 (o_st rx_isI 2 (o_ld rx_isR 0 (o_getf 3 1 (o_const 8 (o_const 0 (o_callV 2 1 FX1_emit (o_pop (o_ld rx_isR 0 (o_ld rx_isR 1 (o_getf 8 5 (o_callV 1 3 (q4 200 3) (o_ld rx_isR 0 (o_getf 3 1 (o_const 104 (o_const 0 (o_callV 2 1 FX1_emit (o_st rx_isI 3 (o_ld rx_isR 0 (o_ld rx_isR 1 (o_getf 8 6 (o_callV 1 3 (g 2) ((vX3_loop_45 g)))))))))))))))))))))))))
set_option maxRecDepth 20000 in
theorem wX3_loop_0 {dn : Nat} {g : Nat → List Nat → rx_H → Option (Nat × rx_H)} (hZ : zO b e D A X) (hg : ∀ i y M, vl5[i]? = some (y, M) → rx_Met (zV b e D A X) dn y M (g i)) (hd : 204 ≤ dn) : rx_OK (zV b e D A X) mX3_loop (dn + 1) 0 (vX3_loop_0 g) := by
  unfold vX3_loop_0
  refine s_aload_n hZ.1 dX3_loop_0 rfl ?_
  refine yg3_1 dX3_loop_1 zw722 ?_
  refine yg1_17 dX3_loop_4 zw1172 ?_
  refine s_istore_n hZ.1 dX3_loop_7 rfl (Nat.le_of_ble_eq_true rfl) ?_
  refine s_aload_n hZ.1 dX3_loop_8 rfl ?_
  refine yg3_1 dX3_loop_9 zw722 ?_
  refine s_iconst dX3_loop_12 (by decide +kernel) ?_
  refine s_iconst dX3_loop_13 (by decide +kernel) ?_
  refine s_callV hZ.1 (Met_X1_emit hZ) (Nat.succ_le_succ (Nat.le_trans (Nat.le_of_ble_eq_true rfl) hd)) vy_X1_emit zcl1 zw2254 zw2255 (Or.inl zw2253) dX3_loop_14 ?_
  refine s_pop hZ.1 dX3_loop_17 ?_
  refine s_aload_n hZ.1 dX3_loop_18 rfl ?_
  refine s_aload_n hZ.1 dX3_loop_19 rfl ?_
  refine yg8_5 dX3_loop_20 zw476 ?_
  refine s_callV hZ.1 (q4_ok hZ 200 3 _ _ rfl) (Nat.succ_le_succ (Nat.le_trans (Nat.le_of_ble_eq_true rfl) hd)) vy_X3_expr zcl3 zw2251 zw94 (Or.inl zw2249) dX3_loop_23 ?_
  refine s_aload_n hZ.1 dX3_loop_26 rfl ?_
  refine yg3_1 dX3_loop_27 zw722 ?_
  refine s_bipush dX3_loop_30 (by decide +kernel) ?_
  refine s_iconst dX3_loop_32 (by decide +kernel) ?_
  refine s_callV hZ.1 (Met_X1_emit hZ) (Nat.succ_le_succ (Nat.le_trans (Nat.le_of_ble_eq_true rfl) hd)) vy_X1_emit zcl1 zw2254 zw2255 (Or.inl zw2253) dX3_loop_33 ?_
  refine s_istore_n hZ.1 dX3_loop_36 rfl (Nat.le_of_ble_eq_true rfl) ?_
  refine s_aload_n hZ.1 dX3_loop_37 rfl ?_
  refine s_aload_n hZ.1 dX3_loop_38 rfl ?_
  refine yg8_6 dX3_loop_39 zw480 ?_
  refine s_callV hZ.1 (hg 2 _ _ rfl) (Nat.le_refl _) vy_X3_statement zcl3 zw2296 zw103 (Or.inl zw2294) dX3_loop_42 ?_
  exact (wX3_loop_45 hZ hg hd)
noncomputable def FX3_loop (g : Nat → List Nat → rx_H → Option (Nat × rx_H)) : List Nat → rx_H → Option (Nat × rx_H) := rx_ent 4 (vX3_loop_0 g)
theorem Met_X3_loop {dn : Nat} {g : Nat → List Nat → rx_H → Option (Nat × rx_H)} (hZ : zO b e D A X) (hg : ∀ i y M, vl5[i]? = some (y, M) → rx_Met (zV b e D A X) dn y M (g i)) (hd : 204 ≤ dn) : rx_Met (zV b e D A X) (dn + 1) yX3_loop mX3_loop (FX3_loop g) := rx_entry hZ.1 (wX3_loop_0 hZ hg hd) (by decide +kernel) rfl (fun h => by cases h)
end ZM10

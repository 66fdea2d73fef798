section ZM56
variable {b : Nat} {e : Nat → Value} {D : va_G} {A : Nat → ClassId} {X : State → Prop}
abbrev mX13_useOf : rx_M := (RX13, cX13_useOf, 11, (some .int), false)
theorem vy_X13_useOf : rx_Y (zV b e D A X) yX13_useOf mX13_useOf 5 := ⟨zw3562, zw431, by decide, by decide +kernel, by decide +kernel, by decide +kernel⟩
noncomputable def vX13_useOf_68 (j : Nat → rx_K) : rx_K := o_ld rx_isR 0 (o_ld rx_isI 9 (o_callV 1 13 FX13_keepUse (o_ret1 rx_isI)))
set_option maxRecDepth 20000 in
theorem wX13_useOf_68 (hZ : zO b e D A X) (j : Nat → rx_K) (hj : ∀ k pc, [28][k]? = some pc → rx_OK (zV b e D A X) mX13_useOf 1 pc (j k)) : rx_OK (zV b e D A X) mX13_useOf 1 68 (vX13_useOf_68 j) := by
  unfold vX13_useOf_68
  refine s_aload_n hZ.1 dX13_useOf_68 rfl ?_
  refine s_iload hZ.1 dX13_useOf_69 ?_
  refine s_callV hZ.1 (Met_X13_keepUse hZ) (Nat.le_of_ble_eq_true rfl) vy_X13_keepUse zcl13 zw3521 zw304 (Or.inl zw3519) dX13_useOf_71 ?_
  exact s_iret hZ.1 rfl dX13_useOf_74
noncomputable def vX13_useOf_39 (j : Nat → rx_K) : rx_K := o_ld rx_isR 0 (o_getf 13 125 (o_const 32 (o_ld rx_isI 9 (o_bi (fun x y => x * y) (o_ld rx_isI 10 (o_bi (fun x y => x + y) (o_ld rx_isR 0 (o_getf 13 86 (o_const 32 (o_ld rx_isI 1 (o_bi (fun x y => x * y) (o_ld rx_isI 10 (o_bi (fun x y => x + y) (o_ald 1 (o_ast 1 (fun v => v) rx_isL (o_inc 10 (1) ((j 0))))))))))))))))))
set_option maxRecDepth 20000 in
theorem wX13_useOf_39 (hZ : zO b e D A X) (j : Nat → rx_K) (hj : ∀ k pc, [28][k]? = some pc → rx_OK (zV b e D A X) mX13_useOf 1 pc (j k)) : rx_OK (zV b e D A X) mX13_useOf 1 39 (vX13_useOf_39 j) := by
  unfold vX13_useOf_39
  refine s_aload_n hZ.1 dX13_useOf_39 rfl ?_
  refine yg13_125 dX13_useOf_40 zw4245 ?_
  refine s_iconst dX13_useOf_43 (by decide +kernel) ?_
  refine s_iload hZ.1 dX13_useOf_44 ?_
  refine s_imul dX13_useOf_46 ?_
  refine s_iload hZ.1 dX13_useOf_47 ?_
  refine s_iadd dX13_useOf_49 ?_
  refine s_aload_n hZ.1 dX13_useOf_50 rfl ?_
  refine yg13_86 dX13_useOf_51 zw4207 ?_
  refine s_iconst dX13_useOf_54 (by decide +kernel) ?_
  refine s_iload_n hZ.1 dX13_useOf_55 rfl ?_
  refine s_imul dX13_useOf_56 ?_
  refine s_iload hZ.1 dX13_useOf_57 ?_
  refine s_iadd dX13_useOf_59 ?_
  refine s_lald (tt := 1) rfl dX13_useOf_60 ?_
  refine s_last (tt := 1) rfl dX13_useOf_61 ?_
  refine s_iinc hZ.1 dX13_useOf_62 (Nat.le_of_ble_eq_true rfl) ?_
  exact s_goto dX13_useOf_65 (by decide) (hj 0 28 rfl)
noncomputable def vX13_useOf_28 (j : Nat → rx_K) : rx_K := o_ld rx_isI 10 (o_ld rx_isR 0 (o_getf 13 85 (o_ld rx_isI 1 (o_ald 0 (o_c2 rx_lt (vX13_useOf_39 j) (vX13_useOf_68 j))))))
set_option maxRecDepth 20000 in
theorem wX13_useOf_28 (hZ : zO b e D A X) (j : Nat → rx_K) (hj : ∀ k pc, [28][k]? = some pc → rx_OK (zV b e D A X) mX13_useOf 1 pc (j k)) : rx_OK (zV b e D A X) mX13_useOf 1 28 (vX13_useOf_28 j) := by
  unfold vX13_useOf_28
  refine s_iload hZ.1 dX13_useOf_28 ?_
  refine s_aload_n hZ.1 dX13_useOf_30 rfl ?_
  refine yg13_85 dX13_useOf_31 zw4206 ?_
  refine s_iload_n hZ.1 dX13_useOf_34 rfl ?_
  refine s_iald (tt := 0) rfl dX13_useOf_35 ?_
  exact s_icmp_ge dX13_useOf_36 (by decide) (wX13_useOf_68 hZ j hj) (wX13_useOf_39 hZ j hj)
noncomputable def vX13_useOf_0 (j : Nat → rx_K) : rx_K := o_ld rx_isR 0 (o_ld rx_isI 2 (o_ld rx_isL 3 (o_ld rx_isL 5 (o_ld rx_isL 7 (o_callV 4 13 FX13_nextUse (o_st rx_isI 9 (o_ld rx_isR 0 (o_getf 13 124 (o_ld rx_isI 9 (o_ld rx_isR 0 (o_getf 13 85 (o_ld rx_isI 1 (o_ald 0 (o_ast 0 (fun v => v) rx_isI (o_const 0 (o_st rx_isI 10 ((vX13_useOf_28 j))))))))))))))))))
set_option maxRecDepth 20000 in
theorem wX13_useOf_0 (hZ : zO b e D A X) (j : Nat → rx_K) (hj : ∀ k pc, [28][k]? = some pc → rx_OK (zV b e D A X) mX13_useOf 1 pc (j k)) : rx_OK (zV b e D A X) mX13_useOf 1 0 (vX13_useOf_0 j) := by
  unfold vX13_useOf_0
  refine s_aload_n hZ.1 dX13_useOf_0 rfl ?_
  refine s_iload_n hZ.1 dX13_useOf_1 rfl ?_
  refine s_lload_n hZ.1 dX13_useOf_2 rfl ?_
  refine s_lload hZ.1 dX13_useOf_3 ?_
  refine s_lload hZ.1 dX13_useOf_5 ?_
  refine s_callV hZ.1 (Met_X13_nextUse hZ) (Nat.le_of_ble_eq_true rfl) vy_X13_nextUse zcl13 zw3517 zw303 (Or.inl zw3515) dX13_useOf_7 ?_
  refine s_istore hZ.1 dX13_useOf_10 (Nat.le_of_ble_eq_true rfl) ?_
  refine s_aload_n hZ.1 dX13_useOf_12 rfl ?_
  refine yg13_124 dX13_useOf_13 zw4244 ?_
  refine s_iload hZ.1 dX13_useOf_16 ?_
  refine s_aload_n hZ.1 dX13_useOf_18 rfl ?_
  refine yg13_85 dX13_useOf_19 zw4206 ?_
  refine s_iload_n hZ.1 dX13_useOf_22 rfl ?_
  refine s_iald (tt := 0) rfl dX13_useOf_23 ?_
  refine s_iast hZ.1 (tt := 0) rfl dX13_useOf_24 ?_
  refine s_iconst dX13_useOf_25 (by decide +kernel) ?_
  refine s_istore hZ.1 dX13_useOf_26 (Nat.le_of_ble_eq_true rfl) ?_
  exact (wX13_useOf_28 hZ j hj)
noncomputable def vhX13_useOf (j : Nat → rx_K) : List rx_K := [vX13_useOf_28 j]
theorem vlX13_useOf (hZ : zO b e D A X) : ∀ n k pc, [28][k]? = some pc → rx_OK (zV b e D A X) mX13_useOf 1 pc (rx_J (vhX13_useOf) n k) := rx_loop fun j hj k pc h => by
  match k, h with
  | 0, h =>
    have e9 := Option.some.inj (show some 28 = some pc from h)
    subst e9
    exact wX13_useOf_28 hZ j hj
  | _ + 1, h => exact absurd h (by simp)
noncomputable def FX13_useOf : List Nat → rx_H → Option (Nat × rx_H) := rx_ent 11 (vX13_useOf_0 (rx_J (vhX13_useOf) 4000000000))
theorem Met_X13_useOf (hZ : zO b e D A X) : rx_Met (zV b e D A X) 1 yX13_useOf mX13_useOf (FX13_useOf) := rx_entry hZ.1 (wX13_useOf_0 hZ _ (vlX13_useOf hZ 4000000000)) (by decide +kernel) rfl (fun h => by cases h)
abbrev mX13_copyOf : rx_M := (RX13, cX13_copyOf, 3, (some .int), false)
theorem vy_X13_copyOf : rx_Y (zV b e D A X) yX13_copyOf mX13_copyOf 1 := ⟨zw3534, zw431, by decide, by decide +kernel, by decide +kernel, by decide +kernel⟩
noncomputable def vX13_copyOf_37 : rx_K := o_ret1 rx_isI
set_option maxRecDepth 20000 in
theorem wX13_copyOf_37 (hZ : zO b e D A X) : rx_OK (zV b e D A X) mX13_copyOf 1 37 vX13_copyOf_37 := by
  unfold vX13_copyOf_37
  exact s_iret hZ.1 rfl dX13_copyOf_37
noncomputable def vX13_copyOf_0 : rx_K := o_ld rx_isR 0 (o_const 128 (o_ld rx_isR 0 (o_getf 13 83 (o_ld rx_isI 1 (o_ald 1 (o_ld rx_isR 0 (o_getf 13 74 (o_ld rx_isI 1 (o_ald 1 (o_const 1 (o_callV 4 13 FX13_nextUse (o_st rx_isI 2 (o_ld rx_isR 0 (o_getf 13 127 (o_ld rx_isI 2 (o_ld rx_isR 0 (o_getf 13 81 (o_ld rx_isI 1 (o_ald 0 (o_ast 0 (fun v => v) rx_isI (o_ld rx_isR 0 (o_ld rx_isI 2 (o_callV 1 13 FX13_keepUse (vX13_copyOf_37))))))))))))))))))))))))
set_option maxRecDepth 20000 in
theorem wX13_copyOf_0 (hZ : zO b e D A X) : rx_OK (zV b e D A X) mX13_copyOf 1 0 vX13_copyOf_0 := by
  unfold vX13_copyOf_0
  refine s_aload_n hZ.1 dX13_copyOf_0 rfl ?_
  refine s_bipush dX13_copyOf_1 (by decide +kernel) ?_
  refine s_aload_n hZ.1 dX13_copyOf_3 rfl ?_
  refine yg13_83 dX13_copyOf_4 zw4204 ?_
  refine s_iload_n hZ.1 dX13_copyOf_7 rfl ?_
  refine s_lald (tt := 1) rfl dX13_copyOf_8 ?_
  refine s_aload_n hZ.1 dX13_copyOf_9 rfl ?_
  refine yg13_74 dX13_copyOf_10 zw4195 ?_
  refine s_iload_n hZ.1 dX13_copyOf_13 rfl ?_
  refine s_lald (tt := 1) rfl dX13_copyOf_14 ?_
  refine s_lconst dX13_copyOf_15 (by decide +kernel) ?_
  refine s_callV hZ.1 (Met_X13_nextUse hZ) (Nat.le_of_ble_eq_true rfl) vy_X13_nextUse zcl13 zw3517 zw303 (Or.inl zw3515) dX13_copyOf_16 ?_
  refine s_istore_n hZ.1 dX13_copyOf_19 rfl (Nat.le_of_ble_eq_true rfl) ?_
  refine s_aload_n hZ.1 dX13_copyOf_20 rfl ?_
  refine yg13_127 dX13_copyOf_21 zw4247 ?_
  refine s_iload_n hZ.1 dX13_copyOf_24 rfl ?_
  refine s_aload_n hZ.1 dX13_copyOf_25 rfl ?_
  refine yg13_81 dX13_copyOf_26 zw4202 ?_
  refine s_iload_n hZ.1 dX13_copyOf_29 rfl ?_
  refine s_iald (tt := 0) rfl dX13_copyOf_30 ?_
  refine s_iast hZ.1 (tt := 0) rfl dX13_copyOf_31 ?_
  refine s_aload_n hZ.1 dX13_copyOf_32 rfl ?_
  refine s_iload_n hZ.1 dX13_copyOf_33 rfl ?_
  refine s_callV hZ.1 (Met_X13_keepUse hZ) (Nat.le_of_ble_eq_true rfl) vy_X13_keepUse zcl13 zw3521 zw304 (Or.inl zw3519) dX13_copyOf_34 ?_
  exact (wX13_copyOf_37 hZ)
noncomputable def FX13_copyOf : List Nat → rx_H → Option (Nat × rx_H) := rx_ent 3 vX13_copyOf_0
theorem Met_X13_copyOf (hZ : zO b e D A X) : rx_Met (zV b e D A X) 1 yX13_copyOf mX13_copyOf (FX13_copyOf) := rx_entry hZ.1 (wX13_copyOf_0 hZ) (by decide +kernel) rfl (fun h => by cases h)
abbrev mX13_fit : rx_M := (RX13, cX13_fit, 7, none, false)
theorem vy_X13_fit : rx_Y (zV b e D A X) yX13_fit mX13_fit 2 := ⟨zw3554, zw431, by decide, by decide +kernel, by decide +kernel, by decide +kernel⟩
noncomputable def vX13_fit_65 : rx_K := o_ret0
set_option maxRecDepth 20000 in
theorem wX13_fit_65 (hZ : zO b e D A X) : rx_OK (zV b e D A X) mX13_fit 1 65 vX13_fit_65 := by
  unfold vX13_fit_65
  exact s_vret rfl dX13_fit_65
noncomputable def vX13_fit_38 : rx_K := o_ld rx_isR 0 (o_const 136 (o_ld rx_isL 4 (o_const 1 (o_const 1 (o_callV 4 13 FX13_nextUse (o_st rx_isI 6 (o_ld rx_isR 0 (o_getf 13 126 (o_ld rx_isI 6 (o_ld rx_isL 2 (o_ast 1 (fun v => v) rx_isL (o_ld rx_isR 0 (o_ld rx_isI 6 (o_callV 1 13 FX13_keepUse (o_pop (vX13_fit_65))))))))))))))))
set_option maxRecDepth 20000 in
theorem wX13_fit_38 (hZ : zO b e D A X) : rx_OK (zV b e D A X) mX13_fit 1 38 vX13_fit_38 := by
  unfold vX13_fit_38
  refine s_aload_n hZ.1 dX13_fit_38 rfl ?_
  refine s_bipush dX13_fit_39 (by decide +kernel) ?_
  refine s_lload hZ.1 dX13_fit_41 ?_
  refine s_lconst dX13_fit_43 (by decide +kernel) ?_
  refine s_lconst dX13_fit_44 (by decide +kernel) ?_
  refine s_callV hZ.1 (Met_X13_nextUse hZ) (Nat.le_of_ble_eq_true rfl) vy_X13_nextUse zcl13 zw3517 zw303 (Or.inl zw3515) dX13_fit_45 ?_
  refine s_istore hZ.1 dX13_fit_48 (Nat.le_of_ble_eq_true rfl) ?_
  refine s_aload_n hZ.1 dX13_fit_50 rfl ?_
  refine yg13_126 dX13_fit_51 zw4246 ?_
  refine s_iload hZ.1 dX13_fit_54 ?_
  refine s_lload_n hZ.1 dX13_fit_56 rfl ?_
  refine s_last (tt := 1) rfl dX13_fit_57 ?_
  refine s_aload_n hZ.1 dX13_fit_58 rfl ?_
  refine s_iload hZ.1 dX13_fit_59 ?_
  refine s_callV hZ.1 (Met_X13_keepUse hZ) (Nat.le_of_ble_eq_true rfl) vy_X13_keepUse zcl13 zw3521 zw304 (Or.inl zw3519) dX13_fit_61 ?_
  refine s_pop hZ.1 dX13_fit_64 ?_
  exact (wX13_fit_65 hZ)
noncomputable def vX13_fit_30 : rx_K := o_ld rx_isL 2 (o_const 18446744073764969673 (o_bc (fun x y => lg_cmp x y) (o_c1 rx_eq vX13_fit_65 vX13_fit_38)))
set_option maxRecDepth 20000 in
theorem wX13_fit_30 (hZ : zO b e D A X) : rx_OK (zV b e D A X) mX13_fit 1 30 vX13_fit_30 := by
  unfold vX13_fit_30
  refine s_lload_n hZ.1 dX13_fit_30 rfl ?_
  refine s_ldc2 dX13_fit_31 zw3188 (by decide +kernel) ?_
  refine s_lcmp dX13_fit_34 ?_
  exact s_if_eq dX13_fit_35 (by decide) (wX13_fit_65 hZ) (wX13_fit_38 hZ)
noncomputable def vX13_fit_23 : rx_K := o_ld rx_isL 4 (o_ld rx_isL 2 (o_bc (fun x y => lg_cmp x y) (o_c1 rx_eq vX13_fit_65 vX13_fit_30)))
set_option maxRecDepth 20000 in
theorem wX13_fit_23 (hZ : zO b e D A X) : rx_OK (zV b e D A X) mX13_fit 1 23 vX13_fit_23 := by
  unfold vX13_fit_23
  refine s_lload hZ.1 dX13_fit_23 ?_
  refine s_lload_n hZ.1 dX13_fit_25 rfl ?_
  refine s_lcmp dX13_fit_26 ?_
  exact s_if_eq dX13_fit_27 (by decide) (wX13_fit_65 hZ) (wX13_fit_30 hZ)
noncomputable def vX13_fit_16 : rx_K := o_ld rx_isL 2 (o_callS 1 FX13_isC (o_c1 rx_eq vX13_fit_65 vX13_fit_23))
set_option maxRecDepth 20000 in
theorem wX13_fit_16 (hZ : zO b e D A X) : rx_OK (zV b e D A X) mX13_fit 1 16 vX13_fit_16 := by
  unfold vX13_fit_16
  refine s_lload_n hZ.1 dX13_fit_16 rfl ?_
  refine s_callS hZ.1 (Met_X13_isC hZ) (Nat.le_of_ble_eq_true rfl) vy_X13_isC zw3239 (Or.inl zw3238) dX13_fit_17 ?_
  exact s_if_eq dX13_fit_20 (by decide) (wX13_fit_65 hZ) (wX13_fit_23 hZ)
noncomputable def vX13_fit_0 : rx_K := o_ld rx_isR 0 (o_getf 13 76 (o_ld rx_isI 1 (o_ald 1 (o_stL 4 (o_ld rx_isL 4 (o_callS 1 FX13_isC (o_c1 rx_eq vX13_fit_65 vX13_fit_16)))))))
set_option maxRecDepth 20000 in
theorem wX13_fit_0 (hZ : zO b e D A X) : rx_OK (zV b e D A X) mX13_fit 1 0 vX13_fit_0 := by
  unfold vX13_fit_0
  refine s_aload_n hZ.1 dX13_fit_0 rfl ?_
  refine yg13_76 dX13_fit_1 zw4197 ?_
  refine s_iload_n hZ.1 dX13_fit_4 rfl ?_
  refine s_lald (tt := 1) rfl dX13_fit_5 ?_
  refine s_lstore hZ.1 dX13_fit_6 (Nat.le_of_ble_eq_true rfl) ?_
  refine s_lload hZ.1 dX13_fit_8 ?_
  refine s_callS hZ.1 (Met_X13_isC hZ) (Nat.le_of_ble_eq_true rfl) vy_X13_isC zw3239 (Or.inl zw3238) dX13_fit_10 ?_
  exact s_if_eq dX13_fit_13 (by decide) (wX13_fit_65 hZ) (wX13_fit_16 hZ)
noncomputable def FX13_fit : List Nat → rx_H → Option (Nat × rx_H) := rx_ent 7 vX13_fit_0
theorem Met_X13_fit (hZ : zO b e D A X) : rx_Met (zV b e D A X) 1 yX13_fit mX13_fit (FX13_fit) := rx_entry hZ.1 (wX13_fit_0 hZ) (by decide +kernel) rfl (fun h => by cases h)
abbrev mX13_bridgeUse : rx_M := (RX13, cX13_bridgeUse, 6, (some .int), false)
theorem vy_X13_bridgeUse : rx_Y (zV b e D A X) yX13_bridgeUse mX13_bridgeUse 2 := ⟨zw3526, zw431, by decide, by decide +kernel, by decide +kernel, by decide +kernel⟩
noncomputable def vX13_bridgeUse_209 (j : Nat → rx_K) : rx_K := o_ld rx_isI 4 (o_ret1 rx_isI)
set_option maxRecDepth 20000 in
theorem wX13_bridgeUse_209 (hZ : zO b e D A X) (j : Nat → rx_K) (hj : ∀ k pc, [72][k]? = some pc → rx_OK (zV b e D A X) mX13_bridgeUse 1 pc (j k)) : rx_OK (zV b e D A X) mX13_bridgeUse 1 209 (vX13_bridgeUse_209 j) := by
  unfold vX13_bridgeUse_209
  refine s_iload hZ.1 dX13_bridgeUse_209 ?_
  exact s_iret hZ.1 rfl dX13_bridgeUse_211
noncomputable def vX13_bridgeUse_173 (j : Nat → rx_K) : rx_K := o_ld rx_isR 0 (o_const 136 (o_ld rx_isR 0 (o_getf 13 66 (o_ld rx_isI 2 (o_ald 1 (o_const 1 (o_const 1 (o_callV 4 13 FX13_nextUse (o_st rx_isI 5 (o_ld rx_isR 0 (o_getf 13 126 (o_ld rx_isI 5 (o_ld rx_isR 0 (o_getf 13 53 (o_ld rx_isI 2 (o_ald 1 (o_ast 1 (fun v => v) rx_isL (o_ld rx_isR 0 (o_ld rx_isI 5 (o_callV 1 13 FX13_keepUse (o_pop ((vX13_bridgeUse_209 j)))))))))))))))))))))))
set_option maxRecDepth 20000 in
theorem wX13_bridgeUse_173 (hZ : zO b e D A X) (j : Nat → rx_K) (hj : ∀ k pc, [72][k]? = some pc → rx_OK (zV b e D A X) mX13_bridgeUse 1 pc (j k)) : rx_OK (zV b e D A X) mX13_bridgeUse 1 173 (vX13_bridgeUse_173 j) := by
  unfold vX13_bridgeUse_173
  refine s_aload_n hZ.1 dX13_bridgeUse_173 rfl ?_
  refine s_bipush dX13_bridgeUse_174 (by decide +kernel) ?_
  refine s_aload_n hZ.1 dX13_bridgeUse_176 rfl ?_
  refine yg13_66 dX13_bridgeUse_177 zw4187 ?_
  refine s_iload_n hZ.1 dX13_bridgeUse_180 rfl ?_
  refine s_lald (tt := 1) rfl dX13_bridgeUse_181 ?_
  refine s_lconst dX13_bridgeUse_182 (by decide +kernel) ?_
  refine s_lconst dX13_bridgeUse_183 (by decide +kernel) ?_
  refine s_callV hZ.1 (Met_X13_nextUse hZ) (Nat.le_of_ble_eq_true rfl) vy_X13_nextUse zcl13 zw3517 zw303 (Or.inl zw3515) dX13_bridgeUse_184 ?_
  refine s_istore hZ.1 dX13_bridgeUse_187 (Nat.le_of_ble_eq_true rfl) ?_
  refine s_aload_n hZ.1 dX13_bridgeUse_189 rfl ?_
  refine yg13_126 dX13_bridgeUse_190 zw4246 ?_
  refine s_iload hZ.1 dX13_bridgeUse_193 ?_
  refine s_aload_n hZ.1 dX13_bridgeUse_195 rfl ?_
  refine yg13_53 dX13_bridgeUse_196 zw4174 ?_
  refine s_iload_n hZ.1 dX13_bridgeUse_199 rfl ?_
  refine s_lald (tt := 1) rfl dX13_bridgeUse_200 ?_
  refine s_last (tt := 1) rfl dX13_bridgeUse_201 ?_
  refine s_aload_n hZ.1 dX13_bridgeUse_202 rfl ?_
  refine s_iload hZ.1 dX13_bridgeUse_203 ?_
  refine s_callV hZ.1 (Met_X13_keepUse hZ) (Nat.le_of_ble_eq_true rfl) vy_X13_keepUse zcl13 zw3521 zw304 (Or.inl zw3519) dX13_bridgeUse_205 ?_
  refine s_pop hZ.1 dX13_bridgeUse_208 ?_
  exact (wX13_bridgeUse_209 hZ j hj)
noncomputable def vX13_bridgeUse_160 (j : Nat → rx_K) : rx_K := o_ld rx_isR 0 (o_getf 13 53 (o_ld rx_isI 2 (o_ald 1 (o_const 18446744073764969673 (o_bc (fun x y => lg_cmp x y) (o_c1 rx_eq (vX13_bridgeUse_209 j) (vX13_bridgeUse_173 j)))))))
set_option maxRecDepth 20000 in
theorem wX13_bridgeUse_160 (hZ : zO b e D A X) (j : Nat → rx_K) (hj : ∀ k pc, [72][k]? = some pc → rx_OK (zV b e D A X) mX13_bridgeUse 1 pc (j k)) : rx_OK (zV b e D A X) mX13_bridgeUse 1 160 (vX13_bridgeUse_160 j) := by
  unfold vX13_bridgeUse_160
  refine s_aload_n hZ.1 dX13_bridgeUse_160 rfl ?_
  refine yg13_53 dX13_bridgeUse_161 zw4174 ?_
  refine s_iload_n hZ.1 dX13_bridgeUse_164 rfl ?_
  refine s_lald (tt := 1) rfl dX13_bridgeUse_165 ?_
  refine s_ldc2 dX13_bridgeUse_166 zw3188 (by decide +kernel) ?_
  refine s_lcmp dX13_bridgeUse_169 ?_
  exact s_if_eq dX13_bridgeUse_170 (by decide) (wX13_bridgeUse_209 hZ j hj) (wX13_bridgeUse_173 hZ j hj)
noncomputable def vX13_bridgeUse_144 (j : Nat → rx_K) : rx_K := o_ld rx_isR 0 (o_getf 13 66 (o_ld rx_isI 2 (o_ald 1 (o_ld rx_isR 0 (o_getf 13 53 (o_ld rx_isI 2 (o_ald 1 (o_bc (fun x y => lg_cmp x y) (o_c1 rx_eq (vX13_bridgeUse_209 j) (vX13_bridgeUse_160 j))))))))))
set_option maxRecDepth 20000 in
theorem wX13_bridgeUse_144 (hZ : zO b e D A X) (j : Nat → rx_K) (hj : ∀ k pc, [72][k]? = some pc → rx_OK (zV b e D A X) mX13_bridgeUse 1 pc (j k)) : rx_OK (zV b e D A X) mX13_bridgeUse 1 144 (vX13_bridgeUse_144 j) := by
  unfold vX13_bridgeUse_144
  refine s_aload_n hZ.1 dX13_bridgeUse_144 rfl ?_
  refine yg13_66 dX13_bridgeUse_145 zw4187 ?_
  refine s_iload_n hZ.1 dX13_bridgeUse_148 rfl ?_
  refine s_lald (tt := 1) rfl dX13_bridgeUse_149 ?_
  refine s_aload_n hZ.1 dX13_bridgeUse_150 rfl ?_
  refine yg13_53 dX13_bridgeUse_151 zw4174 ?_
  refine s_iload_n hZ.1 dX13_bridgeUse_154 rfl ?_
  refine s_lald (tt := 1) rfl dX13_bridgeUse_155 ?_
  refine s_lcmp dX13_bridgeUse_156 ?_
  exact s_if_eq dX13_bridgeUse_157 (by decide) (wX13_bridgeUse_209 hZ j hj) (wX13_bridgeUse_160 hZ j hj)
noncomputable def vX13_bridgeUse_132 (j : Nat → rx_K) : rx_K := o_ld rx_isR 0 (o_getf 13 53 (o_ld rx_isI 2 (o_ald 1 (o_callS 1 FX13_isC (o_c1 rx_eq (vX13_bridgeUse_209 j) (vX13_bridgeUse_144 j))))))
set_option maxRecDepth 20000 in
theorem wX13_bridgeUse_132 (hZ : zO b e D A X) (j : Nat → rx_K) (hj : ∀ k pc, [72][k]? = some pc → rx_OK (zV b e D A X) mX13_bridgeUse 1 pc (j k)) : rx_OK (zV b e D A X) mX13_bridgeUse 1 132 (vX13_bridgeUse_132 j) := by
  unfold vX13_bridgeUse_132
  refine s_aload_n hZ.1 dX13_bridgeUse_132 rfl ?_
  refine yg13_53 dX13_bridgeUse_133 zw4174 ?_
  refine s_iload_n hZ.1 dX13_bridgeUse_136 rfl ?_
  refine s_lald (tt := 1) rfl dX13_bridgeUse_137 ?_
  refine s_callS hZ.1 (Met_X13_isC hZ) (Nat.le_of_ble_eq_true rfl) vy_X13_isC zw3239 (Or.inl zw3238) dX13_bridgeUse_138 ?_
  exact s_if_eq dX13_bridgeUse_141 (by decide) (wX13_bridgeUse_209 hZ j hj) (wX13_bridgeUse_144 hZ j hj)
noncomputable def vX13_bridgeUse_112 (j : Nat → rx_K) : rx_K := o_ld rx_isR 0 (o_ld rx_isI 4 (o_callV 1 13 FX13_keepUse (o_st rx_isI 4 (o_ld rx_isR 0 (o_getf 13 66 (o_ld rx_isI 2 (o_ald 1 (o_callS 1 FX13_isC (o_c1 rx_eq (vX13_bridgeUse_209 j) (vX13_bridgeUse_132 j))))))))))
set_option maxRecDepth 20000 in
theorem wX13_bridgeUse_112 (hZ : zO b e D A X) (j : Nat → rx_K) (hj : ∀ k pc, [72][k]? = some pc → rx_OK (zV b e D A X) mX13_bridgeUse 1 pc (j k)) : rx_OK (zV b e D A X) mX13_bridgeUse 1 112 (vX13_bridgeUse_112 j) := by
  unfold vX13_bridgeUse_112
  refine s_aload_n hZ.1 dX13_bridgeUse_112 rfl ?_
  refine s_iload hZ.1 dX13_bridgeUse_113 ?_
  refine s_callV hZ.1 (Met_X13_keepUse hZ) (Nat.le_of_ble_eq_true rfl) vy_X13_keepUse zcl13 zw3521 zw304 (Or.inl zw3519) dX13_bridgeUse_115 ?_
  refine s_istore hZ.1 dX13_bridgeUse_118 (Nat.le_of_ble_eq_true rfl) ?_
  refine s_aload_n hZ.1 dX13_bridgeUse_120 rfl ?_
  refine yg13_66 dX13_bridgeUse_121 zw4187 ?_
  refine s_iload_n hZ.1 dX13_bridgeUse_124 rfl ?_
  refine s_lald (tt := 1) rfl dX13_bridgeUse_125 ?_
  refine s_callS hZ.1 (Met_X13_isC hZ) (Nat.le_of_ble_eq_true rfl) vy_X13_isC zw3239 (Or.inl zw3238) dX13_bridgeUse_126 ?_
  exact s_if_eq dX13_bridgeUse_129 (by decide) (wX13_bridgeUse_209 hZ j hj) (wX13_bridgeUse_132 hZ j hj)
noncomputable def vX13_bridgeUse_83 (j : Nat → rx_K) : rx_K := o_ld rx_isR 0 (o_getf 13 125 (o_const 32 (o_ld rx_isI 4 (o_bi (fun x y => x * y) (o_ld rx_isI 5 (o_bi (fun x y => x + y) (o_ld rx_isR 0 (o_getf 13 56 (o_const 32 (o_ld rx_isI 2 (o_bi (fun x y => x * y) (o_ld rx_isI 5 (o_bi (fun x y => x + y) (o_ald 1 (o_ast 1 (fun v => v) rx_isL (o_inc 5 (1) ((j 0))))))))))))))))))
set_option maxRecDepth 20000 in
theorem wX13_bridgeUse_83 (hZ : zO b e D A X) (j : Nat → rx_K) (hj : ∀ k pc, [72][k]? = some pc → rx_OK (zV b e D A X) mX13_bridgeUse 1 pc (j k)) : rx_OK (zV b e D A X) mX13_bridgeUse 1 83 (vX13_bridgeUse_83 j) := by
  unfold vX13_bridgeUse_83
  refine s_aload_n hZ.1 dX13_bridgeUse_83 rfl ?_
  refine yg13_125 dX13_bridgeUse_84 zw4245 ?_
  refine s_iconst dX13_bridgeUse_87 (by decide +kernel) ?_
  refine s_iload hZ.1 dX13_bridgeUse_88 ?_
  refine s_imul dX13_bridgeUse_90 ?_
  refine s_iload hZ.1 dX13_bridgeUse_91 ?_
  refine s_iadd dX13_bridgeUse_93 ?_
  refine s_aload_n hZ.1 dX13_bridgeUse_94 rfl ?_
  refine yg13_56 dX13_bridgeUse_95 zw4177 ?_
  refine s_iconst dX13_bridgeUse_98 (by decide +kernel) ?_
  refine s_iload_n hZ.1 dX13_bridgeUse_99 rfl ?_
  refine s_imul dX13_bridgeUse_100 ?_
  refine s_iload hZ.1 dX13_bridgeUse_101 ?_
  refine s_iadd dX13_bridgeUse_103 ?_
  refine s_lald (tt := 1) rfl dX13_bridgeUse_104 ?_
  refine s_last (tt := 1) rfl dX13_bridgeUse_105 ?_
  refine s_iinc hZ.1 dX13_bridgeUse_106 (Nat.le_of_ble_eq_true rfl) ?_
  exact s_goto dX13_bridgeUse_109 (by decide) (hj 0 72 rfl)
noncomputable def vX13_bridgeUse_72 (j : Nat → rx_K) : rx_K := o_ld rx_isI 5 (o_ld rx_isR 0 (o_getf 13 55 (o_ld rx_isI 2 (o_ald 0 (o_c2 rx_lt (vX13_bridgeUse_83 j) (vX13_bridgeUse_112 j))))))
set_option maxRecDepth 20000 in
theorem wX13_bridgeUse_72 (hZ : zO b e D A X) (j : Nat → rx_K) (hj : ∀ k pc, [72][k]? = some pc → rx_OK (zV b e D A X) mX13_bridgeUse 1 pc (j k)) : rx_OK (zV b e D A X) mX13_bridgeUse 1 72 (vX13_bridgeUse_72 j) := by
  unfold vX13_bridgeUse_72
  refine s_iload hZ.1 dX13_bridgeUse_72 ?_
  refine s_aload_n hZ.1 dX13_bridgeUse_74 rfl ?_
  refine yg13_55 dX13_bridgeUse_75 zw4176 ?_
  refine s_iload_n hZ.1 dX13_bridgeUse_78 rfl ?_
  refine s_iald (tt := 0) rfl dX13_bridgeUse_79 ?_
  exact s_icmp_ge dX13_bridgeUse_80 (by decide) (wX13_bridgeUse_112 hZ j hj) (wX13_bridgeUse_83 hZ j hj)
noncomputable def vX13_bridgeUse_67 (j : Nat → rx_K) : rx_K := o_ald 0 (o_ast 0 (fun v => v) rx_isI (o_const 0 (o_st rx_isI 5 ((vX13_bridgeUse_72 j)))))
set_option maxRecDepth 20000 in
theorem wX13_bridgeUse_67 (hZ : zO b e D A X) (j : Nat → rx_K) (hj : ∀ k pc, [72][k]? = some pc → rx_OK (zV b e D A X) mX13_bridgeUse 1 pc (j k)) : rx_OK (zV b e D A X) mX13_bridgeUse 1 67 (vX13_bridgeUse_67 j) := by
  unfold vX13_bridgeUse_67
  refine s_iald (tt := 0) rfl dX13_bridgeUse_67 ?_
  refine s_iast hZ.1 (tt := 0) rfl dX13_bridgeUse_68 ?_
  refine s_iconst dX13_bridgeUse_69 (by decide +kernel) ?_
  refine s_istore hZ.1 dX13_bridgeUse_70 (Nat.le_of_ble_eq_true rfl) ?_
  exact (wX13_bridgeUse_72 hZ j hj)
noncomputable def vX13_bridgeUse_29 (j : Nat → rx_K) : rx_K := o_bi (fun x y => x + y) (o_st rx_isI 3 (o_ld rx_isR 0 (o_ld rx_isI 3 (o_ld rx_isR 0 (o_getf 13 24 (o_ld rx_isI 1 (o_ald 1 (o_ld rx_isR 0 (o_getf 13 51 (o_ld rx_isI 2 (o_ald 1 (o_ld rx_isR 0 (o_getf 13 66 (o_ld rx_isI 2 (o_ald 1 (o_callV 4 13 FX13_nextUse (o_st rx_isI 4 (o_ld rx_isR 0 (o_getf 13 124 (o_ld rx_isI 4 (o_ld rx_isR 0 (o_getf 13 55 (o_ld rx_isI 2 ((vX13_bridgeUse_67 j)))))))))))))))))))))))))
set_option maxRecDepth 20000 in
theorem wX13_bridgeUse_29 (hZ : zO b e D A X) (j : Nat → rx_K) (hj : ∀ k pc, [72][k]? = some pc → rx_OK (zV b e D A X) mX13_bridgeUse 1 pc (j k)) : rx_OK (zV b e D A X) mX13_bridgeUse 1 29 (vX13_bridgeUse_29 j) := by
  unfold vX13_bridgeUse_29
  refine s_iadd dX13_bridgeUse_29 ?_
  refine s_istore_n hZ.1 dX13_bridgeUse_30 rfl (Nat.le_of_ble_eq_true rfl) ?_
  refine s_aload_n hZ.1 dX13_bridgeUse_31 rfl ?_
  refine s_iload_n hZ.1 dX13_bridgeUse_32 rfl ?_
  refine s_aload_n hZ.1 dX13_bridgeUse_33 rfl ?_
  refine yg13_24 dX13_bridgeUse_34 zw4145 ?_
  refine s_iload_n hZ.1 dX13_bridgeUse_37 rfl ?_
  refine s_lald (tt := 1) rfl dX13_bridgeUse_38 ?_
  refine s_aload_n hZ.1 dX13_bridgeUse_39 rfl ?_
  refine yg13_51 dX13_bridgeUse_40 zw4172 ?_
  refine s_iload_n hZ.1 dX13_bridgeUse_43 rfl ?_
  refine s_lald (tt := 1) rfl dX13_bridgeUse_44 ?_
  refine s_aload_n hZ.1 dX13_bridgeUse_45 rfl ?_
  refine yg13_66 dX13_bridgeUse_46 zw4187 ?_
  refine s_iload_n hZ.1 dX13_bridgeUse_49 rfl ?_
  refine s_lald (tt := 1) rfl dX13_bridgeUse_50 ?_
  refine s_callV hZ.1 (Met_X13_nextUse hZ) (Nat.le_of_ble_eq_true rfl) vy_X13_nextUse zcl13 zw3517 zw303 (Or.inl zw3515) dX13_bridgeUse_51 ?_
  refine s_istore hZ.1 dX13_bridgeUse_54 (Nat.le_of_ble_eq_true rfl) ?_
  refine s_aload_n hZ.1 dX13_bridgeUse_56 rfl ?_
  refine yg13_124 dX13_bridgeUse_57 zw4244 ?_
  refine s_iload hZ.1 dX13_bridgeUse_60 ?_
  refine s_aload_n hZ.1 dX13_bridgeUse_62 rfl ?_
  refine yg13_55 dX13_bridgeUse_63 zw4176 ?_
  refine s_iload_n hZ.1 dX13_bridgeUse_66 rfl ?_
  exact (wX13_bridgeUse_67 hZ j hj)
noncomputable def vX13_bridgeUse_28 (j : Nat → rx_K) : rx_K := o_const 0 ((vX13_bridgeUse_29 j))
set_option maxRecDepth 20000 in
theorem wX13_bridgeUse_28 (hZ : zO b e D A X) (j : Nat → rx_K) (hj : ∀ k pc, [72][k]? = some pc → rx_OK (zV b e D A X) mX13_bridgeUse 1 pc (j k)) : rx_OK (zV b e D A X) mX13_bridgeUse 1 28 (vX13_bridgeUse_28 j) := by
  unfold vX13_bridgeUse_28
  refine s_iconst dX13_bridgeUse_28 (by decide +kernel) ?_
  exact (wX13_bridgeUse_29 hZ j hj)
noncomputable def vX13_bridgeUse_24 (j : Nat → rx_K) : rx_K := o_const 16 ((vX13_bridgeUse_29 j))
set_option maxRecDepth 20000 in
theorem wX13_bridgeUse_24 (hZ : zO b e D A X) (j : Nat → rx_K) (hj : ∀ k pc, [72][k]? = some pc → rx_OK (zV b e D A X) mX13_bridgeUse 1 pc (j k)) : rx_OK (zV b e D A X) mX13_bridgeUse 1 24 (vX13_bridgeUse_24 j) := by
  unfold vX13_bridgeUse_24
  refine s_iconst dX13_bridgeUse_24 (by decide +kernel) ?_
  exact s_goto dX13_bridgeUse_25 (by decide) (wX13_bridgeUse_29 hZ j hj)
noncomputable def vX13_bridgeUse_15 (j : Nat → rx_K) : rx_K := o_ld rx_isR 0 (o_getf 13 45 (o_ld rx_isI 2 (o_ald 3 (o_c1 rx_eq (vX13_bridgeUse_28 j) (vX13_bridgeUse_24 j)))))
set_option maxRecDepth 20000 in
theorem wX13_bridgeUse_15 (hZ : zO b e D A X) (j : Nat → rx_K) (hj : ∀ k pc, [72][k]? = some pc → rx_OK (zV b e D A X) mX13_bridgeUse 1 pc (j k)) : rx_OK (zV b e D A X) mX13_bridgeUse 1 15 (vX13_bridgeUse_15 j) := by
  unfold vX13_bridgeUse_15
  refine s_aload_n hZ.1 dX13_bridgeUse_15 rfl ?_
  refine yg13_45 dX13_bridgeUse_16 zw4166 ?_
  refine s_iload_n hZ.1 dX13_bridgeUse_19 rfl ?_
  refine s_zald (tt := 3) rfl dX13_bridgeUse_20 ?_
  exact s_if_eq dX13_bridgeUse_21 (by decide) (wX13_bridgeUse_28 hZ j hj) (wX13_bridgeUse_24 hZ j hj)
noncomputable def vX13_bridgeUse_13 (j : Nat → rx_K) : rx_K := o_const 56 ((vX13_bridgeUse_15 j))
set_option maxRecDepth 20000 in
theorem wX13_bridgeUse_13 (hZ : zO b e D A X) (j : Nat → rx_K) (hj : ∀ k pc, [72][k]? = some pc → rx_OK (zV b e D A X) mX13_bridgeUse 1 pc (j k)) : rx_OK (zV b e D A X) mX13_bridgeUse 1 13 (vX13_bridgeUse_13 j) := by
  unfold vX13_bridgeUse_13
  refine s_bipush dX13_bridgeUse_13 (by decide +kernel) ?_
  exact (wX13_bridgeUse_15 hZ j hj)
noncomputable def vX13_bridgeUse_8 (j : Nat → rx_K) : rx_K := o_const 64 ((vX13_bridgeUse_15 j))
set_option maxRecDepth 20000 in
theorem wX13_bridgeUse_8 (hZ : zO b e D A X) (j : Nat → rx_K) (hj : ∀ k pc, [72][k]? = some pc → rx_OK (zV b e D A X) mX13_bridgeUse 1 pc (j k)) : rx_OK (zV b e D A X) mX13_bridgeUse 1 8 (vX13_bridgeUse_8 j) := by
  unfold vX13_bridgeUse_8
  refine s_bipush dX13_bridgeUse_8 (by decide +kernel) ?_
  exact s_goto dX13_bridgeUse_10 (by decide) (wX13_bridgeUse_15 hZ j hj)
noncomputable def vX13_bridgeUse_0 (j : Nat → rx_K) : rx_K := o_ld rx_isR 0 (o_ld rx_isI 1 (o_callV 1 13 FX13_isFace (o_c1 rx_eq (vX13_bridgeUse_13 j) (vX13_bridgeUse_8 j))))
set_option maxRecDepth 20000 in
theorem wX13_bridgeUse_0 (hZ : zO b e D A X) (j : Nat → rx_K) (hj : ∀ k pc, [72][k]? = some pc → rx_OK (zV b e D A X) mX13_bridgeUse 1 pc (j k)) : rx_OK (zV b e D A X) mX13_bridgeUse 1 0 (vX13_bridgeUse_0 j) := by
  unfold vX13_bridgeUse_0
  refine s_aload_n hZ.1 dX13_bridgeUse_0 rfl ?_
  refine s_iload_n hZ.1 dX13_bridgeUse_1 rfl ?_
  refine s_callV hZ.1 (Met_X13_isFace hZ) (Nat.le_of_ble_eq_true rfl) vy_X13_isFace zcl13 zw3192 zw227 (Or.inl zw3190) dX13_bridgeUse_2 ?_
  exact s_if_eq dX13_bridgeUse_5 (by decide) (wX13_bridgeUse_13 hZ j hj) (wX13_bridgeUse_8 hZ j hj)
noncomputable def vhX13_bridgeUse (j : Nat → rx_K) : List rx_K := [vX13_bridgeUse_72 j]
theorem vlX13_bridgeUse (hZ : zO b e D A X) : ∀ n k pc, [72][k]? = some pc → rx_OK (zV b e D A X) mX13_bridgeUse 1 pc (rx_J (vhX13_bridgeUse) n k) := rx_loop fun j hj k pc h => by
  match k, h with
  | 0, h =>
    have e9 := Option.some.inj (show some 72 = some pc from h)
    subst e9
    exact wX13_bridgeUse_72 hZ j hj
  | _ + 1, h => exact absurd h (by simp)
noncomputable def FX13_bridgeUse : List Nat → rx_H → Option (Nat × rx_H) := rx_ent 6 (vX13_bridgeUse_0 (rx_J (vhX13_bridgeUse) 4000000000))
theorem Met_X13_bridgeUse (hZ : zO b e D A X) : rx_Met (zV b e D A X) 1 yX13_bridgeUse mX13_bridgeUse (FX13_bridgeUse) := rx_entry hZ.1 (wX13_bridgeUse_0 hZ _ (vlX13_bridgeUse hZ 4000000000)) (by decide +kernel) rfl (fun h => by cases h)
abbrev mX13_copies : rx_M := (RX13, cX13_copies, 4, none, false)
theorem vy_X13_copies : rx_Y (zV b e D A X) yX13_copies mX13_copies 1 := ⟨zw3530, zw431, by decide, by decide +kernel, by decide +kernel, by decide +kernel⟩
abbrev vl15 : List (MethodName × rx_M) := [(yX13_copies, mX13_copies)]
noncomputable def vX13_copies_139 (g : Nat → List Nat → rx_H → Option (Nat × rx_H)) (j : Nat → rx_K) : rx_K := o_ret0
set_option maxRecDepth 20000 in
theorem wX13_copies_139 {dn : Nat} {g : Nat → List Nat → rx_H → Option (Nat × rx_H)} (hZ : zO b e D A X) (hg : ∀ i y M, vl15[i]? = some (y, M) → rx_Met (zV b e D A X) dn y M (g i)) (hd : 2 ≤ dn) (j : Nat → rx_K) (hj : ∀ k pc, [7, 86][k]? = some pc → rx_OK (zV b e D A X) mX13_copies (dn + 1) pc (j k)) : rx_OK (zV b e D A X) mX13_copies (dn + 1) 139 (vX13_copies_139 g j) := by
  unfold vX13_copies_139
  exact s_vret rfl dX13_copies_139
noncomputable def vX13_copies_126 (g : Nat → List Nat → rx_H → Option (Nat × rx_H)) (j : Nat → rx_K) : rx_K := o_ld rx_isR 0 (o_ld rx_isR 0 (o_getf 13 78 (o_ld rx_isI 3 (o_ald 0 (o_callV 1 13 (g 0) ((j 1)))))))
set_option maxRecDepth 20000 in
theorem wX13_copies_126 {dn : Nat} {g : Nat → List Nat → rx_H → Option (Nat × rx_H)} (hZ : zO b e D A X) (hg : ∀ i y M, vl15[i]? = some (y, M) → rx_Met (zV b e D A X) dn y M (g i)) (hd : 2 ≤ dn) (j : Nat → rx_K) (hj : ∀ k pc, [7, 86][k]? = some pc → rx_OK (zV b e D A X) mX13_copies (dn + 1) pc (j k)) : rx_OK (zV b e D A X) mX13_copies (dn + 1) 126 (vX13_copies_126 g j) := by
  unfold vX13_copies_126
  refine s_aload_n hZ.1 dX13_copies_126 rfl ?_
  refine s_aload_n hZ.1 dX13_copies_127 rfl ?_
  refine yg13_78 dX13_copies_128 zw4199 ?_
  refine s_iload_n hZ.1 dX13_copies_131 rfl ?_
  refine s_iald (tt := 0) rfl dX13_copies_132 ?_
  refine s_callV hZ.1 (hg 0 _ _ rfl) (Nat.le_refl _) vy_X13_copies zcl13 zw3529 zw306 (Or.inl zw3527) dX13_copies_133 ?_
  exact s_goto dX13_copies_136 (by decide) (hj 1 86 rfl)
noncomputable def vX13_copies_94 (g : Nat → List Nat → rx_H → Option (Nat × rx_H)) (j : Nat → rx_K) : rx_K := o_ld rx_isR 0 (o_dup (o_getf 13 108 (o_const 8 (o_bi (fun x y => x - y) (o_putf rx_isI 13 108 (o_ld rx_isR 0 (o_getf 13 107 (o_ld rx_isR 0 (o_getf 13 108 (o_ald 0 (o_st rx_isI 3 (o_ld rx_isR 0 (o_getf 13 70 (o_ld rx_isI 3 (o_ald 0 (o_callS 1 FX13_isTwo (o_c1 rx_eq (j 1) (vX13_copies_126 g j))))))))))))))))))
set_option maxRecDepth 20000 in
theorem wX13_copies_94 {dn : Nat} {g : Nat → List Nat → rx_H → Option (Nat × rx_H)} (hZ : zO b e D A X) (hg : ∀ i y M, vl15[i]? = some (y, M) → rx_Met (zV b e D A X) dn y M (g i)) (hd : 2 ≤ dn) (j : Nat → rx_K) (hj : ∀ k pc, [7, 86][k]? = some pc → rx_OK (zV b e D A X) mX13_copies (dn + 1) pc (j k)) : rx_OK (zV b e D A X) mX13_copies (dn + 1) 94 (vX13_copies_94 g j) := by
  unfold vX13_copies_94
  refine s_aload_n hZ.1 dX13_copies_94 rfl ?_
  refine s_dup hZ.1 dX13_copies_95 ?_
  refine yg13_108 dX13_copies_96 zw4228 ?_
  refine s_iconst dX13_copies_99 (by decide +kernel) ?_
  refine s_isub dX13_copies_100 ?_
  refine yp13_108 hZ.1 dX13_copies_101 zw4228 ?_
  refine s_aload_n hZ.1 dX13_copies_104 rfl ?_
  refine yg13_107 dX13_copies_105 zw4227 ?_
  refine s_aload_n hZ.1 dX13_copies_108 rfl ?_
  refine yg13_108 dX13_copies_109 zw4228 ?_
  refine s_iald (tt := 0) rfl dX13_copies_112 ?_
  refine s_istore_n hZ.1 dX13_copies_113 rfl (Nat.le_of_ble_eq_true rfl) ?_
  refine s_aload_n hZ.1 dX13_copies_114 rfl ?_
  refine yg13_70 dX13_copies_115 zw4191 ?_
  refine s_iload_n hZ.1 dX13_copies_118 rfl ?_
  refine s_iald (tt := 0) rfl dX13_copies_119 ?_
  refine s_callS hZ.1 (Met_X13_isTwo hZ) (Nat.succ_le_succ (Nat.le_trans (Nat.le_of_ble_eq_true rfl) hd)) vy_X13_isTwo zw3338 (Or.inl zw3337) dX13_copies_120 ?_
  exact s_if_eq dX13_copies_123 (by decide) (hj 1 86 rfl) (wX13_copies_126 hZ hg hd j hj)
noncomputable def vX13_copies_86 (g : Nat → List Nat → rx_H → Option (Nat × rx_H)) (j : Nat → rx_K) : rx_K := o_ld rx_isR 0 (o_getf 13 108 (o_ld rx_isI 2 (o_c2 (fun h x y => rx_lt h y x) (vX13_copies_94 g j) (vX13_copies_139 g j))))
set_option maxRecDepth 20000 in
theorem wX13_copies_86 {dn : Nat} {g : Nat → List Nat → rx_H → Option (Nat × rx_H)} (hZ : zO b e D A X) (hg : ∀ i y M, vl15[i]? = some (y, M) → rx_Met (zV b e D A X) dn y M (g i)) (hd : 2 ≤ dn) (j : Nat → rx_K) (hj : ∀ k pc, [7, 86][k]? = some pc → rx_OK (zV b e D A X) mX13_copies (dn + 1) pc (j k)) : rx_OK (zV b e D A X) mX13_copies (dn + 1) 86 (vX13_copies_86 g j) := by
  unfold vX13_copies_86
  refine s_aload_n hZ.1 dX13_copies_86 rfl ?_
  refine yg13_108 dX13_copies_87 zw4228 ?_
  refine s_iload_n hZ.1 dX13_copies_90 rfl ?_
  exact s_icmp_le dX13_copies_91 (by decide) (wX13_copies_139 hZ hg hd j hj) (wX13_copies_94 hZ hg hd j hj)
noncomputable def vX13_copies_80 (g : Nat → List Nat → rx_H → Option (Nat × rx_H)) (j : Nat → rx_K) : rx_K := o_ld rx_isR 0 (o_ld rx_isI 3 (o_callV 1 13 FX13_copyOf (o_pop ((vX13_copies_86 g j)))))
set_option maxRecDepth 20000 in
theorem wX13_copies_80 {dn : Nat} {g : Nat → List Nat → rx_H → Option (Nat × rx_H)} (hZ : zO b e D A X) (hg : ∀ i y M, vl15[i]? = some (y, M) → rx_Met (zV b e D A X) dn y M (g i)) (hd : 2 ≤ dn) (j : Nat → rx_K) (hj : ∀ k pc, [7, 86][k]? = some pc → rx_OK (zV b e D A X) mX13_copies (dn + 1) pc (j k)) : rx_OK (zV b e D A X) mX13_copies (dn + 1) 80 (vX13_copies_80 g j) := by
  unfold vX13_copies_80
  refine s_aload_n hZ.1 dX13_copies_80 rfl ?_
  refine s_iload_n hZ.1 dX13_copies_81 rfl ?_
  refine s_callV hZ.1 (Met_X13_copyOf hZ) (Nat.succ_le_succ (Nat.le_trans (Nat.le_of_ble_eq_true rfl) hd)) vy_X13_copyOf zcl13 zw3533 zw307 (Or.inl zw3531) dX13_copies_82 ?_
  refine s_pop hZ.1 dX13_copies_85 ?_
  exact (wX13_copies_86 hZ hg hd j hj)
noncomputable def vX13_copies_70 (g : Nat → List Nat → rx_H → Option (Nat × rx_H)) (j : Nat → rx_K) : rx_K := o_ld rx_isR 0 (o_getf 13 70 (o_ld rx_isI 3 (o_ald 0 (o_const 40 (o_c2 rx_eq (vX13_copies_80 g j) (vX13_copies_86 g j))))))
set_option maxRecDepth 20000 in
theorem wX13_copies_70 {dn : Nat} {g : Nat → List Nat → rx_H → Option (Nat × rx_H)} (hZ : zO b e D A X) (hg : ∀ i y M, vl15[i]? = some (y, M) → rx_Met (zV b e D A X) dn y M (g i)) (hd : 2 ≤ dn) (j : Nat → rx_K) (hj : ∀ k pc, [7, 86][k]? = some pc → rx_OK (zV b e D A X) mX13_copies (dn + 1) pc (j k)) : rx_OK (zV b e D A X) mX13_copies (dn + 1) 70 (vX13_copies_70 g j) := by
  unfold vX13_copies_70
  refine s_aload_n hZ.1 dX13_copies_70 rfl ?_
  refine yg13_70 dX13_copies_71 zw4191 ?_
  refine s_iload_n hZ.1 dX13_copies_74 rfl ?_
  refine s_iald (tt := 0) rfl dX13_copies_75 ?_
  refine s_iconst dX13_copies_76 (by decide +kernel) ?_
  exact s_icmp_ne dX13_copies_77 (by decide) (wX13_copies_86 hZ hg hd j hj) (wX13_copies_80 hZ hg hd j hj)
noncomputable def vX13_copies_60 (g : Nat → List Nat → rx_H → Option (Nat × rx_H)) (j : Nat → rx_K) : rx_K := o_ld rx_isR 0 (o_getf 13 70 (o_ld rx_isI 3 (o_ald 0 (o_const 24 (o_c2 rx_eq (vX13_copies_80 g j) (vX13_copies_70 g j))))))
set_option maxRecDepth 20000 in
theorem wX13_copies_60 {dn : Nat} {g : Nat → List Nat → rx_H → Option (Nat × rx_H)} (hZ : zO b e D A X) (hg : ∀ i y M, vl15[i]? = some (y, M) → rx_Met (zV b e D A X) dn y M (g i)) (hd : 2 ≤ dn) (j : Nat → rx_K) (hj : ∀ k pc, [7, 86][k]? = some pc → rx_OK (zV b e D A X) mX13_copies (dn + 1) pc (j k)) : rx_OK (zV b e D A X) mX13_copies (dn + 1) 60 (vX13_copies_60 g j) := by
  unfold vX13_copies_60
  refine s_aload_n hZ.1 dX13_copies_60 rfl ?_
  refine yg13_70 dX13_copies_61 zw4191 ?_
  refine s_iload_n hZ.1 dX13_copies_64 rfl ?_
  refine s_iald (tt := 0) rfl dX13_copies_65 ?_
  refine s_iconst dX13_copies_66 (by decide +kernel) ?_
  exact s_icmp_eq dX13_copies_67 (by decide) (wX13_copies_80 hZ hg hd j hj) (wX13_copies_70 hZ hg hd j hj)
noncomputable def vX13_copies_30 (g : Nat → List Nat → rx_H → Option (Nat × rx_H)) (j : Nat → rx_K) : rx_K := o_ld rx_isR 0 (o_getf 13 107 (o_ld rx_isR 0 (o_getf 13 108 (o_ld rx_isI 3 (o_ast 0 (fun v => v) rx_isI (o_ld rx_isR 0 (o_dup (o_getf 13 108 (o_const 8 (o_bi (fun x y => x + y) (o_putf rx_isI 13 108 (o_ld rx_isR 0 (o_getf 13 77 (o_ld rx_isI 3 (o_ald 0 (o_st rx_isI 3 ((j 0))))))))))))))))))
set_option maxRecDepth 20000 in
theorem wX13_copies_30 {dn : Nat} {g : Nat → List Nat → rx_H → Option (Nat × rx_H)} (hZ : zO b e D A X) (hg : ∀ i y M, vl15[i]? = some (y, M) → rx_Met (zV b e D A X) dn y M (g i)) (hd : 2 ≤ dn) (j : Nat → rx_K) (hj : ∀ k pc, [7, 86][k]? = some pc → rx_OK (zV b e D A X) mX13_copies (dn + 1) pc (j k)) : rx_OK (zV b e D A X) mX13_copies (dn + 1) 30 (vX13_copies_30 g j) := by
  unfold vX13_copies_30
  refine s_aload_n hZ.1 dX13_copies_30 rfl ?_
  refine yg13_107 dX13_copies_31 zw4227 ?_
  refine s_aload_n hZ.1 dX13_copies_34 rfl ?_
  refine yg13_108 dX13_copies_35 zw4228 ?_
  refine s_iload_n hZ.1 dX13_copies_38 rfl ?_
  refine s_iast hZ.1 (tt := 0) rfl dX13_copies_39 ?_
  refine s_aload_n hZ.1 dX13_copies_40 rfl ?_
  refine s_dup hZ.1 dX13_copies_41 ?_
  refine yg13_108 dX13_copies_42 zw4228 ?_
  refine s_iconst dX13_copies_45 (by decide +kernel) ?_
  refine s_iadd dX13_copies_46 ?_
  refine yp13_108 hZ.1 dX13_copies_47 zw4228 ?_
  refine s_aload_n hZ.1 dX13_copies_50 rfl ?_
  refine yg13_77 dX13_copies_51 zw4198 ?_
  refine s_iload_n hZ.1 dX13_copies_54 rfl ?_
  refine s_iald (tt := 0) rfl dX13_copies_55 ?_
  refine s_istore_n hZ.1 dX13_copies_56 rfl (Nat.le_of_ble_eq_true rfl) ?_
  exact s_goto dX13_copies_57 (by decide) (hj 0 7 rfl)
noncomputable def vX13_copies_19 (g : Nat → List Nat → rx_H → Option (Nat × rx_H)) (j : Nat → rx_K) : rx_K := o_ld rx_isR 0 (o_getf 13 70 (o_ld rx_isI 3 (o_ald 0 (o_const 88 (o_c2 rx_eq (vX13_copies_30 g j) (vX13_copies_60 g j))))))
set_option maxRecDepth 20000 in
theorem wX13_copies_19 {dn : Nat} {g : Nat → List Nat → rx_H → Option (Nat × rx_H)} (hZ : zO b e D A X) (hg : ∀ i y M, vl15[i]? = some (y, M) → rx_Met (zV b e D A X) dn y M (g i)) (hd : 2 ≤ dn) (j : Nat → rx_K) (hj : ∀ k pc, [7, 86][k]? = some pc → rx_OK (zV b e D A X) mX13_copies (dn + 1) pc (j k)) : rx_OK (zV b e D A X) mX13_copies (dn + 1) 19 (vX13_copies_19 g j) := by
  unfold vX13_copies_19
  refine s_aload_n hZ.1 dX13_copies_19 rfl ?_
  refine yg13_70 dX13_copies_20 zw4191 ?_
  refine s_iload_n hZ.1 dX13_copies_23 rfl ?_
  refine s_iald (tt := 0) rfl dX13_copies_24 ?_
  refine s_bipush dX13_copies_25 (by decide +kernel) ?_
  exact s_icmp_ne dX13_copies_27 (by decide) (wX13_copies_60 hZ hg hd j hj) (wX13_copies_30 hZ hg hd j hj)
noncomputable def vX13_copies_7 (g : Nat → List Nat → rx_H → Option (Nat × rx_H)) (j : Nat → rx_K) : rx_K := o_ld rx_isR 0 (o_getf 13 70 (o_ld rx_isI 3 (o_ald 0 (o_callS 1 FX13_isTwo (o_c1 rx_eq (vX13_copies_19 g j) (vX13_copies_30 g j))))))
set_option maxRecDepth 20000 in
theorem wX13_copies_7 {dn : Nat} {g : Nat → List Nat → rx_H → Option (Nat × rx_H)} (hZ : zO b e D A X) (hg : ∀ i y M, vl15[i]? = some (y, M) → rx_Met (zV b e D A X) dn y M (g i)) (hd : 2 ≤ dn) (j : Nat → rx_K) (hj : ∀ k pc, [7, 86][k]? = some pc → rx_OK (zV b e D A X) mX13_copies (dn + 1) pc (j k)) : rx_OK (zV b e D A X) mX13_copies (dn + 1) 7 (vX13_copies_7 g j) := by
  unfold vX13_copies_7
  refine s_aload_n hZ.1 dX13_copies_7 rfl ?_
  refine yg13_70 dX13_copies_8 zw4191 ?_
  refine s_iload_n hZ.1 dX13_copies_11 rfl ?_
  refine s_iald (tt := 0) rfl dX13_copies_12 ?_
  refine s_callS hZ.1 (Met_X13_isTwo hZ) (Nat.succ_le_succ (Nat.le_trans (Nat.le_of_ble_eq_true rfl) hd)) vy_X13_isTwo zw3338 (Or.inl zw3337) dX13_copies_13 ?_
  exact s_if_ne dX13_copies_16 (by decide) (wX13_copies_30 hZ hg hd j hj) (wX13_copies_19 hZ hg hd j hj)
noncomputable def vX13_copies_0 (g : Nat → List Nat → rx_H → Option (Nat × rx_H)) (j : Nat → rx_K) : rx_K := o_ld rx_isR 0 (o_getf 13 108 (o_st rx_isI 2 (o_ld rx_isI 1 (o_st rx_isI 3 ((vX13_copies_7 g j))))))
set_option maxRecDepth 20000 in
theorem wX13_copies_0 {dn : Nat} {g : Nat → List Nat → rx_H → Option (Nat × rx_H)} (hZ : zO b e D A X) (hg : ∀ i y M, vl15[i]? = some (y, M) → rx_Met (zV b e D A X) dn y M (g i)) (hd : 2 ≤ dn) (j : Nat → rx_K) (hj : ∀ k pc, [7, 86][k]? = some pc → rx_OK (zV b e D A X) mX13_copies (dn + 1) pc (j k)) : rx_OK (zV b e D A X) mX13_copies (dn + 1) 0 (vX13_copies_0 g j) := by
  unfold vX13_copies_0
  refine s_aload_n hZ.1 dX13_copies_0 rfl ?_
  refine yg13_108 dX13_copies_1 zw4228 ?_
  refine s_istore_n hZ.1 dX13_copies_4 rfl (Nat.le_of_ble_eq_true rfl) ?_
  refine s_iload_n hZ.1 dX13_copies_5 rfl ?_
  refine s_istore_n hZ.1 dX13_copies_6 rfl (Nat.le_of_ble_eq_true rfl) ?_
  exact (wX13_copies_7 hZ hg hd j hj)
noncomputable def vhX13_copies (g : Nat → List Nat → rx_H → Option (Nat × rx_H)) (j : Nat → rx_K) : List rx_K := [vX13_copies_7 g j, vX13_copies_86 g j]
theorem vlX13_copies {dn : Nat} {g : Nat → List Nat → rx_H → Option (Nat × rx_H)} (hZ : zO b e D A X) (hg : ∀ i y M, vl15[i]? = some (y, M) → rx_Met (zV b e D A X) dn y M (g i)) (hd : 2 ≤ dn) : ∀ n k pc, [7, 86][k]? = some pc → rx_OK (zV b e D A X) mX13_copies (dn + 1) pc (rx_J (vhX13_copies g) n k) := rx_loop fun j hj k pc h => by
  match k, h with
  | 0, h =>
    have e9 := Option.some.inj (show some 7 = some pc from h)
    subst e9
    exact wX13_copies_7 hZ hg hd j hj
  | 1, h =>
    have e9 := Option.some.inj (show some 86 = some pc from h)
    subst e9
    exact wX13_copies_86 hZ hg hd j hj
  | _ + 2, h => exact absurd h (by simp)
noncomputable def FX13_copies (g : Nat → List Nat → rx_H → Option (Nat × rx_H)) : List Nat → rx_H → Option (Nat × rx_H) := rx_ent 4 (vX13_copies_0 g (rx_J (vhX13_copies g) 4000000000))
theorem Met_X13_copies {dn : Nat} {g : Nat → List Nat → rx_H → Option (Nat × rx_H)} (hZ : zO b e D A X) (hg : ∀ i y M, vl15[i]? = some (y, M) → rx_Met (zV b e D A X) dn y M (g i)) (hd : 2 ≤ dn) : rx_Met (zV b e D A X) (dn + 1) yX13_copies mX13_copies (FX13_copies g) := rx_entry hZ.1 (wX13_copies_0 hZ hg hd _ (vlX13_copies hZ hg hd 4000000000)) (by decide +kernel) rfl (fun h => by cases h)
noncomputable def q15 (n : Nat) : Nat → List Nat → rx_H → Option (Nat × rx_H) := Nat.rec (fun _ _ _ => none) (fun _ ih i => rx_nth [FX13_copies ih] i (fun _ _ => none)) n
theorem q15_ok (hZ : zO b e D A X) : ∀ n i y M, vl15[i]? = some (y, M) → rx_Met (zV b e D A X) (2 + n) y M (q15 n i)
  | 0 => fun i y M _ As h r h2 hf => by cases hf
  | n + 1 => fun i y M h => by
    match i, h with
    | 0, h => cases h; exact Met_X13_copies hZ (q15_ok hZ n) (Nat.le_add_right 2 n)
    | _ + 1, h => exact absurd h (by simp)
abbrev mX13_callUse : rx_M := (RX13, cX13_callUse, 5, (some .int), false)
theorem vy_X13_callUse : rx_Y (zV b e D A X) yX13_callUse mX13_callUse 1 := ⟨zw3558, zw431, by decide, by decide +kernel, by decide +kernel, by decide +kernel⟩
noncomputable def vX13_callUse_71 : rx_K := o_st rx_isI 4 (o_ld rx_isR 0 (o_ld rx_isI 1 (o_ld rx_isI 4 (o_ld rx_isR 0 (o_getf 13 83 (o_ld rx_isI 1 (o_ald 1 (o_ld rx_isR 0 (o_getf 13 74 (o_ld rx_isI 1 (o_ald 1 (o_ld rx_isR 0 (o_getf 13 84 (o_ld rx_isI 1 (o_ald 1 (o_callV 5 13 FX13_useOf (o_ret1 rx_isI)))))))))))))))))
set_option maxRecDepth 20000 in
theorem wX13_callUse_71 (hZ : zO b e D A X) : rx_OK (zV b e D A X) mX13_callUse 2 71 vX13_callUse_71 := by
  unfold vX13_callUse_71
  refine s_istore hZ.1 dX13_callUse_71 (Nat.le_of_ble_eq_true rfl) ?_
  refine s_aload_n hZ.1 dX13_callUse_73 rfl ?_
  refine s_iload_n hZ.1 dX13_callUse_74 rfl ?_
  refine s_iload hZ.1 dX13_callUse_75 ?_
  refine s_aload_n hZ.1 dX13_callUse_77 rfl ?_
  refine yg13_83 dX13_callUse_78 zw4204 ?_
  refine s_iload_n hZ.1 dX13_callUse_81 rfl ?_
  refine s_lald (tt := 1) rfl dX13_callUse_82 ?_
  refine s_aload_n hZ.1 dX13_callUse_83 rfl ?_
  refine yg13_74 dX13_callUse_84 zw4195 ?_
  refine s_iload_n hZ.1 dX13_callUse_87 rfl ?_
  refine s_lald (tt := 1) rfl dX13_callUse_88 ?_
  refine s_aload_n hZ.1 dX13_callUse_89 rfl ?_
  refine yg13_84 dX13_callUse_90 zw4205 ?_
  refine s_iload_n hZ.1 dX13_callUse_93 rfl ?_
  refine s_lald (tt := 1) rfl dX13_callUse_94 ?_
  refine s_callV hZ.1 (Met_X13_useOf hZ) (Nat.le_of_ble_eq_true rfl) vy_X13_useOf zcl13 zw3561 zw314 (Or.inl zw3559) dX13_callUse_95 ?_
  exact s_iret hZ.1 rfl dX13_callUse_98
noncomputable def vX13_callUse_70 : rx_K := o_bi (fun x y => x + y) (vX13_callUse_71)
set_option maxRecDepth 20000 in
theorem wX13_callUse_70 (hZ : zO b e D A X) : rx_OK (zV b e D A X) mX13_callUse 2 70 vX13_callUse_70 := by
  unfold vX13_callUse_70
  refine s_iadd dX13_callUse_70 ?_
  exact (wX13_callUse_71 hZ)
noncomputable def vX13_callUse_69 : rx_K := o_const 0 (vX13_callUse_70)
set_option maxRecDepth 20000 in
theorem wX13_callUse_69 (hZ : zO b e D A X) : rx_OK (zV b e D A X) mX13_callUse 2 69 vX13_callUse_69 := by
  unfold vX13_callUse_69
  refine s_iconst dX13_callUse_69 (by decide +kernel) ?_
  exact (wX13_callUse_70 hZ)
noncomputable def vX13_callUse_65 : rx_K := o_const 16 (vX13_callUse_70)
set_option maxRecDepth 20000 in
theorem wX13_callUse_65 (hZ : zO b e D A X) : rx_OK (zV b e D A X) mX13_callUse 2 65 vX13_callUse_65 := by
  unfold vX13_callUse_65
  refine s_iconst dX13_callUse_65 (by decide +kernel) ?_
  exact s_goto dX13_callUse_66 (by decide) (wX13_callUse_70 hZ)
noncomputable def vX13_callUse_55 : rx_K := o_ld rx_isR 0 (o_getf 13 82 (o_ld rx_isI 1 (o_ald 0 (o_const 8 (o_c2 rx_eq vX13_callUse_65 vX13_callUse_69)))))
set_option maxRecDepth 20000 in
theorem wX13_callUse_55 (hZ : zO b e D A X) : rx_OK (zV b e D A X) mX13_callUse 2 55 vX13_callUse_55 := by
  unfold vX13_callUse_55
  refine s_aload_n hZ.1 dX13_callUse_55 rfl ?_
  refine yg13_82 dX13_callUse_56 zw4203 ?_
  refine s_iload_n hZ.1 dX13_callUse_59 rfl ?_
  refine s_iald (tt := 0) rfl dX13_callUse_60 ?_
  refine s_iconst dX13_callUse_61 (by decide +kernel) ?_
  exact s_icmp_ne dX13_callUse_62 (by decide) (wX13_callUse_69 hZ) (wX13_callUse_65 hZ)
noncomputable def vX13_callUse_53 : rx_K := o_const 56 (vX13_callUse_55)
set_option maxRecDepth 20000 in
theorem wX13_callUse_53 (hZ : zO b e D A X) : rx_OK (zV b e D A X) mX13_callUse 2 53 vX13_callUse_53 := by
  unfold vX13_callUse_53
  refine s_bipush dX13_callUse_53 (by decide +kernel) ?_
  exact (wX13_callUse_55 hZ)
noncomputable def vX13_callUse_48 : rx_K := o_const 64 (vX13_callUse_55)
set_option maxRecDepth 20000 in
theorem wX13_callUse_48 (hZ : zO b e D A X) : rx_OK (zV b e D A X) mX13_callUse 2 48 vX13_callUse_48 := by
  unfold vX13_callUse_48
  refine s_bipush dX13_callUse_48 (by decide +kernel) ?_
  exact s_goto dX13_callUse_50 (by decide) (wX13_callUse_55 hZ)
noncomputable def vX13_callUse_44 : rx_K := o_ld rx_isI 3 (o_c1 rx_eq vX13_callUse_53 vX13_callUse_48)
set_option maxRecDepth 20000 in
theorem wX13_callUse_44 (hZ : zO b e D A X) : rx_OK (zV b e D A X) mX13_callUse 2 44 vX13_callUse_44 := by
  unfold vX13_callUse_44
  refine s_iload_n hZ.1 dX13_callUse_44 rfl ?_
  exact s_if_eq dX13_callUse_45 (by decide) (wX13_callUse_53 hZ) (wX13_callUse_48 hZ)
noncomputable def vX13_callUse_39 : rx_K := o_const 96 (vX13_callUse_71)
set_option maxRecDepth 20000 in
theorem wX13_callUse_39 (hZ : zO b e D A X) : rx_OK (zV b e D A X) mX13_callUse 2 39 vX13_callUse_39 := by
  unfold vX13_callUse_39
  refine s_bipush dX13_callUse_39 (by decide +kernel) ?_
  exact s_goto dX13_callUse_41 (by decide) (wX13_callUse_71 hZ)
noncomputable def vX13_callUse_33 : rx_K := o_ld rx_isI 2 (o_const 56 (o_c2 rx_eq vX13_callUse_39 vX13_callUse_44))
set_option maxRecDepth 20000 in
theorem wX13_callUse_33 (hZ : zO b e D A X) : rx_OK (zV b e D A X) mX13_callUse 2 33 vX13_callUse_33 := by
  unfold vX13_callUse_33
  refine s_iload_n hZ.1 dX13_callUse_33 rfl ?_
  refine s_bipush dX13_callUse_34 (by decide +kernel) ?_
  exact s_icmp_ne dX13_callUse_36 (by decide) (wX13_callUse_44 hZ) (wX13_callUse_39 hZ)
noncomputable def vX13_callUse_28 : rx_K := o_const 88 (vX13_callUse_71)
set_option maxRecDepth 20000 in
theorem wX13_callUse_28 (hZ : zO b e D A X) : rx_OK (zV b e D A X) mX13_callUse 2 28 vX13_callUse_28 := by
  unfold vX13_callUse_28
  refine s_bipush dX13_callUse_28 (by decide +kernel) ?_
  exact s_goto dX13_callUse_30 (by decide) (wX13_callUse_71 hZ)
noncomputable def vX13_callUse_0 : rx_K := o_ld rx_isR 0 (o_getf 13 70 (o_ld rx_isI 1 (o_ald 0 (o_st rx_isI 2 (o_ld rx_isR 0 (o_ld rx_isR 0 (o_ld rx_isR 0 (o_getf 13 83 (o_ld rx_isI 1 (o_ald 1 (o_callV 1 13 FX13_find (o_callV 1 13 FX13_isFace (o_st rx_isI 3 (o_ld rx_isI 2 (o_const 64 (o_c2 rx_eq vX13_callUse_28 vX13_callUse_33))))))))))))))))
set_option maxRecDepth 20000 in
theorem wX13_callUse_0 (hZ : zO b e D A X) : rx_OK (zV b e D A X) mX13_callUse 2 0 vX13_callUse_0 := by
  unfold vX13_callUse_0
  refine s_aload_n hZ.1 dX13_callUse_0 rfl ?_
  refine yg13_70 dX13_callUse_1 zw4191 ?_
  refine s_iload_n hZ.1 dX13_callUse_4 rfl ?_
  refine s_iald (tt := 0) rfl dX13_callUse_5 ?_
  refine s_istore_n hZ.1 dX13_callUse_6 rfl (Nat.le_of_ble_eq_true rfl) ?_
  refine s_aload_n hZ.1 dX13_callUse_7 rfl ?_
  refine s_aload_n hZ.1 dX13_callUse_8 rfl ?_
  refine s_aload_n hZ.1 dX13_callUse_9 rfl ?_
  refine yg13_83 dX13_callUse_10 zw4204 ?_
  refine s_iload_n hZ.1 dX13_callUse_13 rfl ?_
  refine s_lald (tt := 1) rfl dX13_callUse_14 ?_
  refine s_callV hZ.1 (Met_X13_find hZ) (Nat.le_of_ble_eq_true rfl) vy_X13_find zcl13 zw3186 zw226 (Or.inl zw3184) dX13_callUse_15 ?_
  refine s_callV hZ.1 (Met_X13_isFace hZ) (Nat.le_of_ble_eq_true rfl) vy_X13_isFace zcl13 zw3192 zw227 (Or.inl zw3190) dX13_callUse_18 ?_
  refine s_istore_n hZ.1 dX13_callUse_21 rfl (Nat.le_of_ble_eq_true rfl) ?_
  refine s_iload_n hZ.1 dX13_callUse_22 rfl ?_
  refine s_bipush dX13_callUse_23 (by decide +kernel) ?_
  exact s_icmp_ne dX13_callUse_25 (by decide) (wX13_callUse_33 hZ) (wX13_callUse_28 hZ)
noncomputable def FX13_callUse : List Nat → rx_H → Option (Nat × rx_H) := rx_ent 5 vX13_callUse_0
theorem Met_X13_callUse (hZ : zO b e D A X) : rx_Met (zV b e D A X) 2 yX13_callUse mX13_callUse (FX13_callUse) := rx_entry hZ.1 (wX13_callUse_0 hZ) (by decide +kernel) rfl (fun h => by cases h)
abbrev mX13_fieldUse : rx_M := (RX13, cX13_fieldUse, 3, (some .int), false)
theorem vy_X13_fieldUse : rx_Y (zV b e D A X) yX13_fieldUse mX13_fieldUse 2 := ⟨zw3546, zw431, by decide, by decide +kernel, by decide +kernel, by decide +kernel⟩
noncomputable def vX13_fieldUse_41 : rx_K := o_ld rx_isR 0 (o_getf 13 83 (o_ld rx_isI 1 (o_ald 1 (o_ld rx_isR 0 (o_getf 13 74 (o_ld rx_isI 1 (o_ald 1 (o_ld rx_isR 0 (o_getf 13 84 (o_ld rx_isI 1 (o_ald 1 (o_callV 4 13 FX13_useFor (o_ret1 rx_isI)))))))))))))
set_option maxRecDepth 20000 in
theorem wX13_fieldUse_41 (hZ : zO b e D A X) : rx_OK (zV b e D A X) mX13_fieldUse 2 41 vX13_fieldUse_41 := by
  unfold vX13_fieldUse_41
  refine s_aload_n hZ.1 dX13_fieldUse_41 rfl ?_
  refine yg13_83 dX13_fieldUse_42 zw4204 ?_
  refine s_iload_n hZ.1 dX13_fieldUse_45 rfl ?_
  refine s_lald (tt := 1) rfl dX13_fieldUse_46 ?_
  refine s_aload_n hZ.1 dX13_fieldUse_47 rfl ?_
  refine yg13_74 dX13_fieldUse_48 zw4195 ?_
  refine s_iload_n hZ.1 dX13_fieldUse_51 rfl ?_
  refine s_lald (tt := 1) rfl dX13_fieldUse_52 ?_
  refine s_aload_n hZ.1 dX13_fieldUse_53 rfl ?_
  refine yg13_84 dX13_fieldUse_54 zw4205 ?_
  refine s_iload_n hZ.1 dX13_fieldUse_57 rfl ?_
  refine s_lald (tt := 1) rfl dX13_fieldUse_58 ?_
  refine s_callV hZ.1 (Met_X13_useFor hZ) (Nat.le_of_ble_eq_true rfl) vy_X13_useFor zcl13 zw3513 zw302 (Or.inl zw3511) dX13_fieldUse_59 ?_
  exact s_iret hZ.1 rfl dX13_fieldUse_62
noncomputable def vX13_fieldUse_38 : rx_K := o_ld rx_isI 2 (o_const 16 (o_bi (fun x y => x + y) (vX13_fieldUse_41)))
set_option maxRecDepth 20000 in
theorem wX13_fieldUse_38 (hZ : zO b e D A X) : rx_OK (zV b e D A X) mX13_fieldUse 2 38 vX13_fieldUse_38 := by
  unfold vX13_fieldUse_38
  refine s_iload_n hZ.1 dX13_fieldUse_38 rfl ?_
  refine s_iconst dX13_fieldUse_39 (by decide +kernel) ?_
  refine s_iadd dX13_fieldUse_40 ?_
  exact (wX13_fieldUse_41 hZ)
noncomputable def vX13_fieldUse_34 : rx_K := o_ld rx_isI 2 (vX13_fieldUse_41)
set_option maxRecDepth 20000 in
theorem wX13_fieldUse_34 (hZ : zO b e D A X) : rx_OK (zV b e D A X) mX13_fieldUse 2 34 vX13_fieldUse_34 := by
  unfold vX13_fieldUse_34
  refine s_iload_n hZ.1 dX13_fieldUse_34 rfl ?_
  exact s_goto dX13_fieldUse_35 (by decide) (wX13_fieldUse_41 hZ)
noncomputable def vX13_fieldUse_22 : rx_K := o_ld rx_isR 0 (o_ld rx_isR 0 (o_getf 13 82 (o_ld rx_isI 1 (o_ald 0 (o_const 34359738272 (o_c2 rx_eq vX13_fieldUse_34 vX13_fieldUse_38))))))
set_option maxRecDepth 20000 in
theorem wX13_fieldUse_22 (hZ : zO b e D A X) : rx_OK (zV b e D A X) mX13_fieldUse 2 22 vX13_fieldUse_22 := by
  unfold vX13_fieldUse_22
  refine s_aload_n hZ.1 dX13_fieldUse_22 rfl ?_
  refine s_aload_n hZ.1 dX13_fieldUse_23 rfl ?_
  refine yg13_82 dX13_fieldUse_24 zw4203 ?_
  refine s_iload_n hZ.1 dX13_fieldUse_27 rfl ?_
  refine s_iald (tt := 0) rfl dX13_fieldUse_28 ?_
  refine s_bipush dX13_fieldUse_29 (by decide +kernel) ?_
  exact s_icmp_ne dX13_fieldUse_31 (by decide) (wX13_fieldUse_38 hZ) (wX13_fieldUse_34 hZ)
noncomputable def vX13_fieldUse_16 : rx_K := o_ld rx_isR 0 (o_ld rx_isI 1 (o_callV 1 13 FX13_copyOf (o_ret1 rx_isI)))
set_option maxRecDepth 20000 in
theorem wX13_fieldUse_16 (hZ : zO b e D A X) : rx_OK (zV b e D A X) mX13_fieldUse 2 16 vX13_fieldUse_16 := by
  unfold vX13_fieldUse_16
  refine s_aload_n hZ.1 dX13_fieldUse_16 rfl ?_
  refine s_iload_n hZ.1 dX13_fieldUse_17 rfl ?_
  refine s_callV hZ.1 (Met_X13_copyOf hZ) (Nat.le_of_ble_eq_true rfl) vy_X13_copyOf zcl13 zw3533 zw307 (Or.inl zw3531) dX13_fieldUse_18 ?_
  exact s_iret hZ.1 rfl dX13_fieldUse_21
noncomputable def vX13_fieldUse_11 : rx_K := o_ld rx_isI 2 (o_const 24 (o_c2 rx_eq vX13_fieldUse_16 vX13_fieldUse_22))
set_option maxRecDepth 20000 in
theorem wX13_fieldUse_11 (hZ : zO b e D A X) : rx_OK (zV b e D A X) mX13_fieldUse 2 11 vX13_fieldUse_11 := by
  unfold vX13_fieldUse_11
  refine s_iload_n hZ.1 dX13_fieldUse_11 rfl ?_
  refine s_iconst dX13_fieldUse_12 (by decide +kernel) ?_
  exact s_icmp_ne dX13_fieldUse_13 (by decide) (wX13_fieldUse_22 hZ) (wX13_fieldUse_16 hZ)
noncomputable def vX13_fieldUse_0 : rx_K := o_ld rx_isR 0 (o_getf 13 82 (o_ld rx_isI 1 (o_ald 0 (o_const 34359738288 (o_c2 rx_eq vX13_fieldUse_11 vX13_fieldUse_22)))))
set_option maxRecDepth 20000 in
theorem wX13_fieldUse_0 (hZ : zO b e D A X) : rx_OK (zV b e D A X) mX13_fieldUse 2 0 vX13_fieldUse_0 := by
  unfold vX13_fieldUse_0
  refine s_aload_n hZ.1 dX13_fieldUse_0 rfl ?_
  refine yg13_82 dX13_fieldUse_1 zw4203 ?_
  refine s_iload_n hZ.1 dX13_fieldUse_4 rfl ?_
  refine s_iald (tt := 0) rfl dX13_fieldUse_5 ?_
  refine s_bipush dX13_fieldUse_6 (by decide +kernel) ?_
  exact s_icmp_ne dX13_fieldUse_8 (by decide) (wX13_fieldUse_22 hZ) (wX13_fieldUse_11 hZ)
noncomputable def FX13_fieldUse : List Nat → rx_H → Option (Nat × rx_H) := rx_ent 3 vX13_fieldUse_0
theorem Met_X13_fieldUse (hZ : zO b e D A X) : rx_Met (zV b e D A X) 2 yX13_fieldUse mX13_fieldUse (FX13_fieldUse) := rx_entry hZ.1 (wX13_fieldUse_0 hZ) (by decide +kernel) rfl (fun h => by cases h)
abbrev mX13_usesArgs : rx_M := (RX13, cX13_usesArgs, 5, none, false)
theorem vy_X13_usesArgs : rx_Y (zV b e D A X) yX13_usesArgs mX13_usesArgs 2 := ⟨zw3550, zw431, by decide, by decide +kernel, by decide +kernel, by decide +kernel⟩
abbrev mX13_usesE : rx_M := (RX13, cX13_usesE, 4, none, false)
theorem vy_X13_usesE : rx_Y (zV b e D A X) yX13_usesE mX13_usesE 1 := ⟨zw3538, zw431, by decide, by decide +kernel, by decide +kernel, by decide +kernel⟩
abbrev mX13_usesLeaf : rx_M := (RX13, cX13_usesLeaf, 2, none, false)
theorem vy_X13_usesLeaf : rx_Y (zV b e D A X) yX13_usesLeaf mX13_usesLeaf 1 := ⟨zw3542, zw431, by decide, by decide +kernel, by decide +kernel, by decide +kernel⟩
abbrev vl16 : List (MethodName × rx_M) := [(yX13_usesArgs, mX13_usesArgs), (yX13_usesE, mX13_usesE), (yX13_usesLeaf, mX13_usesLeaf)]
noncomputable def vX13_usesArgs_49 (g : Nat → List Nat → rx_H → Option (Nat × rx_H)) (j : Nat → rx_K) : rx_K := o_ret0
set_option maxRecDepth 20000 in
theorem wX13_usesArgs_49 {dn : Nat} {g : Nat → List Nat → rx_H → Option (Nat × rx_H)} (hZ : zO b e D A X) (hg : ∀ i y M, vl16[i]? = some (y, M) → rx_Met (zV b e D A X) dn y M (g i)) (hd : 3 ≤ dn) (j : Nat → rx_K) (hj : ∀ k pc, [5][k]? = some pc → rx_OK (zV b e D A X) mX13_usesArgs (dn + 1) pc (j k)) : rx_OK (zV b e D A X) mX13_usesArgs (dn + 1) 49 (vX13_usesArgs_49 g j) := by
  unfold vX13_usesArgs_49
  exact s_vret rfl dX13_usesArgs_49
noncomputable def vX13_usesArgs_12 (g : Nat → List Nat → rx_H → Option (Nat × rx_H)) (j : Nat → rx_K) : rx_K := o_ld rx_isR 0 (o_ld rx_isI 4 (o_callV 1 13 (g 1) (o_ld rx_isR 0 (o_ld rx_isI 4 (o_ld rx_isR 0 (o_getf 13 86 (o_const 32 (o_ld rx_isI 2 (o_bi (fun x y => x * y) (o_ld rx_isI 3 (o_bi (fun x y => x + y) (o_ald 1 (o_callV 2 13 FX13_fit (o_inc 3 (1) (o_ld rx_isR 0 (o_getf 13 80 (o_ld rx_isI 4 (o_ald 0 (o_st rx_isI 4 ((j 0)))))))))))))))))))))
set_option maxRecDepth 20000 in
theorem wX13_usesArgs_12 {dn : Nat} {g : Nat → List Nat → rx_H → Option (Nat × rx_H)} (hZ : zO b e D A X) (hg : ∀ i y M, vl16[i]? = some (y, M) → rx_Met (zV b e D A X) dn y M (g i)) (hd : 3 ≤ dn) (j : Nat → rx_K) (hj : ∀ k pc, [5][k]? = some pc → rx_OK (zV b e D A X) mX13_usesArgs (dn + 1) pc (j k)) : rx_OK (zV b e D A X) mX13_usesArgs (dn + 1) 12 (vX13_usesArgs_12 g j) := by
  unfold vX13_usesArgs_12
  refine s_aload_n hZ.1 dX13_usesArgs_12 rfl ?_
  refine s_iload hZ.1 dX13_usesArgs_13 ?_
  refine s_callV hZ.1 (hg 1 _ _ rfl) (Nat.le_refl _) vy_X13_usesE zcl13 zw3537 zw308 (Or.inl zw3535) dX13_usesArgs_15 ?_
  refine s_aload_n hZ.1 dX13_usesArgs_18 rfl ?_
  refine s_iload hZ.1 dX13_usesArgs_19 ?_
  refine s_aload_n hZ.1 dX13_usesArgs_21 rfl ?_
  refine yg13_86 dX13_usesArgs_22 zw4207 ?_
  refine s_iconst dX13_usesArgs_25 (by decide +kernel) ?_
  refine s_iload_n hZ.1 dX13_usesArgs_26 rfl ?_
  refine s_imul dX13_usesArgs_27 ?_
  refine s_iload_n hZ.1 dX13_usesArgs_28 rfl ?_
  refine s_iadd dX13_usesArgs_29 ?_
  refine s_lald (tt := 1) rfl dX13_usesArgs_30 ?_
  refine s_callV hZ.1 (Met_X13_fit hZ) (Nat.succ_le_succ (Nat.le_trans (Nat.le_of_ble_eq_true rfl) hd)) vy_X13_fit zcl13 zw3553 zw312 (Or.inl zw3551) dX13_usesArgs_31 ?_
  refine s_iinc hZ.1 dX13_usesArgs_34 (Nat.le_of_ble_eq_true rfl) ?_
  refine s_aload_n hZ.1 dX13_usesArgs_37 rfl ?_
  refine yg13_80 dX13_usesArgs_38 zw4201 ?_
  refine s_iload hZ.1 dX13_usesArgs_41 ?_
  refine s_iald (tt := 0) rfl dX13_usesArgs_43 ?_
  refine s_istore hZ.1 dX13_usesArgs_44 (Nat.le_of_ble_eq_true rfl) ?_
  exact s_goto dX13_usesArgs_46 (by decide) (hj 0 5 rfl)
noncomputable def vX13_usesArgs_5 (g : Nat → List Nat → rx_H → Option (Nat × rx_H)) (j : Nat → rx_K) : rx_K := o_ld rx_isI 4 (o_const 34359738352 (o_c2 rx_eq (vX13_usesArgs_49 g j) (vX13_usesArgs_12 g j)))
set_option maxRecDepth 20000 in
theorem wX13_usesArgs_5 {dn : Nat} {g : Nat → List Nat → rx_H → Option (Nat × rx_H)} (hZ : zO b e D A X) (hg : ∀ i y M, vl16[i]? = some (y, M) → rx_Met (zV b e D A X) dn y M (g i)) (hd : 3 ≤ dn) (j : Nat → rx_K) (hj : ∀ k pc, [5][k]? = some pc → rx_OK (zV b e D A X) mX13_usesArgs (dn + 1) pc (j k)) : rx_OK (zV b e D A X) mX13_usesArgs (dn + 1) 5 (vX13_usesArgs_5 g j) := by
  unfold vX13_usesArgs_5
  refine s_iload hZ.1 dX13_usesArgs_5 ?_
  refine s_bipush dX13_usesArgs_7 (by decide +kernel) ?_
  exact s_icmp_eq dX13_usesArgs_9 (by decide) (wX13_usesArgs_49 hZ hg hd j hj) (wX13_usesArgs_12 hZ hg hd j hj)
noncomputable def vX13_usesArgs_0 (g : Nat → List Nat → rx_H → Option (Nat × rx_H)) (j : Nat → rx_K) : rx_K := o_const 0 (o_st rx_isI 3 (o_ld rx_isI 1 (o_st rx_isI 4 ((vX13_usesArgs_5 g j)))))
set_option maxRecDepth 20000 in
theorem wX13_usesArgs_0 {dn : Nat} {g : Nat → List Nat → rx_H → Option (Nat × rx_H)} (hZ : zO b e D A X) (hg : ∀ i y M, vl16[i]? = some (y, M) → rx_Met (zV b e D A X) dn y M (g i)) (hd : 3 ≤ dn) (j : Nat → rx_K) (hj : ∀ k pc, [5][k]? = some pc → rx_OK (zV b e D A X) mX13_usesArgs (dn + 1) pc (j k)) : rx_OK (zV b e D A X) mX13_usesArgs (dn + 1) 0 (vX13_usesArgs_0 g j) := by
  unfold vX13_usesArgs_0
  refine s_iconst dX13_usesArgs_0 (by decide +kernel) ?_
  refine s_istore_n hZ.1 dX13_usesArgs_1 rfl (Nat.le_of_ble_eq_true rfl) ?_
  refine s_iload_n hZ.1 dX13_usesArgs_2 rfl ?_
  refine s_istore hZ.1 dX13_usesArgs_3 (Nat.le_of_ble_eq_true rfl) ?_
  exact (wX13_usesArgs_5 hZ hg hd j hj)
noncomputable def vhX13_usesArgs (g : Nat → List Nat → rx_H → Option (Nat × rx_H)) (j : Nat → rx_K) : List rx_K := [vX13_usesArgs_5 g j]
theorem vlX13_usesArgs {dn : Nat} {g : Nat → List Nat → rx_H → Option (Nat × rx_H)} (hZ : zO b e D A X) (hg : ∀ i y M, vl16[i]? = some (y, M) → rx_Met (zV b e D A X) dn y M (g i)) (hd : 3 ≤ dn) : ∀ n k pc, [5][k]? = some pc → rx_OK (zV b e D A X) mX13_usesArgs (dn + 1) pc (rx_J (vhX13_usesArgs g) n k) := rx_loop fun j hj k pc h => by
  match k, h with
  | 0, h =>
    have e9 := Option.some.inj (show some 5 = some pc from h)
    subst e9
    exact wX13_usesArgs_5 hZ hg hd j hj
  | _ + 1, h => exact absurd h (by simp)
noncomputable def FX13_usesArgs (g : Nat → List Nat → rx_H → Option (Nat × rx_H)) : List Nat → rx_H → Option (Nat × rx_H) := rx_ent 5 (vX13_usesArgs_0 g (rx_J (vhX13_usesArgs g) 4000000000))
theorem Met_X13_usesArgs {dn : Nat} {g : Nat → List Nat → rx_H → Option (Nat × rx_H)} (hZ : zO b e D A X) (hg : ∀ i y M, vl16[i]? = some (y, M) → rx_Met (zV b e D A X) dn y M (g i)) (hd : 3 ≤ dn) : rx_Met (zV b e D A X) (dn + 1) yX13_usesArgs mX13_usesArgs (FX13_usesArgs g) := rx_entry hZ.1 (wX13_usesArgs_0 hZ hg hd _ (vlX13_usesArgs hZ hg hd 4000000000)) (by decide +kernel) rfl (fun h => by cases h)
noncomputable def vX13_usesE_247 (g : Nat → List Nat → rx_H → Option (Nat × rx_H)) (j : Nat → rx_K) : rx_K := o_ret0
set_option maxRecDepth 20000 in
theorem wX13_usesE_247 {dn : Nat} {g : Nat → List Nat → rx_H → Option (Nat × rx_H)} (hZ : zO b e D A X) (hg : ∀ i y M, vl16[i]? = some (y, M) → rx_Met (zV b e D A X) dn y M (g i)) (hd : 3 ≤ dn) (j : Nat → rx_K) (hj : ∀ k pc, [7, 98][k]? = some pc → rx_OK (zV b e D A X) mX13_usesE (dn + 1) pc (j k)) : rx_OK (zV b e D A X) mX13_usesE (dn + 1) 247 (vX13_usesE_247 g j) := by
  unfold vX13_usesE_247
  exact s_vret rfl dX13_usesE_247
noncomputable def vX13_usesE_224 (g : Nat → List Nat → rx_H → Option (Nat × rx_H)) (j : Nat → rx_K) : rx_K := o_ld rx_isR 0 (o_getf 13 87 (o_ld rx_isI 3 (o_ld rx_isR 0 (o_const 112 (o_ld rx_isR 0 (o_getf 13 75 (o_ld rx_isI 3 (o_ald 1 (o_const 1 (o_const 1 (o_callV 4 13 FX13_useFor (o_ast 0 (fun v => v) rx_isI ((j 1))))))))))))))
set_option maxRecDepth 20000 in
theorem wX13_usesE_224 {dn : Nat} {g : Nat → List Nat → rx_H → Option (Nat × rx_H)} (hZ : zO b e D A X) (hg : ∀ i y M, vl16[i]? = some (y, M) → rx_Met (zV b e D A X) dn y M (g i)) (hd : 3 ≤ dn) (j : Nat → rx_K) (hj : ∀ k pc, [7, 98][k]? = some pc → rx_OK (zV b e D A X) mX13_usesE (dn + 1) pc (j k)) : rx_OK (zV b e D A X) mX13_usesE (dn + 1) 224 (vX13_usesE_224 g j) := by
  unfold vX13_usesE_224
  refine s_aload_n hZ.1 dX13_usesE_224 rfl ?_
  refine yg13_87 dX13_usesE_225 zw4208 ?_
  refine s_iload_n hZ.1 dX13_usesE_228 rfl ?_
  refine s_aload_n hZ.1 dX13_usesE_229 rfl ?_
  refine s_bipush dX13_usesE_230 (by decide +kernel) ?_
  refine s_aload_n hZ.1 dX13_usesE_232 rfl ?_
  refine yg13_75 dX13_usesE_233 zw4196 ?_
  refine s_iload_n hZ.1 dX13_usesE_236 rfl ?_
  refine s_lald (tt := 1) rfl dX13_usesE_237 ?_
  refine s_lconst dX13_usesE_238 (by decide +kernel) ?_
  refine s_lconst dX13_usesE_239 (by decide +kernel) ?_
  refine s_callV hZ.1 (Met_X13_useFor hZ) (Nat.succ_le_succ (Nat.le_trans (Nat.le_of_ble_eq_true rfl) hd)) vy_X13_useFor zcl13 zw3513 zw302 (Or.inl zw3511) dX13_usesE_240 ?_
  refine s_iast hZ.1 (tt := 0) rfl dX13_usesE_243 ?_
  exact s_goto dX13_usesE_244 (by decide) (hj 1 98 rfl)
noncomputable def vX13_usesE_213 (g : Nat → List Nat → rx_H → Option (Nat × rx_H)) (j : Nat → rx_K) : rx_K := o_ld rx_isR 0 (o_getf 13 70 (o_ld rx_isI 3 (o_ald 0 (o_const 112 (o_c2 rx_eq (vX13_usesE_224 g j) (j 1))))))
set_option maxRecDepth 20000 in
theorem wX13_usesE_213 {dn : Nat} {g : Nat → List Nat → rx_H → Option (Nat × rx_H)} (hZ : zO b e D A X) (hg : ∀ i y M, vl16[i]? = some (y, M) → rx_Met (zV b e D A X) dn y M (g i)) (hd : 3 ≤ dn) (j : Nat → rx_K) (hj : ∀ k pc, [7, 98][k]? = some pc → rx_OK (zV b e D A X) mX13_usesE (dn + 1) pc (j k)) : rx_OK (zV b e D A X) mX13_usesE (dn + 1) 213 (vX13_usesE_213 g j) := by
  unfold vX13_usesE_213
  refine s_aload_n hZ.1 dX13_usesE_213 rfl ?_
  refine yg13_70 dX13_usesE_214 zw4191 ?_
  refine s_iload_n hZ.1 dX13_usesE_217 rfl ?_
  refine s_iald (tt := 0) rfl dX13_usesE_218 ?_
  refine s_bipush dX13_usesE_219 (by decide +kernel) ?_
  exact s_icmp_ne dX13_usesE_221 (by decide) (hj 1 98 rfl) (wX13_usesE_224 hZ hg hd j hj)
noncomputable def vX13_usesE_188 (g : Nat → List Nat → rx_H → Option (Nat × rx_H)) (j : Nat → rx_K) : rx_K := o_ld rx_isR 0 (o_ld rx_isR 0 (o_getf 13 78 (o_ld rx_isI 3 (o_ald 0 (o_ld rx_isI 3 (o_callV 2 13 (g 0) (o_ld rx_isR 0 (o_getf 13 87 (o_ld rx_isI 3 (o_ld rx_isR 0 (o_ld rx_isI 3 (o_callV 1 13 FX13_callUse (o_ast 0 (fun v => v) rx_isI ((j 1)))))))))))))))
set_option maxRecDepth 20000 in
theorem wX13_usesE_188 {dn : Nat} {g : Nat → List Nat → rx_H → Option (Nat × rx_H)} (hZ : zO b e D A X) (hg : ∀ i y M, vl16[i]? = some (y, M) → rx_Met (zV b e D A X) dn y M (g i)) (hd : 3 ≤ dn) (j : Nat → rx_K) (hj : ∀ k pc, [7, 98][k]? = some pc → rx_OK (zV b e D A X) mX13_usesE (dn + 1) pc (j k)) : rx_OK (zV b e D A X) mX13_usesE (dn + 1) 188 (vX13_usesE_188 g j) := by
  unfold vX13_usesE_188
  refine s_aload_n hZ.1 dX13_usesE_188 rfl ?_
  refine s_aload_n hZ.1 dX13_usesE_189 rfl ?_
  refine yg13_78 dX13_usesE_190 zw4199 ?_
  refine s_iload_n hZ.1 dX13_usesE_193 rfl ?_
  refine s_iald (tt := 0) rfl dX13_usesE_194 ?_
  refine s_iload_n hZ.1 dX13_usesE_195 rfl ?_
  refine s_callV hZ.1 (hg 0 _ _ rfl) (Nat.le_refl _) vy_X13_usesArgs zcl13 zw3549 zw311 (Or.inl zw3547) dX13_usesE_196 ?_
  refine s_aload_n hZ.1 dX13_usesE_199 rfl ?_
  refine yg13_87 dX13_usesE_200 zw4208 ?_
  refine s_iload_n hZ.1 dX13_usesE_203 rfl ?_
  refine s_aload_n hZ.1 dX13_usesE_204 rfl ?_
  refine s_iload_n hZ.1 dX13_usesE_205 rfl ?_
  refine s_callV hZ.1 (Met_X13_callUse hZ) (Nat.succ_le_succ (Nat.le_trans (Nat.le_of_ble_eq_true rfl) hd)) vy_X13_callUse zcl13 zw3557 zw313 (Or.inl zw3555) dX13_usesE_206 ?_
  refine s_iast hZ.1 (tt := 0) rfl dX13_usesE_209 ?_
  exact s_goto dX13_usesE_210 (by decide) (hj 1 98 rfl)
noncomputable def vX13_usesE_177 (g : Nat → List Nat → rx_H → Option (Nat × rx_H)) (j : Nat → rx_K) : rx_K := o_ld rx_isR 0 (o_getf 13 70 (o_ld rx_isI 3 (o_ald 0 (o_const 104 (o_c2 rx_eq (vX13_usesE_188 g j) (vX13_usesE_213 g j))))))
set_option maxRecDepth 20000 in
theorem wX13_usesE_177 {dn : Nat} {g : Nat → List Nat → rx_H → Option (Nat × rx_H)} (hZ : zO b e D A X) (hg : ∀ i y M, vl16[i]? = some (y, M) → rx_Met (zV b e D A X) dn y M (g i)) (hd : 3 ≤ dn) (j : Nat → rx_K) (hj : ∀ k pc, [7, 98][k]? = some pc → rx_OK (zV b e D A X) mX13_usesE (dn + 1) pc (j k)) : rx_OK (zV b e D A X) mX13_usesE (dn + 1) 177 (vX13_usesE_177 g j) := by
  unfold vX13_usesE_177
  refine s_aload_n hZ.1 dX13_usesE_177 rfl ?_
  refine yg13_70 dX13_usesE_178 zw4191 ?_
  refine s_iload_n hZ.1 dX13_usesE_181 rfl ?_
  refine s_iald (tt := 0) rfl dX13_usesE_182 ?_
  refine s_bipush dX13_usesE_183 (by decide +kernel) ?_
  exact s_icmp_ne dX13_usesE_185 (by decide) (wX13_usesE_213 hZ hg hd j hj) (wX13_usesE_188 hZ hg hd j hj)
noncomputable def vX13_usesE_162 (g : Nat → List Nat → rx_H → Option (Nat × rx_H)) (j : Nat → rx_K) : rx_K := o_ld rx_isR 0 (o_getf 13 87 (o_ld rx_isI 3 (o_ld rx_isR 0 (o_ld rx_isI 3 (o_const 24 (o_callV 2 13 FX13_fieldUse (o_ast 0 (fun v => v) rx_isI ((j 1)))))))))
set_option maxRecDepth 20000 in
theorem wX13_usesE_162 {dn : Nat} {g : Nat → List Nat → rx_H → Option (Nat × rx_H)} (hZ : zO b e D A X) (hg : ∀ i y M, vl16[i]? = some (y, M) → rx_Met (zV b e D A X) dn y M (g i)) (hd : 3 ≤ dn) (j : Nat → rx_K) (hj : ∀ k pc, [7, 98][k]? = some pc → rx_OK (zV b e D A X) mX13_usesE (dn + 1) pc (j k)) : rx_OK (zV b e D A X) mX13_usesE (dn + 1) 162 (vX13_usesE_162 g j) := by
  unfold vX13_usesE_162
  refine s_aload_n hZ.1 dX13_usesE_162 rfl ?_
  refine yg13_87 dX13_usesE_163 zw4208 ?_
  refine s_iload_n hZ.1 dX13_usesE_166 rfl ?_
  refine s_aload_n hZ.1 dX13_usesE_167 rfl ?_
  refine s_iload_n hZ.1 dX13_usesE_168 rfl ?_
  refine s_iconst dX13_usesE_169 (by decide +kernel) ?_
  refine s_callV hZ.1 (Met_X13_fieldUse hZ) (Nat.succ_le_succ (Nat.le_trans (Nat.le_of_ble_eq_true rfl) hd)) vy_X13_fieldUse zcl13 zw3545 zw310 (Or.inl zw3543) dX13_usesE_170 ?_
  refine s_iast hZ.1 (tt := 0) rfl dX13_usesE_173 ?_
  exact s_goto dX13_usesE_174 (by decide) (hj 1 98 rfl)
noncomputable def vX13_usesE_151 (g : Nat → List Nat → rx_H → Option (Nat × rx_H)) (j : Nat → rx_K) : rx_K := o_ld rx_isR 0 (o_getf 13 70 (o_ld rx_isI 3 (o_ald 0 (o_const 96 (o_c2 rx_eq (vX13_usesE_162 g j) (vX13_usesE_177 g j))))))
set_option maxRecDepth 20000 in
theorem wX13_usesE_151 {dn : Nat} {g : Nat → List Nat → rx_H → Option (Nat × rx_H)} (hZ : zO b e D A X) (hg : ∀ i y M, vl16[i]? = some (y, M) → rx_Met (zV b e D A X) dn y M (g i)) (hd : 3 ≤ dn) (j : Nat → rx_K) (hj : ∀ k pc, [7, 98][k]? = some pc → rx_OK (zV b e D A X) mX13_usesE (dn + 1) pc (j k)) : rx_OK (zV b e D A X) mX13_usesE (dn + 1) 151 (vX13_usesE_151 g j) := by
  unfold vX13_usesE_151
  refine s_aload_n hZ.1 dX13_usesE_151 rfl ?_
  refine yg13_70 dX13_usesE_152 zw4191 ?_
  refine s_iload_n hZ.1 dX13_usesE_155 rfl ?_
  refine s_iald (tt := 0) rfl dX13_usesE_156 ?_
  refine s_bipush dX13_usesE_157 (by decide +kernel) ?_
  exact s_icmp_ne dX13_usesE_159 (by decide) (wX13_usesE_177 hZ hg hd j hj) (wX13_usesE_162 hZ hg hd j hj)
noncomputable def vX13_usesE_138 (g : Nat → List Nat → rx_H → Option (Nat × rx_H)) (j : Nat → rx_K) : rx_K := o_ld rx_isR 0 (o_ld rx_isR 0 (o_getf 13 78 (o_ld rx_isI 3 (o_ald 0 (o_callV 1 13 (g 1) ((j 1)))))))
set_option maxRecDepth 20000 in
theorem wX13_usesE_138 {dn : Nat} {g : Nat → List Nat → rx_H → Option (Nat × rx_H)} (hZ : zO b e D A X) (hg : ∀ i y M, vl16[i]? = some (y, M) → rx_Met (zV b e D A X) dn y M (g i)) (hd : 3 ≤ dn) (j : Nat → rx_K) (hj : ∀ k pc, [7, 98][k]? = some pc → rx_OK (zV b e D A X) mX13_usesE (dn + 1) pc (j k)) : rx_OK (zV b e D A X) mX13_usesE (dn + 1) 138 (vX13_usesE_138 g j) := by
  unfold vX13_usesE_138
  refine s_aload_n hZ.1 dX13_usesE_138 rfl ?_
  refine s_aload_n hZ.1 dX13_usesE_139 rfl ?_
  refine yg13_78 dX13_usesE_140 zw4199 ?_
  refine s_iload_n hZ.1 dX13_usesE_143 rfl ?_
  refine s_iald (tt := 0) rfl dX13_usesE_144 ?_
  refine s_callV hZ.1 (hg 1 _ _ rfl) (Nat.le_refl _) vy_X13_usesE zcl13 zw3537 zw308 (Or.inl zw3535) dX13_usesE_145 ?_
  exact s_goto dX13_usesE_148 (by decide) (hj 1 98 rfl)
noncomputable def vX13_usesE_106 (g : Nat → List Nat → rx_H → Option (Nat × rx_H)) (j : Nat → rx_K) : rx_K := o_ld rx_isR 0 (o_dup (o_getf 13 108 (o_const 8 (o_bi (fun x y => x - y) (o_putf rx_isI 13 108 (o_ld rx_isR 0 (o_getf 13 107 (o_ld rx_isR 0 (o_getf 13 108 (o_ald 0 (o_st rx_isI 3 (o_ld rx_isR 0 (o_getf 13 70 (o_ld rx_isI 3 (o_ald 0 (o_callS 1 FX13_isTwo (o_c1 rx_eq (vX13_usesE_151 g j) (vX13_usesE_138 g j))))))))))))))))))
set_option maxRecDepth 20000 in
theorem wX13_usesE_106 {dn : Nat} {g : Nat → List Nat → rx_H → Option (Nat × rx_H)} (hZ : zO b e D A X) (hg : ∀ i y M, vl16[i]? = some (y, M) → rx_Met (zV b e D A X) dn y M (g i)) (hd : 3 ≤ dn) (j : Nat → rx_K) (hj : ∀ k pc, [7, 98][k]? = some pc → rx_OK (zV b e D A X) mX13_usesE (dn + 1) pc (j k)) : rx_OK (zV b e D A X) mX13_usesE (dn + 1) 106 (vX13_usesE_106 g j) := by
  unfold vX13_usesE_106
  refine s_aload_n hZ.1 dX13_usesE_106 rfl ?_
  refine s_dup hZ.1 dX13_usesE_107 ?_
  refine yg13_108 dX13_usesE_108 zw4228 ?_
  refine s_iconst dX13_usesE_111 (by decide +kernel) ?_
  refine s_isub dX13_usesE_112 ?_
  refine yp13_108 hZ.1 dX13_usesE_113 zw4228 ?_
  refine s_aload_n hZ.1 dX13_usesE_116 rfl ?_
  refine yg13_107 dX13_usesE_117 zw4227 ?_
  refine s_aload_n hZ.1 dX13_usesE_120 rfl ?_
  refine yg13_108 dX13_usesE_121 zw4228 ?_
  refine s_iald (tt := 0) rfl dX13_usesE_124 ?_
  refine s_istore_n hZ.1 dX13_usesE_125 rfl (Nat.le_of_ble_eq_true rfl) ?_
  refine s_aload_n hZ.1 dX13_usesE_126 rfl ?_
  refine yg13_70 dX13_usesE_127 zw4191 ?_
  refine s_iload_n hZ.1 dX13_usesE_130 rfl ?_
  refine s_iald (tt := 0) rfl dX13_usesE_131 ?_
  refine s_callS hZ.1 (Met_X13_isTwo hZ) (Nat.succ_le_succ (Nat.le_trans (Nat.le_of_ble_eq_true rfl) hd)) vy_X13_isTwo zw3338 (Or.inl zw3337) dX13_usesE_132 ?_
  exact s_if_eq dX13_usesE_135 (by decide) (wX13_usesE_151 hZ hg hd j hj) (wX13_usesE_138 hZ hg hd j hj)
noncomputable def vX13_usesE_98 (g : Nat → List Nat → rx_H → Option (Nat × rx_H)) (j : Nat → rx_K) : rx_K := o_ld rx_isR 0 (o_getf 13 108 (o_ld rx_isI 2 (o_c2 (fun h x y => rx_lt h y x) (vX13_usesE_106 g j) (vX13_usesE_247 g j))))
set_option maxRecDepth 20000 in
theorem wX13_usesE_98 {dn : Nat} {g : Nat → List Nat → rx_H → Option (Nat × rx_H)} (hZ : zO b e D A X) (hg : ∀ i y M, vl16[i]? = some (y, M) → rx_Met (zV b e D A X) dn y M (g i)) (hd : 3 ≤ dn) (j : Nat → rx_K) (hj : ∀ k pc, [7, 98][k]? = some pc → rx_OK (zV b e D A X) mX13_usesE (dn + 1) pc (j k)) : rx_OK (zV b e D A X) mX13_usesE (dn + 1) 98 (vX13_usesE_98 g j) := by
  unfold vX13_usesE_98
  refine s_aload_n hZ.1 dX13_usesE_98 rfl ?_
  refine yg13_108 dX13_usesE_99 zw4228 ?_
  refine s_iload_n hZ.1 dX13_usesE_102 rfl ?_
  exact s_icmp_le dX13_usesE_103 (by decide) (wX13_usesE_247 hZ hg hd j hj) (wX13_usesE_106 hZ hg hd j hj)
noncomputable def vX13_usesE_93 (g : Nat → List Nat → rx_H → Option (Nat × rx_H)) (j : Nat → rx_K) : rx_K := o_ld rx_isR 0 (o_ld rx_isI 3 (o_callV 1 13 (g 2) ((vX13_usesE_98 g j))))
set_option maxRecDepth 20000 in
theorem wX13_usesE_93 {dn : Nat} {g : Nat → List Nat → rx_H → Option (Nat × rx_H)} (hZ : zO b e D A X) (hg : ∀ i y M, vl16[i]? = some (y, M) → rx_Met (zV b e D A X) dn y M (g i)) (hd : 3 ≤ dn) (j : Nat → rx_K) (hj : ∀ k pc, [7, 98][k]? = some pc → rx_OK (zV b e D A X) mX13_usesE (dn + 1) pc (j k)) : rx_OK (zV b e D A X) mX13_usesE (dn + 1) 93 (vX13_usesE_93 g j) := by
  unfold vX13_usesE_93
  refine s_aload_n hZ.1 dX13_usesE_93 rfl ?_
  refine s_iload_n hZ.1 dX13_usesE_94 rfl ?_
  refine s_callV hZ.1 (hg 2 _ _ rfl) (Nat.le_refl _) vy_X13_usesLeaf zcl13 zw3541 zw309 (Or.inl zw3539) dX13_usesE_95 ?_
  exact (wX13_usesE_98 hZ hg hd j hj)
noncomputable def vX13_usesE_63 (g : Nat → List Nat → rx_H → Option (Nat × rx_H)) (j : Nat → rx_K) : rx_K := o_ld rx_isR 0 (o_getf 13 107 (o_ld rx_isR 0 (o_getf 13 108 (o_ld rx_isI 3 (o_ast 0 (fun v => v) rx_isI (o_ld rx_isR 0 (o_dup (o_getf 13 108 (o_const 8 (o_bi (fun x y => x + y) (o_putf rx_isI 13 108 (o_ld rx_isR 0 (o_getf 13 77 (o_ld rx_isI 3 (o_ald 0 (o_st rx_isI 3 ((j 0))))))))))))))))))
set_option maxRecDepth 20000 in
theorem wX13_usesE_63 {dn : Nat} {g : Nat → List Nat → rx_H → Option (Nat × rx_H)} (hZ : zO b e D A X) (hg : ∀ i y M, vl16[i]? = some (y, M) → rx_Met (zV b e D A X) dn y M (g i)) (hd : 3 ≤ dn) (j : Nat → rx_K) (hj : ∀ k pc, [7, 98][k]? = some pc → rx_OK (zV b e D A X) mX13_usesE (dn + 1) pc (j k)) : rx_OK (zV b e D A X) mX13_usesE (dn + 1) 63 (vX13_usesE_63 g j) := by
  unfold vX13_usesE_63
  refine s_aload_n hZ.1 dX13_usesE_63 rfl ?_
  refine yg13_107 dX13_usesE_64 zw4227 ?_
  refine s_aload_n hZ.1 dX13_usesE_67 rfl ?_
  refine yg13_108 dX13_usesE_68 zw4228 ?_
  refine s_iload_n hZ.1 dX13_usesE_71 rfl ?_
  refine s_iast hZ.1 (tt := 0) rfl dX13_usesE_72 ?_
  refine s_aload_n hZ.1 dX13_usesE_73 rfl ?_
  refine s_dup hZ.1 dX13_usesE_74 ?_
  refine yg13_108 dX13_usesE_75 zw4228 ?_
  refine s_iconst dX13_usesE_78 (by decide +kernel) ?_
  refine s_iadd dX13_usesE_79 ?_
  refine yp13_108 hZ.1 dX13_usesE_80 zw4228 ?_
  refine s_aload_n hZ.1 dX13_usesE_83 rfl ?_
  refine yg13_77 dX13_usesE_84 zw4198 ?_
  refine s_iload_n hZ.1 dX13_usesE_87 rfl ?_
  refine s_iald (tt := 0) rfl dX13_usesE_88 ?_
  refine s_istore_n hZ.1 dX13_usesE_89 rfl (Nat.le_of_ble_eq_true rfl) ?_
  exact s_goto dX13_usesE_90 (by decide) (hj 0 7 rfl)
noncomputable def vX13_usesE_52 (g : Nat → List Nat → rx_H → Option (Nat × rx_H)) (j : Nat → rx_K) : rx_K := o_ld rx_isR 0 (o_getf 13 70 (o_ld rx_isI 3 (o_ald 0 (o_const 112 (o_c2 rx_eq (vX13_usesE_63 g j) (vX13_usesE_93 g j))))))
set_option maxRecDepth 20000 in
theorem wX13_usesE_52 {dn : Nat} {g : Nat → List Nat → rx_H → Option (Nat × rx_H)} (hZ : zO b e D A X) (hg : ∀ i y M, vl16[i]? = some (y, M) → rx_Met (zV b e D A X) dn y M (g i)) (hd : 3 ≤ dn) (j : Nat → rx_K) (hj : ∀ k pc, [7, 98][k]? = some pc → rx_OK (zV b e D A X) mX13_usesE (dn + 1) pc (j k)) : rx_OK (zV b e D A X) mX13_usesE (dn + 1) 52 (vX13_usesE_52 g j) := by
  unfold vX13_usesE_52
  refine s_aload_n hZ.1 dX13_usesE_52 rfl ?_
  refine yg13_70 dX13_usesE_53 zw4191 ?_
  refine s_iload_n hZ.1 dX13_usesE_56 rfl ?_
  refine s_iald (tt := 0) rfl dX13_usesE_57 ?_
  refine s_bipush dX13_usesE_58 (by decide +kernel) ?_
  exact s_icmp_ne dX13_usesE_60 (by decide) (wX13_usesE_93 hZ hg hd j hj) (wX13_usesE_63 hZ hg hd j hj)
noncomputable def vX13_usesE_41 (g : Nat → List Nat → rx_H → Option (Nat × rx_H)) (j : Nat → rx_K) : rx_K := o_ld rx_isR 0 (o_getf 13 70 (o_ld rx_isI 3 (o_ald 0 (o_const 104 (o_c2 rx_eq (vX13_usesE_63 g j) (vX13_usesE_52 g j))))))
set_option maxRecDepth 20000 in
theorem wX13_usesE_41 {dn : Nat} {g : Nat → List Nat → rx_H → Option (Nat × rx_H)} (hZ : zO b e D A X) (hg : ∀ i y M, vl16[i]? = some (y, M) → rx_Met (zV b e D A X) dn y M (g i)) (hd : 3 ≤ dn) (j : Nat → rx_K) (hj : ∀ k pc, [7, 98][k]? = some pc → rx_OK (zV b e D A X) mX13_usesE (dn + 1) pc (j k)) : rx_OK (zV b e D A X) mX13_usesE (dn + 1) 41 (vX13_usesE_41 g j) := by
  unfold vX13_usesE_41
  refine s_aload_n hZ.1 dX13_usesE_41 rfl ?_
  refine yg13_70 dX13_usesE_42 zw4191 ?_
  refine s_iload_n hZ.1 dX13_usesE_45 rfl ?_
  refine s_iald (tt := 0) rfl dX13_usesE_46 ?_
  refine s_bipush dX13_usesE_47 (by decide +kernel) ?_
  exact s_icmp_eq dX13_usesE_49 (by decide) (wX13_usesE_63 hZ hg hd j hj) (wX13_usesE_52 hZ hg hd j hj)
noncomputable def vX13_usesE_30 (g : Nat → List Nat → rx_H → Option (Nat × rx_H)) (j : Nat → rx_K) : rx_K := o_ld rx_isR 0 (o_getf 13 70 (o_ld rx_isI 3 (o_ald 0 (o_const 96 (o_c2 rx_eq (vX13_usesE_63 g j) (vX13_usesE_41 g j))))))
set_option maxRecDepth 20000 in
theorem wX13_usesE_30 {dn : Nat} {g : Nat → List Nat → rx_H → Option (Nat × rx_H)} (hZ : zO b e D A X) (hg : ∀ i y M, vl16[i]? = some (y, M) → rx_Met (zV b e D A X) dn y M (g i)) (hd : 3 ≤ dn) (j : Nat → rx_K) (hj : ∀ k pc, [7, 98][k]? = some pc → rx_OK (zV b e D A X) mX13_usesE (dn + 1) pc (j k)) : rx_OK (zV b e D A X) mX13_usesE (dn + 1) 30 (vX13_usesE_30 g j) := by
  unfold vX13_usesE_30
  refine s_aload_n hZ.1 dX13_usesE_30 rfl ?_
  refine yg13_70 dX13_usesE_31 zw4191 ?_
  refine s_iload_n hZ.1 dX13_usesE_34 rfl ?_
  refine s_iald (tt := 0) rfl dX13_usesE_35 ?_
  refine s_bipush dX13_usesE_36 (by decide +kernel) ?_
  exact s_icmp_eq dX13_usesE_38 (by decide) (wX13_usesE_63 hZ hg hd j hj) (wX13_usesE_41 hZ hg hd j hj)
noncomputable def vX13_usesE_19 (g : Nat → List Nat → rx_H → Option (Nat × rx_H)) (j : Nat → rx_K) : rx_K := o_ld rx_isR 0 (o_getf 13 70 (o_ld rx_isI 3 (o_ald 0 (o_const 88 (o_c2 rx_eq (vX13_usesE_63 g j) (vX13_usesE_30 g j))))))
set_option maxRecDepth 20000 in
theorem wX13_usesE_19 {dn : Nat} {g : Nat → List Nat → rx_H → Option (Nat × rx_H)} (hZ : zO b e D A X) (hg : ∀ i y M, vl16[i]? = some (y, M) → rx_Met (zV b e D A X) dn y M (g i)) (hd : 3 ≤ dn) (j : Nat → rx_K) (hj : ∀ k pc, [7, 98][k]? = some pc → rx_OK (zV b e D A X) mX13_usesE (dn + 1) pc (j k)) : rx_OK (zV b e D A X) mX13_usesE (dn + 1) 19 (vX13_usesE_19 g j) := by
  unfold vX13_usesE_19
  refine s_aload_n hZ.1 dX13_usesE_19 rfl ?_
  refine yg13_70 dX13_usesE_20 zw4191 ?_
  refine s_iload_n hZ.1 dX13_usesE_23 rfl ?_
  refine s_iald (tt := 0) rfl dX13_usesE_24 ?_
  refine s_bipush dX13_usesE_25 (by decide +kernel) ?_
  exact s_icmp_eq dX13_usesE_27 (by decide) (wX13_usesE_63 hZ hg hd j hj) (wX13_usesE_30 hZ hg hd j hj)
noncomputable def vX13_usesE_7 (g : Nat → List Nat → rx_H → Option (Nat × rx_H)) (j : Nat → rx_K) : rx_K := o_ld rx_isR 0 (o_getf 13 70 (o_ld rx_isI 3 (o_ald 0 (o_callS 1 FX13_isTwo (o_c1 rx_eq (vX13_usesE_19 g j) (vX13_usesE_63 g j))))))
set_option maxRecDepth 20000 in
theorem wX13_usesE_7 {dn : Nat} {g : Nat → List Nat → rx_H → Option (Nat × rx_H)} (hZ : zO b e D A X) (hg : ∀ i y M, vl16[i]? = some (y, M) → rx_Met (zV b e D A X) dn y M (g i)) (hd : 3 ≤ dn) (j : Nat → rx_K) (hj : ∀ k pc, [7, 98][k]? = some pc → rx_OK (zV b e D A X) mX13_usesE (dn + 1) pc (j k)) : rx_OK (zV b e D A X) mX13_usesE (dn + 1) 7 (vX13_usesE_7 g j) := by
  unfold vX13_usesE_7
  refine s_aload_n hZ.1 dX13_usesE_7 rfl ?_
  refine yg13_70 dX13_usesE_8 zw4191 ?_
  refine s_iload_n hZ.1 dX13_usesE_11 rfl ?_
  refine s_iald (tt := 0) rfl dX13_usesE_12 ?_
  refine s_callS hZ.1 (Met_X13_isTwo hZ) (Nat.succ_le_succ (Nat.le_trans (Nat.le_of_ble_eq_true rfl) hd)) vy_X13_isTwo zw3338 (Or.inl zw3337) dX13_usesE_13 ?_
  exact s_if_ne dX13_usesE_16 (by decide) (wX13_usesE_63 hZ hg hd j hj) (wX13_usesE_19 hZ hg hd j hj)
noncomputable def vX13_usesE_0 (g : Nat → List Nat → rx_H → Option (Nat × rx_H)) (j : Nat → rx_K) : rx_K := o_ld rx_isR 0 (o_getf 13 108 (o_st rx_isI 2 (o_ld rx_isI 1 (o_st rx_isI 3 ((vX13_usesE_7 g j))))))
set_option maxRecDepth 20000 in
theorem wX13_usesE_0 {dn : Nat} {g : Nat → List Nat → rx_H → Option (Nat × rx_H)} (hZ : zO b e D A X) (hg : ∀ i y M, vl16[i]? = some (y, M) → rx_Met (zV b e D A X) dn y M (g i)) (hd : 3 ≤ dn) (j : Nat → rx_K) (hj : ∀ k pc, [7, 98][k]? = some pc → rx_OK (zV b e D A X) mX13_usesE (dn + 1) pc (j k)) : rx_OK (zV b e D A X) mX13_usesE (dn + 1) 0 (vX13_usesE_0 g j) := by
  unfold vX13_usesE_0
  refine s_aload_n hZ.1 dX13_usesE_0 rfl ?_
  refine yg13_108 dX13_usesE_1 zw4228 ?_
  refine s_istore_n hZ.1 dX13_usesE_4 rfl (Nat.le_of_ble_eq_true rfl) ?_
  refine s_iload_n hZ.1 dX13_usesE_5 rfl ?_
  refine s_istore_n hZ.1 dX13_usesE_6 rfl (Nat.le_of_ble_eq_true rfl) ?_
  exact (wX13_usesE_7 hZ hg hd j hj)
noncomputable def vhX13_usesE (g : Nat → List Nat → rx_H → Option (Nat × rx_H)) (j : Nat → rx_K) : List rx_K := [vX13_usesE_7 g j, vX13_usesE_98 g j]
theorem vlX13_usesE {dn : Nat} {g : Nat → List Nat → rx_H → Option (Nat × rx_H)} (hZ : zO b e D A X) (hg : ∀ i y M, vl16[i]? = some (y, M) → rx_Met (zV b e D A X) dn y M (g i)) (hd : 3 ≤ dn) : ∀ n k pc, [7, 98][k]? = some pc → rx_OK (zV b e D A X) mX13_usesE (dn + 1) pc (rx_J (vhX13_usesE g) n k) := rx_loop fun j hj k pc h => by
  match k, h with
  | 0, h =>
    have e9 := Option.some.inj (show some 7 = some pc from h)
    subst e9
    exact wX13_usesE_7 hZ hg hd j hj
  | 1, h =>
    have e9 := Option.some.inj (show some 98 = some pc from h)
    subst e9
    exact wX13_usesE_98 hZ hg hd j hj
  | _ + 2, h => exact absurd h (by simp)
noncomputable def FX13_usesE (g : Nat → List Nat → rx_H → Option (Nat × rx_H)) : List Nat → rx_H → Option (Nat × rx_H) := rx_ent 4 (vX13_usesE_0 g (rx_J (vhX13_usesE g) 4000000000))
theorem Met_X13_usesE {dn : Nat} {g : Nat → List Nat → rx_H → Option (Nat × rx_H)} (hZ : zO b e D A X) (hg : ∀ i y M, vl16[i]? = some (y, M) → rx_Met (zV b e D A X) dn y M (g i)) (hd : 3 ≤ dn) : rx_Met (zV b e D A X) (dn + 1) yX13_usesE mX13_usesE (FX13_usesE g) := rx_entry hZ.1 (wX13_usesE_0 hZ hg hd _ (vlX13_usesE hZ hg hd 4000000000)) (by decide +kernel) rfl (fun h => by cases h)
end ZM56

section ZM41
variable {b : Nat} {e : Nat → Value} {D : va_G} {A : Nat → ClassId} {X : State → Prop}
noncomputable def vX13_product_60 (g : Nat → List Nat → rx_H → Option (Nat × rx_H)) (j : Nat → rx_K) : rx_K := o_ld rx_isI 1 (o_ret1 rx_isI)
set_option maxRecDepth 20000 in
theorem wX13_product_60 {dn : Nat} {g : Nat → List Nat → rx_H → Option (Nat × rx_H)} (hZ : zO b e D A X) (hg : ∀ i y M, vl8[i]? = some (y, M) → rx_Met (zV b e D A X) dn y M (g i)) (hd : 7 ≤ dn) (j : Nat → rx_K) (hj : ∀ k pc, [5][k]? = some pc → rx_OK (zV b e D A X) mX13_product (dn + 1) pc (j k)) : rx_OK (zV b e D A X) mX13_product (dn + 1) 60 (vX13_product_60 g j) := by
  unfold vX13_product_60
  refine s_iload_n hZ.1 dX13_product_60 rfl ?_
  exact s_iret hZ.1 rfl dX13_product_61
noncomputable def vX13_product_21 (g : Nat → List Nat → rx_H → Option (Nat × rx_H)) (j : Nat → rx_K) : rx_K := o_ld rx_isR 0 (o_const 136 (o_ld rx_isR 0 (o_getf 13 71 (o_ld rx_isI 1 (o_ald 0 (o_callV 2 13 FX13_node (o_st rx_isI 2 (o_ld rx_isR 0 (o_callV 0 13 FX13_step (o_ld rx_isR 0 (o_getf 13 77 (o_ld rx_isI 2 (o_ld rx_isI 1 (o_ast 0 (fun v => v) rx_isI (o_ld rx_isR 0 (o_getf 13 78 (o_ld rx_isI 2 (o_ld rx_isR 0 (o_callV 0 13 (g 7) (o_ast 0 (fun v => v) rx_isI (o_ld rx_isI 2 (o_st rx_isI 1 ((j 0))))))))))))))))))))))))
set_option maxRecDepth 20000 in
theorem wX13_product_21 {dn : Nat} {g : Nat → List Nat → rx_H → Option (Nat × rx_H)} (hZ : zO b e D A X) (hg : ∀ i y M, vl8[i]? = some (y, M) → rx_Met (zV b e D A X) dn y M (g i)) (hd : 7 ≤ dn) (j : Nat → rx_K) (hj : ∀ k pc, [5][k]? = some pc → rx_OK (zV b e D A X) mX13_product (dn + 1) pc (j k)) : rx_OK (zV b e D A X) mX13_product (dn + 1) 21 (vX13_product_21 g j) := by
  unfold vX13_product_21
  refine s_aload_n hZ.1 dX13_product_21 rfl ?_
  refine s_bipush dX13_product_22 (by decide +kernel) ?_
  refine s_aload_n hZ.1 dX13_product_24 rfl ?_
  refine yg13_71 dX13_product_25 zw4192 ?_
  refine s_iload_n hZ.1 dX13_product_28 rfl ?_
  refine s_iald (tt := 0) rfl dX13_product_29 ?_
  refine s_callV hZ.1 (Met_X13_node hZ) (Nat.succ_le_succ (Nat.le_trans (Nat.le_of_ble_eq_true rfl) hd)) vy_X13_node zcl13 zw3103 zw208 (Or.inl zw3101) dX13_product_30 ?_
  refine s_istore_n hZ.1 dX13_product_33 rfl (Nat.le_of_ble_eq_true rfl) ?_
  refine s_aload_n hZ.1 dX13_product_34 rfl ?_
  refine s_callV hZ.1 (Met_X13_step hZ) (Nat.succ_le_succ (Nat.le_trans (Nat.le_of_ble_eq_true rfl) hd)) vy_X13_step zcl13 zw2996 zw188 (Or.inl zw2994) dX13_product_35 ?_
  refine s_aload_n hZ.1 dX13_product_38 rfl ?_
  refine yg13_77 dX13_product_39 zw4198 ?_
  refine s_iload_n hZ.1 dX13_product_42 rfl ?_
  refine s_iload_n hZ.1 dX13_product_43 rfl ?_
  refine s_iast hZ.1 (tt := 0) rfl dX13_product_44 ?_
  refine s_aload_n hZ.1 dX13_product_45 rfl ?_
  refine yg13_78 dX13_product_46 zw4199 ?_
  refine s_iload_n hZ.1 dX13_product_49 rfl ?_
  refine s_aload_n hZ.1 dX13_product_50 rfl ?_
  refine s_callV hZ.1 (hg 7 _ _ rfl) (Nat.le_refl _) vy_X13_unit zcl13 zw3119 zw212 (Or.inl zw3117) dX13_product_51 ?_
  refine s_iast hZ.1 (tt := 0) rfl dX13_product_54 ?_
  refine s_iload_n hZ.1 dX13_product_55 rfl ?_
  refine s_istore_n hZ.1 dX13_product_56 rfl (Nat.le_of_ble_eq_true rfl) ?_
  exact s_goto dX13_product_57 (by decide) (hj 0 5 rfl)
noncomputable def vX13_product_12 (g : Nat → List Nat → rx_H → Option (Nat × rx_H)) (j : Nat → rx_K) : rx_K := o_ld rx_isR 0 (o_const 336 (o_callV 1 13 FX13_isSign (o_c1 rx_eq (vX13_product_60 g j) (vX13_product_21 g j))))
set_option maxRecDepth 20000 in
theorem wX13_product_12 {dn : Nat} {g : Nat → List Nat → rx_H → Option (Nat × rx_H)} (hZ : zO b e D A X) (hg : ∀ i y M, vl8[i]? = some (y, M) → rx_Met (zV b e D A X) dn y M (g i)) (hd : 7 ≤ dn) (j : Nat → rx_K) (hj : ∀ k pc, [5][k]? = some pc → rx_OK (zV b e D A X) mX13_product (dn + 1) pc (j k)) : rx_OK (zV b e D A X) mX13_product (dn + 1) 12 (vX13_product_12 g j) := by
  unfold vX13_product_12
  refine s_aload_n hZ.1 dX13_product_12 rfl ?_
  refine s_bipush dX13_product_13 (by decide +kernel) ?_
  refine s_callV hZ.1 (Met_X13_isSign hZ) (Nat.succ_le_succ (Nat.le_trans (Nat.le_of_ble_eq_true rfl) hd)) vy_X13_isSign zcl13 zw3030 zw195 (Or.inl zw3028) dX13_product_15 ?_
  exact s_if_eq dX13_product_18 (by decide) (wX13_product_60 hZ hg hd j hj) (wX13_product_21 hZ hg hd j hj)
noncomputable def vX13_product_5 (g : Nat → List Nat → rx_H → Option (Nat × rx_H)) (j : Nat → rx_K) : rx_K := o_ld rx_isR 0 (o_getf 13 20 (o_c1 rx_eq (vX13_product_12 g j) (vX13_product_60 g j)))
set_option maxRecDepth 20000 in
theorem wX13_product_5 {dn : Nat} {g : Nat → List Nat → rx_H → Option (Nat × rx_H)} (hZ : zO b e D A X) (hg : ∀ i y M, vl8[i]? = some (y, M) → rx_Met (zV b e D A X) dn y M (g i)) (hd : 7 ≤ dn) (j : Nat → rx_K) (hj : ∀ k pc, [5][k]? = some pc → rx_OK (zV b e D A X) mX13_product (dn + 1) pc (j k)) : rx_OK (zV b e D A X) mX13_product (dn + 1) 5 (vX13_product_5 g j) := by
  unfold vX13_product_5
  refine s_aload_n hZ.1 dX13_product_5 rfl ?_
  refine yg13_20 dX13_product_6 zw4141 ?_
  exact s_if_ne dX13_product_9 (by decide) (wX13_product_60 hZ hg hd j hj) (wX13_product_12 hZ hg hd j hj)
noncomputable def vX13_product_0 (g : Nat → List Nat → rx_H → Option (Nat × rx_H)) (j : Nat → rx_K) : rx_K := o_ld rx_isR 0 (o_callV 0 13 (g 7) (o_st rx_isI 1 ((vX13_product_5 g j))))
set_option maxRecDepth 20000 in
theorem wX13_product_0 {dn : Nat} {g : Nat → List Nat → rx_H → Option (Nat × rx_H)} (hZ : zO b e D A X) (hg : ∀ i y M, vl8[i]? = some (y, M) → rx_Met (zV b e D A X) dn y M (g i)) (hd : 7 ≤ dn) (j : Nat → rx_K) (hj : ∀ k pc, [5][k]? = some pc → rx_OK (zV b e D A X) mX13_product (dn + 1) pc (j k)) : rx_OK (zV b e D A X) mX13_product (dn + 1) 0 (vX13_product_0 g j) := by
  unfold vX13_product_0
  refine s_aload_n hZ.1 dX13_product_0 rfl ?_
  refine s_callV hZ.1 (hg 7 _ _ rfl) (Nat.le_refl _) vy_X13_unit zcl13 zw3119 zw212 (Or.inl zw3117) dX13_product_1 ?_
  refine s_istore_n hZ.1 dX13_product_4 rfl (Nat.le_of_ble_eq_true rfl) ?_
  exact (wX13_product_5 hZ hg hd j hj)
noncomputable def vhX13_product (g : Nat → List Nat → rx_H → Option (Nat × rx_H)) (j : Nat → rx_K) : List rx_K := [vX13_product_5 g j]
theorem vlX13_product {dn : Nat} {g : Nat → List Nat → rx_H → Option (Nat × rx_H)} (hZ : zO b e D A X) (hg : ∀ i y M, vl8[i]? = some (y, M) → rx_Met (zV b e D A X) dn y M (g i)) (hd : 7 ≤ dn) : ∀ n k pc, [5][k]? = some pc → rx_OK (zV b e D A X) mX13_product (dn + 1) pc (rx_J (vhX13_product g) n k) := rx_loop fun j hj k pc h => by
  match k, h with
  | 0, h =>
    have e9 := Option.some.inj (show some 5 = some pc from h)
    subst e9
    exact wX13_product_5 hZ hg hd j hj
  | _ + 1, h => exact absurd h (by simp)
noncomputable def FX13_product (g : Nat → List Nat → rx_H → Option (Nat × rx_H)) : List Nat → rx_H → Option (Nat × rx_H) := rx_ent 3 (vX13_product_0 g (rx_J (vhX13_product g) 4000000000))
theorem Met_X13_product {dn : Nat} {g : Nat → List Nat → rx_H → Option (Nat × rx_H)} (hZ : zO b e D A X) (hg : ∀ i y M, vl8[i]? = some (y, M) → rx_Met (zV b e D A X) dn y M (g i)) (hd : 7 ≤ dn) : rx_Met (zV b e D A X) (dn + 1) yX13_product mX13_product (FX13_product g) := rx_entry hZ.1 (wX13_product_0 hZ hg hd _ (vlX13_product hZ hg hd 4000000000)) (by decide +kernel) rfl (fun h => by cases h)
noncomputable def vX13_sum_83 (g : Nat → List Nat → rx_H → Option (Nat × rx_H)) (j : Nat → rx_K) : rx_K := o_ld rx_isI 1 (o_ret1 rx_isI)
set_option maxRecDepth 20000 in
theorem wX13_sum_83 {dn : Nat} {g : Nat → List Nat → rx_H → Option (Nat × rx_H)} (hZ : zO b e D A X) (hg : ∀ i y M, vl8[i]? = some (y, M) → rx_Met (zV b e D A X) dn y M (g i)) (hd : 7 ≤ dn) (j : Nat → rx_K) (hj : ∀ k pc, [5][k]? = some pc → rx_OK (zV b e D A X) mX13_sum (dn + 1) pc (j k)) : rx_OK (zV b e D A X) mX13_sum (dn + 1) 83 (vX13_sum_83 g j) := by
  unfold vX13_sum_83
  refine s_iload_n hZ.1 dX13_sum_83 rfl ?_
  exact s_iret hZ.1 rfl dX13_sum_84
noncomputable def vX13_sum_47 (g : Nat → List Nat → rx_H → Option (Nat × rx_H)) (j : Nat → rx_K) : rx_K := o_ld rx_isR 0 (o_getf 13 71 (o_ld rx_isI 1 (o_ald 0 (o_callV 2 13 FX13_node (o_st rx_isI 2 (o_ld rx_isR 0 (o_callV 0 13 FX13_step (o_ld rx_isR 0 (o_getf 13 77 (o_ld rx_isI 2 (o_ld rx_isI 1 (o_ast 0 (fun v => v) rx_isI (o_ld rx_isR 0 (o_getf 13 78 (o_ld rx_isI 2 (o_ld rx_isR 0 (o_callV 0 13 (g 5) (o_ast 0 (fun v => v) rx_isI (o_ld rx_isI 2 (o_st rx_isI 1 ((j 0))))))))))))))))))))))
set_option maxRecDepth 20000 in
theorem wX13_sum_47 {dn : Nat} {g : Nat → List Nat → rx_H → Option (Nat × rx_H)} (hZ : zO b e D A X) (hg : ∀ i y M, vl8[i]? = some (y, M) → rx_Met (zV b e D A X) dn y M (g i)) (hd : 7 ≤ dn) (j : Nat → rx_K) (hj : ∀ k pc, [5][k]? = some pc → rx_OK (zV b e D A X) mX13_sum (dn + 1) pc (j k)) : rx_OK (zV b e D A X) mX13_sum (dn + 1) 47 (vX13_sum_47 g j) := by
  unfold vX13_sum_47
  refine s_aload_n hZ.1 dX13_sum_47 rfl ?_
  refine yg13_71 dX13_sum_48 zw4192 ?_
  refine s_iload_n hZ.1 dX13_sum_51 rfl ?_
  refine s_iald (tt := 0) rfl dX13_sum_52 ?_
  refine s_callV hZ.1 (Met_X13_node hZ) (Nat.succ_le_succ (Nat.le_trans (Nat.le_of_ble_eq_true rfl) hd)) vy_X13_node zcl13 zw3103 zw208 (Or.inl zw3101) dX13_sum_53 ?_
  refine s_istore_n hZ.1 dX13_sum_56 rfl (Nat.le_of_ble_eq_true rfl) ?_
  refine s_aload_n hZ.1 dX13_sum_57 rfl ?_
  refine s_callV hZ.1 (Met_X13_step hZ) (Nat.succ_le_succ (Nat.le_trans (Nat.le_of_ble_eq_true rfl) hd)) vy_X13_step zcl13 zw2996 zw188 (Or.inl zw2994) dX13_sum_58 ?_
  refine s_aload_n hZ.1 dX13_sum_61 rfl ?_
  refine yg13_77 dX13_sum_62 zw4198 ?_
  refine s_iload_n hZ.1 dX13_sum_65 rfl ?_
  refine s_iload_n hZ.1 dX13_sum_66 rfl ?_
  refine s_iast hZ.1 (tt := 0) rfl dX13_sum_67 ?_
  refine s_aload_n hZ.1 dX13_sum_68 rfl ?_
  refine yg13_78 dX13_sum_69 zw4199 ?_
  refine s_iload_n hZ.1 dX13_sum_72 rfl ?_
  refine s_aload_n hZ.1 dX13_sum_73 rfl ?_
  refine s_callV hZ.1 (hg 5 _ _ rfl) (Nat.le_refl _) vy_X13_product zcl13 zw3115 zw211 (Or.inl zw3113) dX13_sum_74 ?_
  refine s_iast hZ.1 (tt := 0) rfl dX13_sum_77 ?_
  refine s_iload_n hZ.1 dX13_sum_78 rfl ?_
  refine s_istore_n hZ.1 dX13_sum_79 rfl (Nat.le_of_ble_eq_true rfl) ?_
  exact s_goto dX13_sum_80 (by decide) (hj 0 5 rfl)
noncomputable def vX13_sum_45 (g : Nat → List Nat → rx_H → Option (Nat × rx_H)) (j : Nat → rx_K) : rx_K := o_const 128 ((vX13_sum_47 g j))
set_option maxRecDepth 20000 in
theorem wX13_sum_45 {dn : Nat} {g : Nat → List Nat → rx_H → Option (Nat × rx_H)} (hZ : zO b e D A X) (hg : ∀ i y M, vl8[i]? = some (y, M) → rx_Met (zV b e D A X) dn y M (g i)) (hd : 7 ≤ dn) (j : Nat → rx_K) (hj : ∀ k pc, [5][k]? = some pc → rx_OK (zV b e D A X) mX13_sum (dn + 1) pc (j k)) : rx_OK (zV b e D A X) mX13_sum (dn + 1) 45 (vX13_sum_45 g j) := by
  unfold vX13_sum_45
  refine s_bipush dX13_sum_45 (by decide +kernel) ?_
  exact (wX13_sum_47 hZ hg hd j hj)
noncomputable def vX13_sum_40 (g : Nat → List Nat → rx_H → Option (Nat × rx_H)) (j : Nat → rx_K) : rx_K := o_const 120 ((vX13_sum_47 g j))
set_option maxRecDepth 20000 in
theorem wX13_sum_40 {dn : Nat} {g : Nat → List Nat → rx_H → Option (Nat × rx_H)} (hZ : zO b e D A X) (hg : ∀ i y M, vl8[i]? = some (y, M) → rx_Met (zV b e D A X) dn y M (g i)) (hd : 7 ≤ dn) (j : Nat → rx_K) (hj : ∀ k pc, [5][k]? = some pc → rx_OK (zV b e D A X) mX13_sum (dn + 1) pc (j k)) : rx_OK (zV b e D A X) mX13_sum (dn + 1) 40 (vX13_sum_40 g j) := by
  unfold vX13_sum_40
  refine s_bipush dX13_sum_40 (by decide +kernel) ?_
  exact s_goto dX13_sum_42 (by decide) (wX13_sum_47 hZ hg hd j hj)
noncomputable def vX13_sum_30 (g : Nat → List Nat → rx_H → Option (Nat × rx_H)) (j : Nat → rx_K) : rx_K := o_ld rx_isR 0 (o_ld rx_isR 0 (o_const 344 (o_callV 1 13 FX13_isSign (o_c1 rx_eq (vX13_sum_45 g j) (vX13_sum_40 g j)))))
set_option maxRecDepth 20000 in
theorem wX13_sum_30 {dn : Nat} {g : Nat → List Nat → rx_H → Option (Nat × rx_H)} (hZ : zO b e D A X) (hg : ∀ i y M, vl8[i]? = some (y, M) → rx_Met (zV b e D A X) dn y M (g i)) (hd : 7 ≤ dn) (j : Nat → rx_K) (hj : ∀ k pc, [5][k]? = some pc → rx_OK (zV b e D A X) mX13_sum (dn + 1) pc (j k)) : rx_OK (zV b e D A X) mX13_sum (dn + 1) 30 (vX13_sum_30 g j) := by
  unfold vX13_sum_30
  refine s_aload_n hZ.1 dX13_sum_30 rfl ?_
  refine s_aload_n hZ.1 dX13_sum_31 rfl ?_
  refine s_bipush dX13_sum_32 (by decide +kernel) ?_
  refine s_callV hZ.1 (Met_X13_isSign hZ) (Nat.succ_le_succ (Nat.le_trans (Nat.le_of_ble_eq_true rfl) hd)) vy_X13_isSign zcl13 zw3030 zw195 (Or.inl zw3028) dX13_sum_34 ?_
  exact s_if_eq dX13_sum_37 (by decide) (wX13_sum_45 hZ hg hd j hj) (wX13_sum_40 hZ hg hd j hj)
noncomputable def vX13_sum_21 (g : Nat → List Nat → rx_H → Option (Nat × rx_H)) (j : Nat → rx_K) : rx_K := o_ld rx_isR 0 (o_const 360 (o_callV 1 13 FX13_isSign (o_c1 rx_eq (vX13_sum_83 g j) (vX13_sum_30 g j))))
set_option maxRecDepth 20000 in
theorem wX13_sum_21 {dn : Nat} {g : Nat → List Nat → rx_H → Option (Nat × rx_H)} (hZ : zO b e D A X) (hg : ∀ i y M, vl8[i]? = some (y, M) → rx_Met (zV b e D A X) dn y M (g i)) (hd : 7 ≤ dn) (j : Nat → rx_K) (hj : ∀ k pc, [5][k]? = some pc → rx_OK (zV b e D A X) mX13_sum (dn + 1) pc (j k)) : rx_OK (zV b e D A X) mX13_sum (dn + 1) 21 (vX13_sum_21 g j) := by
  unfold vX13_sum_21
  refine s_aload_n hZ.1 dX13_sum_21 rfl ?_
  refine s_bipush dX13_sum_22 (by decide +kernel) ?_
  refine s_callV hZ.1 (Met_X13_isSign hZ) (Nat.succ_le_succ (Nat.le_trans (Nat.le_of_ble_eq_true rfl) hd)) vy_X13_isSign zcl13 zw3030 zw195 (Or.inl zw3028) dX13_sum_24 ?_
  exact s_if_eq dX13_sum_27 (by decide) (wX13_sum_83 hZ hg hd j hj) (wX13_sum_30 hZ hg hd j hj)
noncomputable def vX13_sum_12 (g : Nat → List Nat → rx_H → Option (Nat × rx_H)) (j : Nat → rx_K) : rx_K := o_ld rx_isR 0 (o_const 344 (o_callV 1 13 FX13_isSign (o_c1 rx_eq (vX13_sum_21 g j) (vX13_sum_30 g j))))
set_option maxRecDepth 20000 in
theorem wX13_sum_12 {dn : Nat} {g : Nat → List Nat → rx_H → Option (Nat × rx_H)} (hZ : zO b e D A X) (hg : ∀ i y M, vl8[i]? = some (y, M) → rx_Met (zV b e D A X) dn y M (g i)) (hd : 7 ≤ dn) (j : Nat → rx_K) (hj : ∀ k pc, [5][k]? = some pc → rx_OK (zV b e D A X) mX13_sum (dn + 1) pc (j k)) : rx_OK (zV b e D A X) mX13_sum (dn + 1) 12 (vX13_sum_12 g j) := by
  unfold vX13_sum_12
  refine s_aload_n hZ.1 dX13_sum_12 rfl ?_
  refine s_bipush dX13_sum_13 (by decide +kernel) ?_
  refine s_callV hZ.1 (Met_X13_isSign hZ) (Nat.succ_le_succ (Nat.le_trans (Nat.le_of_ble_eq_true rfl) hd)) vy_X13_isSign zcl13 zw3030 zw195 (Or.inl zw3028) dX13_sum_15 ?_
  exact s_if_ne dX13_sum_18 (by decide) (wX13_sum_30 hZ hg hd j hj) (wX13_sum_21 hZ hg hd j hj)
noncomputable def vX13_sum_5 (g : Nat → List Nat → rx_H → Option (Nat × rx_H)) (j : Nat → rx_K) : rx_K := o_ld rx_isR 0 (o_getf 13 20 (o_c1 rx_eq (vX13_sum_12 g j) (vX13_sum_83 g j)))
set_option maxRecDepth 20000 in
theorem wX13_sum_5 {dn : Nat} {g : Nat → List Nat → rx_H → Option (Nat × rx_H)} (hZ : zO b e D A X) (hg : ∀ i y M, vl8[i]? = some (y, M) → rx_Met (zV b e D A X) dn y M (g i)) (hd : 7 ≤ dn) (j : Nat → rx_K) (hj : ∀ k pc, [5][k]? = some pc → rx_OK (zV b e D A X) mX13_sum (dn + 1) pc (j k)) : rx_OK (zV b e D A X) mX13_sum (dn + 1) 5 (vX13_sum_5 g j) := by
  unfold vX13_sum_5
  refine s_aload_n hZ.1 dX13_sum_5 rfl ?_
  refine yg13_20 dX13_sum_6 zw4141 ?_
  exact s_if_ne dX13_sum_9 (by decide) (wX13_sum_83 hZ hg hd j hj) (wX13_sum_12 hZ hg hd j hj)
noncomputable def vX13_sum_0 (g : Nat → List Nat → rx_H → Option (Nat × rx_H)) (j : Nat → rx_K) : rx_K := o_ld rx_isR 0 (o_callV 0 13 (g 5) (o_st rx_isI 1 ((vX13_sum_5 g j))))
set_option maxRecDepth 20000 in
theorem wX13_sum_0 {dn : Nat} {g : Nat → List Nat → rx_H → Option (Nat × rx_H)} (hZ : zO b e D A X) (hg : ∀ i y M, vl8[i]? = some (y, M) → rx_Met (zV b e D A X) dn y M (g i)) (hd : 7 ≤ dn) (j : Nat → rx_K) (hj : ∀ k pc, [5][k]? = some pc → rx_OK (zV b e D A X) mX13_sum (dn + 1) pc (j k)) : rx_OK (zV b e D A X) mX13_sum (dn + 1) 0 (vX13_sum_0 g j) := by
  unfold vX13_sum_0
  refine s_aload_n hZ.1 dX13_sum_0 rfl ?_
  refine s_callV hZ.1 (hg 5 _ _ rfl) (Nat.le_refl _) vy_X13_product zcl13 zw3115 zw211 (Or.inl zw3113) dX13_sum_1 ?_
  refine s_istore_n hZ.1 dX13_sum_4 rfl (Nat.le_of_ble_eq_true rfl) ?_
  exact (wX13_sum_5 hZ hg hd j hj)
noncomputable def vhX13_sum (g : Nat → List Nat → rx_H → Option (Nat × rx_H)) (j : Nat → rx_K) : List rx_K := [vX13_sum_5 g j]
theorem vlX13_sum {dn : Nat} {g : Nat → List Nat → rx_H → Option (Nat × rx_H)} (hZ : zO b e D A X) (hg : ∀ i y M, vl8[i]? = some (y, M) → rx_Met (zV b e D A X) dn y M (g i)) (hd : 7 ≤ dn) : ∀ n k pc, [5][k]? = some pc → rx_OK (zV b e D A X) mX13_sum (dn + 1) pc (rx_J (vhX13_sum g) n k) := rx_loop fun j hj k pc h => by
  match k, h with
  | 0, h =>
    have e9 := Option.some.inj (show some 5 = some pc from h)
    subst e9
    exact wX13_sum_5 hZ hg hd j hj
  | _ + 1, h => exact absurd h (by simp)
noncomputable def FX13_sum (g : Nat → List Nat → rx_H → Option (Nat × rx_H)) : List Nat → rx_H → Option (Nat × rx_H) := rx_ent 3 (vX13_sum_0 g (rx_J (vhX13_sum g) 4000000000))
theorem Met_X13_sum {dn : Nat} {g : Nat → List Nat → rx_H → Option (Nat × rx_H)} (hZ : zO b e D A X) (hg : ∀ i y M, vl8[i]? = some (y, M) → rx_Met (zV b e D A X) dn y M (g i)) (hd : 7 ≤ dn) : rx_Met (zV b e D A X) (dn + 1) yX13_sum mX13_sum (FX13_sum g) := rx_entry hZ.1 (wX13_sum_0 hZ hg hd _ (vlX13_sum hZ hg hd 4000000000)) (by decide +kernel) rfl (fun h => by cases h)
noncomputable def vX13_unit_273 (g : Nat → List Nat → rx_H → Option (Nat × rx_H)) (j : Nat → rx_K) : rx_K := o_ld rx_isI 1 (o_ret1 rx_isI)
set_option maxRecDepth 20000 in
theorem wX13_unit_273 {dn : Nat} {g : Nat → List Nat → rx_H → Option (Nat × rx_H)} (hZ : zO b e D A X) (hg : ∀ i y M, vl8[i]? = some (y, M) → rx_Met (zV b e D A X) dn y M (g i)) (hd : 7 ≤ dn) (j : Nat → rx_K) (hj : ∀ k pc, [48][k]? = some pc → rx_OK (zV b e D A X) mX13_unit (dn + 1) pc (j k)) : rx_OK (zV b e D A X) mX13_unit (dn + 1) 273 (vX13_unit_273 g j) := by
  unfold vX13_unit_273
  refine s_iload_n hZ.1 dX13_unit_273 rfl ?_
  exact s_iret hZ.1 rfl dX13_unit_274
noncomputable def vX13_unit_269 (g : Nat → List Nat → rx_H → Option (Nat × rx_H)) (j : Nat → rx_K) : rx_K := o_st rx_isI 2 ((j 0))
set_option maxRecDepth 20000 in
theorem wX13_unit_269 {dn : Nat} {g : Nat → List Nat → rx_H → Option (Nat × rx_H)} (hZ : zO b e D A X) (hg : ∀ i y M, vl8[i]? = some (y, M) → rx_Met (zV b e D A X) dn y M (g i)) (hd : 7 ≤ dn) (j : Nat → rx_K) (hj : ∀ k pc, [48][k]? = some pc → rx_OK (zV b e D A X) mX13_unit (dn + 1) pc (j k)) : rx_OK (zV b e D A X) mX13_unit (dn + 1) 269 (vX13_unit_269 g j) := by
  unfold vX13_unit_269
  refine s_istore_n hZ.1 dX13_unit_269 rfl (Nat.le_of_ble_eq_true rfl) ?_
  exact s_goto dX13_unit_270 (by decide) (hj 0 48 rfl)
noncomputable def vX13_unit_268 (g : Nat → List Nat → rx_H → Option (Nat × rx_H)) (j : Nat → rx_K) : rx_K := o_const 0 ((vX13_unit_269 g j))
set_option maxRecDepth 20000 in
theorem wX13_unit_268 {dn : Nat} {g : Nat → List Nat → rx_H → Option (Nat × rx_H)} (hZ : zO b e D A X) (hg : ∀ i y M, vl8[i]? = some (y, M) → rx_Met (zV b e D A X) dn y M (g i)) (hd : 7 ≤ dn) (j : Nat → rx_K) (hj : ∀ k pc, [48][k]? = some pc → rx_OK (zV b e D A X) mX13_unit (dn + 1) pc (j k)) : rx_OK (zV b e D A X) mX13_unit (dn + 1) 268 (vX13_unit_268 g j) := by
  unfold vX13_unit_268
  refine s_iconst dX13_unit_268 (by decide +kernel) ?_
  exact (wX13_unit_269 hZ hg hd j hj)
noncomputable def vX13_unit_264 (g : Nat → List Nat → rx_H → Option (Nat × rx_H)) (j : Nat → rx_K) : rx_K := o_const 8 ((vX13_unit_269 g j))
set_option maxRecDepth 20000 in
theorem wX13_unit_264 {dn : Nat} {g : Nat → List Nat → rx_H → Option (Nat × rx_H)} (hZ : zO b e D A X) (hg : ∀ i y M, vl8[i]? = some (y, M) → rx_Met (zV b e D A X) dn y M (g i)) (hd : 7 ≤ dn) (j : Nat → rx_K) (hj : ∀ k pc, [48][k]? = some pc → rx_OK (zV b e D A X) mX13_unit (dn + 1) pc (j k)) : rx_OK (zV b e D A X) mX13_unit (dn + 1) 264 (vX13_unit_264 g j) := by
  unfold vX13_unit_264
  refine s_iconst dX13_unit_264 (by decide +kernel) ?_
  exact s_goto dX13_unit_265 (by decide) (wX13_unit_269 hZ hg hd j hj)
noncomputable def vX13_unit_257 (g : Nat → List Nat → rx_H → Option (Nat × rx_H)) (j : Nat → rx_K) : rx_K := o_ld rx_isR 0 (o_getf 13 20 (o_c1 rx_eq (vX13_unit_264 g j) (vX13_unit_268 g j)))
set_option maxRecDepth 20000 in
theorem wX13_unit_257 {dn : Nat} {g : Nat → List Nat → rx_H → Option (Nat × rx_H)} (hZ : zO b e D A X) (hg : ∀ i y M, vl8[i]? = some (y, M) → rx_Met (zV b e D A X) dn y M (g i)) (hd : 7 ≤ dn) (j : Nat → rx_K) (hj : ∀ k pc, [48][k]? = some pc → rx_OK (zV b e D A X) mX13_unit (dn + 1) pc (j k)) : rx_OK (zV b e D A X) mX13_unit (dn + 1) 257 (vX13_unit_257 g j) := by
  unfold vX13_unit_257
  refine s_aload_n hZ.1 dX13_unit_257 rfl ?_
  refine yg13_20 dX13_unit_258 zw4141 ?_
  exact s_if_ne dX13_unit_261 (by decide) (wX13_unit_268 hZ hg hd j hj) (wX13_unit_264 hZ hg hd j hj)
noncomputable def vX13_unit_253 (g : Nat → List Nat → rx_H → Option (Nat × rx_H)) (j : Nat → rx_K) : rx_K := o_ld rx_isI 2 (o_c1 rx_eq (vX13_unit_268 g j) (vX13_unit_257 g j))
set_option maxRecDepth 20000 in
theorem wX13_unit_253 {dn : Nat} {g : Nat → List Nat → rx_H → Option (Nat × rx_H)} (hZ : zO b e D A X) (hg : ∀ i y M, vl8[i]? = some (y, M) → rx_Met (zV b e D A X) dn y M (g i)) (hd : 7 ≤ dn) (j : Nat → rx_K) (hj : ∀ k pc, [48][k]? = some pc → rx_OK (zV b e D A X) mX13_unit (dn + 1) pc (j k)) : rx_OK (zV b e D A X) mX13_unit (dn + 1) 253 (vX13_unit_253 g j) := by
  unfold vX13_unit_253
  refine s_iload_n hZ.1 dX13_unit_253 rfl ?_
  exact s_if_eq dX13_unit_254 (by decide) (wX13_unit_268 hZ hg hd j hj) (wX13_unit_257 hZ hg hd j hj)
noncomputable def vX13_unit_251 (g : Nat → List Nat → rx_H → Option (Nat × rx_H)) (j : Nat → rx_K) : rx_K := o_const 0 (o_st rx_isI 2 ((vX13_unit_253 g j)))
set_option maxRecDepth 20000 in
theorem wX13_unit_251 {dn : Nat} {g : Nat → List Nat → rx_H → Option (Nat × rx_H)} (hZ : zO b e D A X) (hg : ∀ i y M, vl8[i]? = some (y, M) → rx_Met (zV b e D A X) dn y M (g i)) (hd : 7 ≤ dn) (j : Nat → rx_K) (hj : ∀ k pc, [48][k]? = some pc → rx_OK (zV b e D A X) mX13_unit (dn + 1) pc (j k)) : rx_OK (zV b e D A X) mX13_unit (dn + 1) 251 (vX13_unit_251 g j) := by
  unfold vX13_unit_251
  refine s_iconst dX13_unit_251 (by decide +kernel) ?_
  refine s_istore_n hZ.1 dX13_unit_252 rfl (Nat.le_of_ble_eq_true rfl) ?_
  exact (wX13_unit_253 hZ hg hd j hj)
noncomputable def vX13_unit_229 (g : Nat → List Nat → rx_H → Option (Nat × rx_H)) (j : Nat → rx_K) : rx_K := o_ld rx_isI 4 (o_ld rx_isR 0 (o_ld rx_isI 3 (o_callV 1 13 FX13_placeAt (o_ast 0 (fun v => v) rx_isI (o_ld rx_isR 0 (o_getf 13 77 (o_ld rx_isI 4 (o_ld rx_isI 1 (o_ast 0 (fun v => v) rx_isI (o_ld rx_isI 4 (o_st rx_isI 1 ((vX13_unit_253 g j)))))))))))))
set_option maxRecDepth 20000 in
theorem wX13_unit_229 {dn : Nat} {g : Nat → List Nat → rx_H → Option (Nat × rx_H)} (hZ : zO b e D A X) (hg : ∀ i y M, vl8[i]? = some (y, M) → rx_Met (zV b e D A X) dn y M (g i)) (hd : 7 ≤ dn) (j : Nat → rx_K) (hj : ∀ k pc, [48][k]? = some pc → rx_OK (zV b e D A X) mX13_unit (dn + 1) pc (j k)) : rx_OK (zV b e D A X) mX13_unit (dn + 1) 229 (vX13_unit_229 g j) := by
  unfold vX13_unit_229
  refine s_iload hZ.1 dX13_unit_229 ?_
  refine s_aload_n hZ.1 dX13_unit_231 rfl ?_
  refine s_iload_n hZ.1 dX13_unit_232 rfl ?_
  refine s_callV hZ.1 (Met_X13_placeAt hZ) (Nat.succ_le_succ (Nat.le_trans (Nat.le_of_ble_eq_true rfl) hd)) vy_X13_placeAt zcl13 zw3000 zw189 (Or.inl zw2998) dX13_unit_233 ?_
  refine s_iast hZ.1 (tt := 0) rfl dX13_unit_236 ?_
  refine s_aload_n hZ.1 dX13_unit_237 rfl ?_
  refine yg13_77 dX13_unit_238 zw4198 ?_
  refine s_iload hZ.1 dX13_unit_241 ?_
  refine s_iload_n hZ.1 dX13_unit_243 rfl ?_
  refine s_iast hZ.1 (tt := 0) rfl dX13_unit_244 ?_
  refine s_iload hZ.1 dX13_unit_245 ?_
  refine s_istore_n hZ.1 dX13_unit_247 rfl (Nat.le_of_ble_eq_true rfl) ?_
  exact s_goto dX13_unit_248 (by decide) (wX13_unit_253 hZ hg hd j hj)
noncomputable def vX13_unit_188 (g : Nat → List Nat → rx_H → Option (Nat × rx_H)) (j : Nat → rx_K) : rx_K := o_ld rx_isR 0 (o_callV 0 13 FX13_step (o_ld rx_isR 0 (o_const 8 (o_const 0 (o_callV 2 13 FX13_want (o_st rx_isI 3 (o_ld rx_isR 0 (o_const 112 (o_ld rx_isR 0 (o_getf 13 71 (o_ld rx_isI 1 (o_ald 0 (o_callV 2 13 FX13_node (o_st rx_isI 4 (o_ld rx_isR 0 (o_getf 13 75 (o_ld rx_isI 4 (o_ld rx_isR 0 (o_ld rx_isI 3 (o_callV 1 13 FX13_nameAt (o_ast 1 (fun v => v) rx_isL (o_ld rx_isR 0 (o_getf 13 73 ((vX13_unit_229 g j)))))))))))))))))))))))))
set_option maxRecDepth 20000 in
theorem wX13_unit_188 {dn : Nat} {g : Nat → List Nat → rx_H → Option (Nat × rx_H)} (hZ : zO b e D A X) (hg : ∀ i y M, vl8[i]? = some (y, M) → rx_Met (zV b e D A X) dn y M (g i)) (hd : 7 ≤ dn) (j : Nat → rx_K) (hj : ∀ k pc, [48][k]? = some pc → rx_OK (zV b e D A X) mX13_unit (dn + 1) pc (j k)) : rx_OK (zV b e D A X) mX13_unit (dn + 1) 188 (vX13_unit_188 g j) := by
  unfold vX13_unit_188
  refine s_aload_n hZ.1 dX13_unit_188 rfl ?_
  refine s_callV hZ.1 (Met_X13_step hZ) (Nat.succ_le_succ (Nat.le_trans (Nat.le_of_ble_eq_true rfl) hd)) vy_X13_step zcl13 zw2996 zw188 (Or.inl zw2994) dX13_unit_189 ?_
  refine s_aload_n hZ.1 dX13_unit_192 rfl ?_
  refine s_iconst dX13_unit_193 (by decide +kernel) ?_
  refine s_iconst dX13_unit_194 (by decide +kernel) ?_
  refine s_callV hZ.1 (Met_X13_want hZ) (Nat.succ_le_succ (Nat.le_trans (Nat.le_of_ble_eq_true rfl) hd)) vy_X13_want zcl13 zw3020 zw193 (Or.inl zw3018) dX13_unit_195 ?_
  refine s_istore_n hZ.1 dX13_unit_198 rfl (Nat.le_of_ble_eq_true rfl) ?_
  refine s_aload_n hZ.1 dX13_unit_199 rfl ?_
  refine s_bipush dX13_unit_200 (by decide +kernel) ?_
  refine s_aload_n hZ.1 dX13_unit_202 rfl ?_
  refine yg13_71 dX13_unit_203 zw4192 ?_
  refine s_iload_n hZ.1 dX13_unit_206 rfl ?_
  refine s_iald (tt := 0) rfl dX13_unit_207 ?_
  refine s_callV hZ.1 (Met_X13_node hZ) (Nat.succ_le_succ (Nat.le_trans (Nat.le_of_ble_eq_true rfl) hd)) vy_X13_node zcl13 zw3103 zw208 (Or.inl zw3101) dX13_unit_208 ?_
  refine s_istore hZ.1 dX13_unit_211 (Nat.le_of_ble_eq_true rfl) ?_
  refine s_aload_n hZ.1 dX13_unit_213 rfl ?_
  refine yg13_75 dX13_unit_214 zw4196 ?_
  refine s_iload hZ.1 dX13_unit_217 ?_
  refine s_aload_n hZ.1 dX13_unit_219 rfl ?_
  refine s_iload_n hZ.1 dX13_unit_220 rfl ?_
  refine s_callV hZ.1 (Met_X13_nameAt hZ) (Nat.succ_le_succ (Nat.le_trans (Nat.le_of_ble_eq_true rfl) hd)) vy_X13_nameAt zcl13 zw2987 zw187 (Or.inl zw2985) dX13_unit_221 ?_
  refine s_last (tt := 1) rfl dX13_unit_224 ?_
  refine s_aload_n hZ.1 dX13_unit_225 rfl ?_
  refine yg13_73 dX13_unit_226 zw4194 ?_
  exact (wX13_unit_229 hZ hg hd j hj)
noncomputable def vX13_unit_178 (g : Nat → List Nat → rx_H → Option (Nat × rx_H)) (j : Nat → rx_K) : rx_K := o_ld rx_isR 0 (o_const 964 (o_callV 1 13 FX13_isWordAt (o_c1 rx_eq (vX13_unit_251 g j) (vX13_unit_188 g j))))
set_option maxRecDepth 20000 in
theorem wX13_unit_178 {dn : Nat} {g : Nat → List Nat → rx_H → Option (Nat × rx_H)} (hZ : zO b e D A X) (hg : ∀ i y M, vl8[i]? = some (y, M) → rx_Met (zV b e D A X) dn y M (g i)) (hd : 7 ≤ dn) (j : Nat → rx_K) (hj : ∀ k pc, [48][k]? = some pc → rx_OK (zV b e D A X) mX13_unit (dn + 1) pc (j k)) : rx_OK (zV b e D A X) mX13_unit (dn + 1) 178 (vX13_unit_178 g j) := by
  unfold vX13_unit_178
  refine s_aload_n hZ.1 dX13_unit_178 rfl ?_
  refine s_ldcwS (k := 120) (zo_R120 hZ) dX13_unit_179 ?_
  refine s_callV hZ.1 (Met_X13_isWordAt hZ) (Nat.succ_le_succ (Nat.le_trans (Nat.le_of_ble_eq_true rfl) hd)) vy_X13_isWordAt zcl13 zw2983 zw186 (Or.inl zw2981) dX13_unit_182 ?_
  exact s_if_eq dX13_unit_185 (by decide) (wX13_unit_251 hZ hg hd j hj) (wX13_unit_188 hZ hg hd j hj)
noncomputable def vX13_unit_171 (g : Nat → List Nat → rx_H → Option (Nat × rx_H)) (j : Nat → rx_K) : rx_K := o_ast 0 (fun v => v) rx_isI (o_ld rx_isI 5 (o_st rx_isI 1 ((vX13_unit_253 g j))))
set_option maxRecDepth 20000 in
theorem wX13_unit_171 {dn : Nat} {g : Nat → List Nat → rx_H → Option (Nat × rx_H)} (hZ : zO b e D A X) (hg : ∀ i y M, vl8[i]? = some (y, M) → rx_Met (zV b e D A X) dn y M (g i)) (hd : 7 ≤ dn) (j : Nat → rx_K) (hj : ∀ k pc, [48][k]? = some pc → rx_OK (zV b e D A X) mX13_unit (dn + 1) pc (j k)) : rx_OK (zV b e D A X) mX13_unit (dn + 1) 171 (vX13_unit_171 g j) := by
  unfold vX13_unit_171
  refine s_iast hZ.1 (tt := 0) rfl dX13_unit_171 ?_
  refine s_iload hZ.1 dX13_unit_172 ?_
  refine s_istore_n hZ.1 dX13_unit_174 rfl (Nat.le_of_ble_eq_true rfl) ?_
  exact s_goto dX13_unit_175 (by decide) (wX13_unit_253 hZ hg hd j hj)
noncomputable def vX13_unit_169 (g : Nat → List Nat → rx_H → Option (Nat × rx_H)) (j : Nat → rx_K) : rx_K := o_const 34359738352 ((vX13_unit_171 g j))
set_option maxRecDepth 20000 in
theorem wX13_unit_169 {dn : Nat} {g : Nat → List Nat → rx_H → Option (Nat × rx_H)} (hZ : zO b e D A X) (hg : ∀ i y M, vl8[i]? = some (y, M) → rx_Met (zV b e D A X) dn y M (g i)) (hd : 7 ≤ dn) (j : Nat → rx_K) (hj : ∀ k pc, [48][k]? = some pc → rx_OK (zV b e D A X) mX13_unit (dn + 1) pc (j k)) : rx_OK (zV b e D A X) mX13_unit (dn + 1) 169 (vX13_unit_169 g j) := by
  unfold vX13_unit_169
  refine s_bipush dX13_unit_169 (by decide +kernel) ?_
  exact (wX13_unit_171 hZ hg hd j hj)
noncomputable def vX13_unit_162 (g : Nat → List Nat → rx_H → Option (Nat × rx_H)) (j : Nat → rx_K) : rx_K := o_ld rx_isR 0 (o_callV 0 13 (g 0) ((vX13_unit_171 g j)))
set_option maxRecDepth 20000 in
theorem wX13_unit_162 {dn : Nat} {g : Nat → List Nat → rx_H → Option (Nat × rx_H)} (hZ : zO b e D A X) (hg : ∀ i y M, vl8[i]? = some (y, M) → rx_Met (zV b e D A X) dn y M (g i)) (hd : 7 ≤ dn) (j : Nat → rx_K) (hj : ∀ k pc, [48][k]? = some pc → rx_OK (zV b e D A X) mX13_unit (dn + 1) pc (j k)) : rx_OK (zV b e D A X) mX13_unit (dn + 1) 162 (vX13_unit_162 g j) := by
  unfold vX13_unit_162
  refine s_aload_n hZ.1 dX13_unit_162 rfl ?_
  refine s_callV hZ.1 (hg 0 _ _ rfl) (Nat.le_refl _) vy_X13_arguments zcl13 zw3127 zw214 (Or.inl zw3125) dX13_unit_163 ?_
  exact s_goto dX13_unit_166 (by decide) (wX13_unit_171 hZ hg hd j hj)
noncomputable def vX13_unit_150 (g : Nat → List Nat → rx_H → Option (Nat × rx_H)) (j : Nat → rx_K) : rx_K := o_ast 0 (fun v => v) rx_isI (o_ld rx_isR 0 (o_getf 13 78 (o_ld rx_isI 5 (o_ld rx_isI 4 (o_c1 rx_eq (vX13_unit_169 g j) (vX13_unit_162 g j))))))
set_option maxRecDepth 20000 in
theorem wX13_unit_150 {dn : Nat} {g : Nat → List Nat → rx_H → Option (Nat × rx_H)} (hZ : zO b e D A X) (hg : ∀ i y M, vl8[i]? = some (y, M) → rx_Met (zV b e D A X) dn y M (g i)) (hd : 7 ≤ dn) (j : Nat → rx_K) (hj : ∀ k pc, [48][k]? = some pc → rx_OK (zV b e D A X) mX13_unit (dn + 1) pc (j k)) : rx_OK (zV b e D A X) mX13_unit (dn + 1) 150 (vX13_unit_150 g j) := by
  unfold vX13_unit_150
  refine s_iast hZ.1 (tt := 0) rfl dX13_unit_150 ?_
  refine s_aload_n hZ.1 dX13_unit_151 rfl ?_
  refine yg13_78 dX13_unit_152 zw4199 ?_
  refine s_iload hZ.1 dX13_unit_155 ?_
  refine s_iload hZ.1 dX13_unit_157 ?_
  exact s_if_eq dX13_unit_159 (by decide) (wX13_unit_169 hZ hg hd j hj) (wX13_unit_162 hZ hg hd j hj)
noncomputable def vX13_unit_108 (g : Nat → List Nat → rx_H → Option (Nat × rx_H)) (j : Nat → rx_K) : rx_K := o_ld rx_isR 0 (o_getf 13 71 (o_ld rx_isI 1 (o_ald 0 (o_callV 2 13 FX13_node (o_st rx_isI 5 (o_ld rx_isR 0 (o_getf 13 74 (o_ld rx_isI 5 (o_ld rx_isR 0 (o_ld rx_isI 3 (o_callV 1 13 FX13_nameAt (o_ast 1 (fun v => v) rx_isL (o_ld rx_isR 0 (o_getf 13 72 (o_ld rx_isI 5 (o_ld rx_isR 0 (o_ld rx_isI 3 (o_callV 1 13 FX13_placeAt (o_ast 0 (fun v => v) rx_isI (o_ld rx_isR 0 (o_getf 13 77 (o_ld rx_isI 5 (o_ld rx_isI 1 ((vX13_unit_150 g j)))))))))))))))))))))))))
set_option maxRecDepth 20000 in
theorem wX13_unit_108 {dn : Nat} {g : Nat → List Nat → rx_H → Option (Nat × rx_H)} (hZ : zO b e D A X) (hg : ∀ i y M, vl8[i]? = some (y, M) → rx_Met (zV b e D A X) dn y M (g i)) (hd : 7 ≤ dn) (j : Nat → rx_K) (hj : ∀ k pc, [48][k]? = some pc → rx_OK (zV b e D A X) mX13_unit (dn + 1) pc (j k)) : rx_OK (zV b e D A X) mX13_unit (dn + 1) 108 (vX13_unit_108 g j) := by
  unfold vX13_unit_108
  refine s_aload_n hZ.1 dX13_unit_108 rfl ?_
  refine yg13_71 dX13_unit_109 zw4192 ?_
  refine s_iload_n hZ.1 dX13_unit_112 rfl ?_
  refine s_iald (tt := 0) rfl dX13_unit_113 ?_
  refine s_callV hZ.1 (Met_X13_node hZ) (Nat.succ_le_succ (Nat.le_trans (Nat.le_of_ble_eq_true rfl) hd)) vy_X13_node zcl13 zw3103 zw208 (Or.inl zw3101) dX13_unit_114 ?_
  refine s_istore hZ.1 dX13_unit_117 (Nat.le_of_ble_eq_true rfl) ?_
  refine s_aload_n hZ.1 dX13_unit_119 rfl ?_
  refine yg13_74 dX13_unit_120 zw4195 ?_
  refine s_iload hZ.1 dX13_unit_123 ?_
  refine s_aload_n hZ.1 dX13_unit_125 rfl ?_
  refine s_iload_n hZ.1 dX13_unit_126 rfl ?_
  refine s_callV hZ.1 (Met_X13_nameAt hZ) (Nat.succ_le_succ (Nat.le_trans (Nat.le_of_ble_eq_true rfl) hd)) vy_X13_nameAt zcl13 zw2987 zw187 (Or.inl zw2985) dX13_unit_127 ?_
  refine s_last (tt := 1) rfl dX13_unit_130 ?_
  refine s_aload_n hZ.1 dX13_unit_131 rfl ?_
  refine yg13_72 dX13_unit_132 zw4193 ?_
  refine s_iload hZ.1 dX13_unit_135 ?_
  refine s_aload_n hZ.1 dX13_unit_137 rfl ?_
  refine s_iload_n hZ.1 dX13_unit_138 rfl ?_
  refine s_callV hZ.1 (Met_X13_placeAt hZ) (Nat.succ_le_succ (Nat.le_trans (Nat.le_of_ble_eq_true rfl) hd)) vy_X13_placeAt zcl13 zw3000 zw189 (Or.inl zw2998) dX13_unit_139 ?_
  refine s_iast hZ.1 (tt := 0) rfl dX13_unit_142 ?_
  refine s_aload_n hZ.1 dX13_unit_143 rfl ?_
  refine yg13_77 dX13_unit_144 zw4198 ?_
  refine s_iload hZ.1 dX13_unit_147 ?_
  refine s_iload_n hZ.1 dX13_unit_149 rfl ?_
  exact (wX13_unit_150 hZ hg hd j hj)
noncomputable def vX13_unit_106 (g : Nat → List Nat → rx_H → Option (Nat × rx_H)) (j : Nat → rx_K) : rx_K := o_const 96 ((vX13_unit_108 g j))
set_option maxRecDepth 20000 in
theorem wX13_unit_106 {dn : Nat} {g : Nat → List Nat → rx_H → Option (Nat × rx_H)} (hZ : zO b e D A X) (hg : ∀ i y M, vl8[i]? = some (y, M) → rx_Met (zV b e D A X) dn y M (g i)) (hd : 7 ≤ dn) (j : Nat → rx_K) (hj : ∀ k pc, [48][k]? = some pc → rx_OK (zV b e D A X) mX13_unit (dn + 1) pc (j k)) : rx_OK (zV b e D A X) mX13_unit (dn + 1) 106 (vX13_unit_106 g j) := by
  unfold vX13_unit_106
  refine s_bipush dX13_unit_106 (by decide +kernel) ?_
  exact (wX13_unit_108 hZ hg hd j hj)
noncomputable def vX13_unit_101 (g : Nat → List Nat → rx_H → Option (Nat × rx_H)) (j : Nat → rx_K) : rx_K := o_const 104 ((vX13_unit_108 g j))
set_option maxRecDepth 20000 in
theorem wX13_unit_101 {dn : Nat} {g : Nat → List Nat → rx_H → Option (Nat × rx_H)} (hZ : zO b e D A X) (hg : ∀ i y M, vl8[i]? = some (y, M) → rx_Met (zV b e D A X) dn y M (g i)) (hd : 7 ≤ dn) (j : Nat → rx_K) (hj : ∀ k pc, [48][k]? = some pc → rx_OK (zV b e D A X) mX13_unit (dn + 1) pc (j k)) : rx_OK (zV b e D A X) mX13_unit (dn + 1) 101 (vX13_unit_101 g j) := by
  unfold vX13_unit_101
  refine s_bipush dX13_unit_101 (by decide +kernel) ?_
  exact s_goto dX13_unit_103 (by decide) (wX13_unit_108 hZ hg hd j hj)
noncomputable def vX13_unit_93 (g : Nat → List Nat → rx_H → Option (Nat × rx_H)) (j : Nat → rx_K) : rx_K := o_st rx_isI 4 (o_ld rx_isR 0 (o_ld rx_isI 4 (o_c1 rx_eq (vX13_unit_106 g j) (vX13_unit_101 g j))))
set_option maxRecDepth 20000 in
theorem wX13_unit_93 {dn : Nat} {g : Nat → List Nat → rx_H → Option (Nat × rx_H)} (hZ : zO b e D A X) (hg : ∀ i y M, vl8[i]? = some (y, M) → rx_Met (zV b e D A X) dn y M (g i)) (hd : 7 ≤ dn) (j : Nat → rx_K) (hj : ∀ k pc, [48][k]? = some pc → rx_OK (zV b e D A X) mX13_unit (dn + 1) pc (j k)) : rx_OK (zV b e D A X) mX13_unit (dn + 1) 93 (vX13_unit_93 g j) := by
  unfold vX13_unit_93
  refine s_istore hZ.1 dX13_unit_93 (Nat.le_of_ble_eq_true rfl) ?_
  refine s_aload_n hZ.1 dX13_unit_95 rfl ?_
  refine s_iload hZ.1 dX13_unit_96 ?_
  exact s_if_eq dX13_unit_98 (by decide) (wX13_unit_106 hZ hg hd j hj) (wX13_unit_101 hZ hg hd j hj)
noncomputable def vX13_unit_92 (g : Nat → List Nat → rx_H → Option (Nat × rx_H)) (j : Nat → rx_K) : rx_K := o_const 0 ((vX13_unit_93 g j))
set_option maxRecDepth 20000 in
theorem wX13_unit_92 {dn : Nat} {g : Nat → List Nat → rx_H → Option (Nat × rx_H)} (hZ : zO b e D A X) (hg : ∀ i y M, vl8[i]? = some (y, M) → rx_Met (zV b e D A X) dn y M (g i)) (hd : 7 ≤ dn) (j : Nat → rx_K) (hj : ∀ k pc, [48][k]? = some pc → rx_OK (zV b e D A X) mX13_unit (dn + 1) pc (j k)) : rx_OK (zV b e D A X) mX13_unit (dn + 1) 92 (vX13_unit_92 g j) := by
  unfold vX13_unit_92
  refine s_iconst dX13_unit_92 (by decide +kernel) ?_
  exact (wX13_unit_93 hZ hg hd j hj)
noncomputable def vX13_unit_88 (g : Nat → List Nat → rx_H → Option (Nat × rx_H)) (j : Nat → rx_K) : rx_K := o_const 8 ((vX13_unit_93 g j))
set_option maxRecDepth 20000 in
theorem wX13_unit_88 {dn : Nat} {g : Nat → List Nat → rx_H → Option (Nat × rx_H)} (hZ : zO b e D A X) (hg : ∀ i y M, vl8[i]? = some (y, M) → rx_Met (zV b e D A X) dn y M (g i)) (hd : 7 ≤ dn) (j : Nat → rx_K) (hj : ∀ k pc, [48][k]? = some pc → rx_OK (zV b e D A X) mX13_unit (dn + 1) pc (j k)) : rx_OK (zV b e D A X) mX13_unit (dn + 1) 88 (vX13_unit_88 g j) := by
  unfold vX13_unit_88
  refine s_iconst dX13_unit_88 (by decide +kernel) ?_
  exact s_goto dX13_unit_89 (by decide) (wX13_unit_93 hZ hg hd j hj)
noncomputable def vX13_unit_79 (g : Nat → List Nat → rx_H → Option (Nat × rx_H)) (j : Nat → rx_K) : rx_K := o_ld rx_isR 0 (o_const 320 (o_callV 1 13 FX13_isSign (o_c1 rx_eq (vX13_unit_92 g j) (vX13_unit_88 g j))))
set_option maxRecDepth 20000 in
theorem wX13_unit_79 {dn : Nat} {g : Nat → List Nat → rx_H → Option (Nat × rx_H)} (hZ : zO b e D A X) (hg : ∀ i y M, vl8[i]? = some (y, M) → rx_Met (zV b e D A X) dn y M (g i)) (hd : 7 ≤ dn) (j : Nat → rx_K) (hj : ∀ k pc, [48][k]? = some pc → rx_OK (zV b e D A X) mX13_unit (dn + 1) pc (j k)) : rx_OK (zV b e D A X) mX13_unit (dn + 1) 79 (vX13_unit_79 g j) := by
  unfold vX13_unit_79
  refine s_aload_n hZ.1 dX13_unit_79 rfl ?_
  refine s_bipush dX13_unit_80 (by decide +kernel) ?_
  refine s_callV hZ.1 (Met_X13_isSign hZ) (Nat.succ_le_succ (Nat.le_trans (Nat.le_of_ble_eq_true rfl) hd)) vy_X13_isSign zcl13 zw3030 zw195 (Or.inl zw3028) dX13_unit_82 ?_
  exact s_if_eq dX13_unit_85 (by decide) (wX13_unit_92 hZ hg hd j hj) (wX13_unit_88 hZ hg hd j hj)
noncomputable def vX13_unit_61 (g : Nat → List Nat → rx_H → Option (Nat × rx_H)) (j : Nat → rx_K) : rx_K := o_ld rx_isR 0 (o_callV 0 13 FX13_step (o_ld rx_isR 0 (o_const 16 (o_const 0 (o_callV 2 13 FX13_want (o_st rx_isI 3 (o_ld rx_isR 0 (o_getf 13 20 (o_c1 rx_eq (vX13_unit_79 g j) (vX13_unit_92 g j))))))))))
set_option maxRecDepth 20000 in
theorem wX13_unit_61 {dn : Nat} {g : Nat → List Nat → rx_H → Option (Nat × rx_H)} (hZ : zO b e D A X) (hg : ∀ i y M, vl8[i]? = some (y, M) → rx_Met (zV b e D A X) dn y M (g i)) (hd : 7 ≤ dn) (j : Nat → rx_K) (hj : ∀ k pc, [48][k]? = some pc → rx_OK (zV b e D A X) mX13_unit (dn + 1) pc (j k)) : rx_OK (zV b e D A X) mX13_unit (dn + 1) 61 (vX13_unit_61 g j) := by
  unfold vX13_unit_61
  refine s_aload_n hZ.1 dX13_unit_61 rfl ?_
  refine s_callV hZ.1 (Met_X13_step hZ) (Nat.succ_le_succ (Nat.le_trans (Nat.le_of_ble_eq_true rfl) hd)) vy_X13_step zcl13 zw2996 zw188 (Or.inl zw2994) dX13_unit_62 ?_
  refine s_aload_n hZ.1 dX13_unit_65 rfl ?_
  refine s_iconst dX13_unit_66 (by decide +kernel) ?_
  refine s_iconst dX13_unit_67 (by decide +kernel) ?_
  refine s_callV hZ.1 (Met_X13_want hZ) (Nat.succ_le_succ (Nat.le_trans (Nat.le_of_ble_eq_true rfl) hd)) vy_X13_want zcl13 zw3020 zw193 (Or.inl zw3018) dX13_unit_68 ?_
  refine s_istore_n hZ.1 dX13_unit_71 rfl (Nat.le_of_ble_eq_true rfl) ?_
  refine s_aload_n hZ.1 dX13_unit_72 rfl ?_
  refine yg13_20 dX13_unit_73 zw4141 ?_
  exact s_if_ne dX13_unit_76 (by decide) (wX13_unit_92 hZ hg hd j hj) (wX13_unit_79 hZ hg hd j hj)
noncomputable def vX13_unit_52 (g : Nat → List Nat → rx_H → Option (Nat × rx_H)) (j : Nat → rx_K) : rx_K := o_ld rx_isR 0 (o_const 368 (o_callV 1 13 FX13_isSign (o_c1 rx_eq (vX13_unit_178 g j) (vX13_unit_61 g j))))
set_option maxRecDepth 20000 in
theorem wX13_unit_52 {dn : Nat} {g : Nat → List Nat → rx_H → Option (Nat × rx_H)} (hZ : zO b e D A X) (hg : ∀ i y M, vl8[i]? = some (y, M) → rx_Met (zV b e D A X) dn y M (g i)) (hd : 7 ≤ dn) (j : Nat → rx_K) (hj : ∀ k pc, [48][k]? = some pc → rx_OK (zV b e D A X) mX13_unit (dn + 1) pc (j k)) : rx_OK (zV b e D A X) mX13_unit (dn + 1) 52 (vX13_unit_52 g j) := by
  unfold vX13_unit_52
  refine s_aload_n hZ.1 dX13_unit_52 rfl ?_
  refine s_bipush dX13_unit_53 (by decide +kernel) ?_
  refine s_callV hZ.1 (Met_X13_isSign hZ) (Nat.succ_le_succ (Nat.le_trans (Nat.le_of_ble_eq_true rfl) hd)) vy_X13_isSign zcl13 zw3030 zw195 (Or.inl zw3028) dX13_unit_55 ?_
  exact s_if_eq dX13_unit_58 (by decide) (wX13_unit_178 hZ hg hd j hj) (wX13_unit_61 hZ hg hd j hj)
noncomputable def vX13_unit_48 (g : Nat → List Nat → rx_H → Option (Nat × rx_H)) (j : Nat → rx_K) : rx_K := o_ld rx_isI 2 (o_c1 rx_eq (vX13_unit_273 g j) (vX13_unit_52 g j))
set_option maxRecDepth 20000 in
theorem wX13_unit_48 {dn : Nat} {g : Nat → List Nat → rx_H → Option (Nat × rx_H)} (hZ : zO b e D A X) (hg : ∀ i y M, vl8[i]? = some (y, M) → rx_Met (zV b e D A X) dn y M (g i)) (hd : 7 ≤ dn) (j : Nat → rx_K) (hj : ∀ k pc, [48][k]? = some pc → rx_OK (zV b e D A X) mX13_unit (dn + 1) pc (j k)) : rx_OK (zV b e D A X) mX13_unit (dn + 1) 48 (vX13_unit_48 g j) := by
  unfold vX13_unit_48
  refine s_iload_n hZ.1 dX13_unit_48 rfl ?_
  exact s_if_eq dX13_unit_49 (by decide) (wX13_unit_273 hZ hg hd j hj) (wX13_unit_52 hZ hg hd j hj)
noncomputable def vX13_unit_47 (g : Nat → List Nat → rx_H → Option (Nat × rx_H)) (j : Nat → rx_K) : rx_K := o_st rx_isI 2 ((vX13_unit_48 g j))
set_option maxRecDepth 20000 in
theorem wX13_unit_47 {dn : Nat} {g : Nat → List Nat → rx_H → Option (Nat × rx_H)} (hZ : zO b e D A X) (hg : ∀ i y M, vl8[i]? = some (y, M) → rx_Met (zV b e D A X) dn y M (g i)) (hd : 7 ≤ dn) (j : Nat → rx_K) (hj : ∀ k pc, [48][k]? = some pc → rx_OK (zV b e D A X) mX13_unit (dn + 1) pc (j k)) : rx_OK (zV b e D A X) mX13_unit (dn + 1) 47 (vX13_unit_47 g j) := by
  unfold vX13_unit_47
  refine s_istore_n hZ.1 dX13_unit_47 rfl (Nat.le_of_ble_eq_true rfl) ?_
  exact (wX13_unit_48 hZ hg hd j hj)
noncomputable def vX13_unit_46 (g : Nat → List Nat → rx_H → Option (Nat × rx_H)) (j : Nat → rx_K) : rx_K := o_const 0 ((vX13_unit_47 g j))
set_option maxRecDepth 20000 in
theorem wX13_unit_46 {dn : Nat} {g : Nat → List Nat → rx_H → Option (Nat × rx_H)} (hZ : zO b e D A X) (hg : ∀ i y M, vl8[i]? = some (y, M) → rx_Met (zV b e D A X) dn y M (g i)) (hd : 7 ≤ dn) (j : Nat → rx_K) (hj : ∀ k pc, [48][k]? = some pc → rx_OK (zV b e D A X) mX13_unit (dn + 1) pc (j k)) : rx_OK (zV b e D A X) mX13_unit (dn + 1) 46 (vX13_unit_46 g j) := by
  unfold vX13_unit_46
  refine s_iconst dX13_unit_46 (by decide +kernel) ?_
  exact (wX13_unit_47 hZ hg hd j hj)
noncomputable def vX13_unit_42 (g : Nat → List Nat → rx_H → Option (Nat × rx_H)) (j : Nat → rx_K) : rx_K := o_const 8 ((vX13_unit_47 g j))
set_option maxRecDepth 20000 in
theorem wX13_unit_42 {dn : Nat} {g : Nat → List Nat → rx_H → Option (Nat × rx_H)} (hZ : zO b e D A X) (hg : ∀ i y M, vl8[i]? = some (y, M) → rx_Met (zV b e D A X) dn y M (g i)) (hd : 7 ≤ dn) (j : Nat → rx_K) (hj : ∀ k pc, [48][k]? = some pc → rx_OK (zV b e D A X) mX13_unit (dn + 1) pc (j k)) : rx_OK (zV b e D A X) mX13_unit (dn + 1) 42 (vX13_unit_42 g j) := by
  unfold vX13_unit_42
  refine s_iconst dX13_unit_42 (by decide +kernel) ?_
  exact s_goto dX13_unit_43 (by decide) (wX13_unit_47 hZ hg hd j hj)
noncomputable def vX13_unit_34 (g : Nat → List Nat → rx_H → Option (Nat × rx_H)) (j : Nat → rx_K) : rx_K := o_st rx_isI 1 (o_ld rx_isR 0 (o_getf 13 20 (o_c1 rx_eq (vX13_unit_42 g j) (vX13_unit_46 g j))))
set_option maxRecDepth 20000 in
theorem wX13_unit_34 {dn : Nat} {g : Nat → List Nat → rx_H → Option (Nat × rx_H)} (hZ : zO b e D A X) (hg : ∀ i y M, vl8[i]? = some (y, M) → rx_Met (zV b e D A X) dn y M (g i)) (hd : 7 ≤ dn) (j : Nat → rx_K) (hj : ∀ k pc, [48][k]? = some pc → rx_OK (zV b e D A X) mX13_unit (dn + 1) pc (j k)) : rx_OK (zV b e D A X) mX13_unit (dn + 1) 34 (vX13_unit_34 g j) := by
  unfold vX13_unit_34
  refine s_istore_n hZ.1 dX13_unit_34 rfl (Nat.le_of_ble_eq_true rfl) ?_
  refine s_aload_n hZ.1 dX13_unit_35 rfl ?_
  refine yg13_20 dX13_unit_36 zw4141 ?_
  exact s_if_ne dX13_unit_39 (by decide) (wX13_unit_46 hZ hg hd j hj) (wX13_unit_42 hZ hg hd j hj)
noncomputable def vX13_unit_32 (g : Nat → List Nat → rx_H → Option (Nat × rx_H)) (j : Nat → rx_K) : rx_K := o_const 34359738352 ((vX13_unit_34 g j))
set_option maxRecDepth 20000 in
theorem wX13_unit_32 {dn : Nat} {g : Nat → List Nat → rx_H → Option (Nat × rx_H)} (hZ : zO b e D A X) (hg : ∀ i y M, vl8[i]? = some (y, M) → rx_Met (zV b e D A X) dn y M (g i)) (hd : 7 ≤ dn) (j : Nat → rx_K) (hj : ∀ k pc, [48][k]? = some pc → rx_OK (zV b e D A X) mX13_unit (dn + 1) pc (j k)) : rx_OK (zV b e D A X) mX13_unit (dn + 1) 32 (vX13_unit_32 g j) := by
  unfold vX13_unit_32
  refine s_bipush dX13_unit_32 (by decide +kernel) ?_
  exact (wX13_unit_34 hZ hg hd j hj)
noncomputable def vX13_unit_25 (g : Nat → List Nat → rx_H → Option (Nat × rx_H)) (j : Nat → rx_K) : rx_K := o_ld rx_isR 0 (o_callV 0 13 (g 2) ((vX13_unit_34 g j)))
set_option maxRecDepth 20000 in
theorem wX13_unit_25 {dn : Nat} {g : Nat → List Nat → rx_H → Option (Nat × rx_H)} (hZ : zO b e D A X) (hg : ∀ i y M, vl8[i]? = some (y, M) → rx_Met (zV b e D A X) dn y M (g i)) (hd : 7 ≤ dn) (j : Nat → rx_K) (hj : ∀ k pc, [48][k]? = some pc → rx_OK (zV b e D A X) mX13_unit (dn + 1) pc (j k)) : rx_OK (zV b e D A X) mX13_unit (dn + 1) 25 (vX13_unit_25 g j) := by
  unfold vX13_unit_25
  refine s_aload_n hZ.1 dX13_unit_25 rfl ?_
  refine s_callV hZ.1 (hg 2 _ _ rfl) (Nat.le_refl _) vy_X13_first zcl13 zw3123 zw213 (Or.inl zw3121) dX13_unit_26 ?_
  exact s_goto dX13_unit_29 (by decide) (wX13_unit_34 hZ hg hd j hj)
noncomputable def vX13_unit_18 (g : Nat → List Nat → rx_H → Option (Nat × rx_H)) (j : Nat → rx_K) : rx_K := o_ld rx_isR 0 (o_getf 13 20 (o_c1 rx_eq (vX13_unit_25 g j) (vX13_unit_32 g j)))
set_option maxRecDepth 20000 in
theorem wX13_unit_18 {dn : Nat} {g : Nat → List Nat → rx_H → Option (Nat × rx_H)} (hZ : zO b e D A X) (hg : ∀ i y M, vl8[i]? = some (y, M) → rx_Met (zV b e D A X) dn y M (g i)) (hd : 7 ≤ dn) (j : Nat → rx_K) (hj : ∀ k pc, [48][k]? = some pc → rx_OK (zV b e D A X) mX13_unit (dn + 1) pc (j k)) : rx_OK (zV b e D A X) mX13_unit (dn + 1) 18 (vX13_unit_18 g j) := by
  unfold vX13_unit_18
  refine s_aload_n hZ.1 dX13_unit_18 rfl ?_
  refine yg13_20 dX13_unit_19 zw4141 ?_
  exact s_if_ne dX13_unit_22 (by decide) (wX13_unit_32 hZ hg hd j hj) (wX13_unit_25 hZ hg hd j hj)
noncomputable def vX13_unit_14 (g : Nat → List Nat → rx_H → Option (Nat × rx_H)) (j : Nat → rx_K) : rx_K := o_ld rx_isR 0 (o_callV 0 13 FX13_wrong ((vX13_unit_18 g j)))
set_option maxRecDepth 20000 in
theorem wX13_unit_14 {dn : Nat} {g : Nat → List Nat → rx_H → Option (Nat × rx_H)} (hZ : zO b e D A X) (hg : ∀ i y M, vl8[i]? = some (y, M) → rx_Met (zV b e D A X) dn y M (g i)) (hd : 7 ≤ dn) (j : Nat → rx_K) (hj : ∀ k pc, [48][k]? = some pc → rx_OK (zV b e D A X) mX13_unit (dn + 1) pc (j k)) : rx_OK (zV b e D A X) mX13_unit (dn + 1) 14 (vX13_unit_14 g j) := by
  unfold vX13_unit_14
  refine s_aload_n hZ.1 dX13_unit_14 rfl ?_
  refine s_callV hZ.1 (Met_X13_wrong hZ) (Nat.succ_le_succ (Nat.le_trans (Nat.le_of_ble_eq_true rfl) hd)) vy_X13_wrong zcl13 zw3016 zw192 (Or.inl zw3014) dX13_unit_15 ?_
  exact (wX13_unit_18 hZ hg hd j hj)
noncomputable def vX13_unit_7 (g : Nat → List Nat → rx_H → Option (Nat × rx_H)) (j : Nat → rx_K) : rx_K := o_ld rx_isR 0 (o_callV 0 13 FX13_beginsE (o_c1 rx_eq (vX13_unit_14 g j) (vX13_unit_18 g j)))
set_option maxRecDepth 20000 in
theorem wX13_unit_7 {dn : Nat} {g : Nat → List Nat → rx_H → Option (Nat × rx_H)} (hZ : zO b e D A X) (hg : ∀ i y M, vl8[i]? = some (y, M) → rx_Met (zV b e D A X) dn y M (g i)) (hd : 7 ≤ dn) (j : Nat → rx_K) (hj : ∀ k pc, [48][k]? = some pc → rx_OK (zV b e D A X) mX13_unit (dn + 1) pc (j k)) : rx_OK (zV b e D A X) mX13_unit (dn + 1) 7 (vX13_unit_7 g j) := by
  unfold vX13_unit_7
  refine s_aload_n hZ.1 dX13_unit_7 rfl ?_
  refine s_callV hZ.1 (Met_X13_beginsE hZ) (Nat.succ_le_succ (Nat.le_trans (Nat.le_of_ble_eq_true rfl) hd)) vy_X13_beginsE zcl13 zw3081 zw205 (Or.inl zw3079) dX13_unit_8 ?_
  exact s_if_ne dX13_unit_11 (by decide) (wX13_unit_18 hZ hg hd j hj) (wX13_unit_14 hZ hg hd j hj)
noncomputable def vX13_unit_0 (g : Nat → List Nat → rx_H → Option (Nat × rx_H)) (j : Nat → rx_K) : rx_K := o_ld rx_isR 0 (o_getf 13 20 (o_c1 rx_eq (vX13_unit_7 g j) (vX13_unit_18 g j)))
set_option maxRecDepth 20000 in
theorem wX13_unit_0 {dn : Nat} {g : Nat → List Nat → rx_H → Option (Nat × rx_H)} (hZ : zO b e D A X) (hg : ∀ i y M, vl8[i]? = some (y, M) → rx_Met (zV b e D A X) dn y M (g i)) (hd : 7 ≤ dn) (j : Nat → rx_K) (hj : ∀ k pc, [48][k]? = some pc → rx_OK (zV b e D A X) mX13_unit (dn + 1) pc (j k)) : rx_OK (zV b e D A X) mX13_unit (dn + 1) 0 (vX13_unit_0 g j) := by
  unfold vX13_unit_0
  refine s_aload_n hZ.1 dX13_unit_0 rfl ?_
  refine yg13_20 dX13_unit_1 zw4141 ?_
  exact s_if_ne dX13_unit_4 (by decide) (wX13_unit_18 hZ hg hd j hj) (wX13_unit_7 hZ hg hd j hj)
noncomputable def vhX13_unit (g : Nat → List Nat → rx_H → Option (Nat × rx_H)) (j : Nat → rx_K) : List rx_K := [vX13_unit_48 g j]
theorem vlX13_unit {dn : Nat} {g : Nat → List Nat → rx_H → Option (Nat × rx_H)} (hZ : zO b e D A X) (hg : ∀ i y M, vl8[i]? = some (y, M) → rx_Met (zV b e D A X) dn y M (g i)) (hd : 7 ≤ dn) : ∀ n k pc, [48][k]? = some pc → rx_OK (zV b e D A X) mX13_unit (dn + 1) pc (rx_J (vhX13_unit g) n k) := rx_loop fun j hj k pc h => by
  match k, h with
  | 0, h =>
    have e9 := Option.some.inj (show some 48 = some pc from h)
    subst e9
    exact wX13_unit_48 hZ hg hd j hj
  | _ + 1, h => exact absurd h (by simp)
noncomputable def FX13_unit (g : Nat → List Nat → rx_H → Option (Nat × rx_H)) : List Nat → rx_H → Option (Nat × rx_H) := rx_ent 6 (vX13_unit_0 g (rx_J (vhX13_unit g) 4000000000))
theorem Met_X13_unit {dn : Nat} {g : Nat → List Nat → rx_H → Option (Nat × rx_H)} (hZ : zO b e D A X) (hg : ∀ i y M, vl8[i]? = some (y, M) → rx_Met (zV b e D A X) dn y M (g i)) (hd : 7 ≤ dn) : rx_Met (zV b e D A X) (dn + 1) yX13_unit mX13_unit (FX13_unit g) := rx_entry hZ.1 (wX13_unit_0 hZ hg hd _ (vlX13_unit hZ hg hd 4000000000)) (by decide +kernel) rfl (fun h => by cases h)
noncomputable def q8 (n : Nat) : Nat → List Nat → rx_H → Option (Nat × rx_H) := Nat.rec (fun _ _ _ => none) (fun _ ih i => rx_nth [FX13_arguments ih, FX13_expression ih, FX13_first ih, FX13_inBrackets ih, FX13_ofClass ih, FX13_product ih, FX13_sum ih, FX13_unit ih] i (fun _ _ => none)) n
theorem q8_ok (hZ : zO b e D A X) : ∀ n i y M, vl8[i]? = some (y, M) → rx_Met (zV b e D A X) (7 + n) y M (q8 n i)
  | 0 => fun i y M _ As h r h2 hf => by cases hf
  | n + 1 => fun i y M h => by
    match i, h with
    | 0, h => cases h; exact Met_X13_arguments hZ (q8_ok hZ n) (Nat.le_add_right 7 n)
    | 1, h => cases h; exact Met_X13_expression hZ (q8_ok hZ n) (Nat.le_add_right 7 n)
    | 2, h => cases h; exact Met_X13_first hZ (q8_ok hZ n) (Nat.le_add_right 7 n)
    | 3, h => cases h; exact Met_X13_inBrackets hZ (q8_ok hZ n) (Nat.le_add_right 7 n)
    | 4, h => cases h; exact Met_X13_ofClass hZ (q8_ok hZ n) (Nat.le_add_right 7 n)
    | 5, h => cases h; exact Met_X13_product hZ (q8_ok hZ n) (Nat.le_add_right 7 n)
    | 6, h => cases h; exact Met_X13_sum hZ (q8_ok hZ n) (Nat.le_add_right 7 n)
    | 7, h => cases h; exact Met_X13_unit hZ (q8_ok hZ n) (Nat.le_add_right 7 n)
    | _ + 8, h => exact absurd h (by simp)
abbrev mX13_typeToken : rx_M := (RX13, cX13_typeToken, 2, (some .long), false)
theorem vy_X13_typeToken : rx_Y (zV b e D A X) yX13_typeToken mX13_typeToken 0 := ⟨zw3065, zw431, by decide, by decide +kernel, by decide +kernel, by decide +kernel⟩
noncomputable def vX13_typeToken_38 : rx_K := o_ret1 rx_isL
set_option maxRecDepth 20000 in
theorem wX13_typeToken_38 (hZ : zO b e D A X) : rx_OK (zV b e D A X) mX13_typeToken 7 38 vX13_typeToken_38 := by
  unfold vX13_typeToken_38
  exact s_lret rfl dX13_typeToken_38
noncomputable def vX13_typeToken_35 : rx_K := o_const 17 (vX13_typeToken_38)
set_option maxRecDepth 20000 in
theorem wX13_typeToken_35 (hZ : zO b e D A X) : rx_OK (zV b e D A X) mX13_typeToken 7 35 vX13_typeToken_35 := by
  unfold vX13_typeToken_35
  refine s_ldc2 dX13_typeToken_35 zw3066 (by decide +kernel) ?_
  exact (wX13_typeToken_38 hZ)
noncomputable def vX13_typeToken_27 : rx_K := o_ld rx_isR 0 (o_ld rx_isI 1 (o_callV 1 13 FX13_nameAt (vX13_typeToken_38)))
set_option maxRecDepth 20000 in
theorem wX13_typeToken_27 (hZ : zO b e D A X) : rx_OK (zV b e D A X) mX13_typeToken 7 27 vX13_typeToken_27 := by
  unfold vX13_typeToken_27
  refine s_aload_n hZ.1 dX13_typeToken_27 rfl ?_
  refine s_iload_n hZ.1 dX13_typeToken_28 rfl ?_
  refine s_callV hZ.1 (Met_X13_nameAt hZ) (Nat.le_of_ble_eq_true rfl) vy_X13_nameAt zcl13 zw2987 zw187 (Or.inl zw2985) dX13_typeToken_29 ?_
  exact s_goto dX13_typeToken_32 (by decide) (wX13_typeToken_38 hZ)
noncomputable def vX13_typeToken_13 : rx_K := o_ld rx_isR 0 (o_const 8 (o_const 0 (o_callV 2 13 FX13_want (o_st rx_isI 1 (o_ld rx_isR 0 (o_getf 13 20 (o_c1 rx_eq vX13_typeToken_27 vX13_typeToken_35)))))))
set_option maxRecDepth 20000 in
theorem wX13_typeToken_13 (hZ : zO b e D A X) : rx_OK (zV b e D A X) mX13_typeToken 7 13 vX13_typeToken_13 := by
  unfold vX13_typeToken_13
  refine s_aload_n hZ.1 dX13_typeToken_13 rfl ?_
  refine s_iconst dX13_typeToken_14 (by decide +kernel) ?_
  refine s_iconst dX13_typeToken_15 (by decide +kernel) ?_
  refine s_callV hZ.1 (Met_X13_want hZ) (Nat.le_of_ble_eq_true rfl) vy_X13_want zcl13 zw3020 zw193 (Or.inl zw3018) dX13_typeToken_16 ?_
  refine s_istore_n hZ.1 dX13_typeToken_19 rfl (Nat.le_of_ble_eq_true rfl) ?_
  refine s_aload_n hZ.1 dX13_typeToken_20 rfl ?_
  refine yg13_20 dX13_typeToken_21 zw4141 ?_
  exact s_if_ne dX13_typeToken_24 (by decide) (wX13_typeToken_35 hZ) (wX13_typeToken_27 hZ)
noncomputable def vX13_typeToken_9 : rx_K := o_const 17 (o_ret1 rx_isL)
set_option maxRecDepth 20000 in
theorem wX13_typeToken_9 (hZ : zO b e D A X) : rx_OK (zV b e D A X) mX13_typeToken 7 9 vX13_typeToken_9 := by
  unfold vX13_typeToken_9
  refine s_ldc2 dX13_typeToken_9 zw3066 (by decide +kernel) ?_
  exact s_lret rfl dX13_typeToken_12
noncomputable def vX13_typeToken_0 : rx_K := o_ld rx_isR 0 (o_const 484 (o_callV 1 13 FX13_takesWord (o_c1 rx_eq vX13_typeToken_13 vX13_typeToken_9)))
set_option maxRecDepth 20000 in
theorem wX13_typeToken_0 (hZ : zO b e D A X) : rx_OK (zV b e D A X) mX13_typeToken 7 0 vX13_typeToken_0 := by
  unfold vX13_typeToken_0
  refine s_aload_n hZ.1 dX13_typeToken_0 rfl ?_
  refine s_ldcS (k := 60) (zo_R60 hZ) dX13_typeToken_1 ?_
  refine s_callV hZ.1 (Met_X13_takesWord hZ) (Nat.le_of_ble_eq_true rfl) vy_X13_takesWord zcl13 zw2979 zw185 (Or.inl zw2977) dX13_typeToken_3 ?_
  exact s_if_eq dX13_typeToken_6 (by decide) (wX13_typeToken_13 hZ) (wX13_typeToken_9 hZ)
noncomputable def FX13_typeToken : List Nat → rx_H → Option (Nat × rx_H) := rx_ent 2 vX13_typeToken_0
theorem Met_X13_typeToken (hZ : zO b e D A X) : rx_Met (zV b e D A X) 7 yX13_typeToken mX13_typeToken (FX13_typeToken) := rx_entry hZ.1 (wX13_typeToken_0 hZ) (by decide +kernel) rfl (fun h => by cases h)
abbrev mX13_block : rx_M := (RX13, cX13_block, 5, (some .int), false)
theorem vy_X13_block : rx_Y (zV b e D A X) yX13_block mX13_block 1 := ⟨zw3100, zw431, by decide, by decide +kernel, by decide +kernel, by decide +kernel⟩
abbrev mX13_blockOnly : rx_M := (RX13, cX13_blockOnly, 1, (some .int), false)
theorem vy_X13_blockOnly : rx_Y (zV b e D A X) yX13_blockOnly mX13_blockOnly 0 := ⟨zw3146, zw431, by decide, by decide +kernel, by decide +kernel, by decide +kernel⟩
abbrev mX13_statement : rx_M := (RX13, cX13_statement, 2, (some .int), false)
theorem vy_X13_statement : rx_Y (zV b e D A X) yX13_statement mX13_statement 0 := ⟨zw3074, zw431, by decide, by decide +kernel, by decide +kernel, by decide +kernel⟩
abbrev mX13_statementWithin : rx_M := (RX13, cX13_statementWithin, 4, (some .int), false)
theorem vy_X13_statementWithin : rx_Y (zV b e D A X) yX13_statementWithin mX13_statementWithin 0 := ⟨zw3096, zw431, by decide, by decide +kernel, by decide +kernel, by decide +kernel⟩
abbrev mX13_tryOf : rx_M := (RX13, cX13_tryOf, 4, (some .int), false)
theorem vy_X13_tryOf : rx_Y (zV b e D A X) yX13_tryOf mX13_tryOf 1 := ⟨zw3142, zw431, by decide, by decide +kernel, by decide +kernel, by decide +kernel⟩
abbrev vl9 : List (MethodName × rx_M) := [(yX13_block, mX13_block), (yX13_blockOnly, mX13_blockOnly), (yX13_statement, mX13_statement), (yX13_statementWithin, mX13_statementWithin), (yX13_tryOf, mX13_tryOf)]
noncomputable def vX13_block_88 (g : Nat → List Nat → rx_H → Option (Nat × rx_H)) (j : Nat → rx_K) : rx_K := o_ld rx_isR 0 (o_const 1000 (o_callV 1 13 FX13_wantSign (o_ld rx_isI 2 (o_ret1 rx_isI))))
set_option maxRecDepth 20000 in
theorem wX13_block_88 {dn : Nat} {g : Nat → List Nat → rx_H → Option (Nat × rx_H)} (hZ : zO b e D A X) (hg : ∀ i y M, vl9[i]? = some (y, M) → rx_Met (zV b e D A X) dn y M (g i)) (hd : 208 ≤ dn) (j : Nat → rx_K) (hj : ∀ k pc, [17][k]? = some pc → rx_OK (zV b e D A X) mX13_block (dn + 1) pc (j k)) : rx_OK (zV b e D A X) mX13_block (dn + 1) 88 (vX13_block_88 g j) := by
  unfold vX13_block_88
  refine s_aload_n hZ.1 dX13_block_88 rfl ?_
  refine s_bipush dX13_block_89 (by decide +kernel) ?_
  refine s_callV hZ.1 (Met_X13_wantSign hZ) (Nat.succ_le_succ (Nat.le_trans (Nat.le_of_ble_eq_true rfl) hd)) vy_X13_wantSign zcl13 zw3037 zw196 (Or.inl zw3035) dX13_block_91 ?_
  refine s_iload_n hZ.1 dX13_block_94 rfl ?_
  exact s_iret hZ.1 rfl dX13_block_95
noncomputable def vX13_block_84 (g : Nat → List Nat → rx_H → Option (Nat × rx_H)) (j : Nat → rx_K) : rx_K := o_st rx_isI 3 ((j 0))
set_option maxRecDepth 20000 in
theorem wX13_block_84 {dn : Nat} {g : Nat → List Nat → rx_H → Option (Nat × rx_H)} (hZ : zO b e D A X) (hg : ∀ i y M, vl9[i]? = some (y, M) → rx_Met (zV b e D A X) dn y M (g i)) (hd : 208 ≤ dn) (j : Nat → rx_K) (hj : ∀ k pc, [17][k]? = some pc → rx_OK (zV b e D A X) mX13_block (dn + 1) pc (j k)) : rx_OK (zV b e D A X) mX13_block (dn + 1) 84 (vX13_block_84 g j) := by
  unfold vX13_block_84
  refine s_istore_n hZ.1 dX13_block_84 rfl (Nat.le_of_ble_eq_true rfl) ?_
  exact s_goto dX13_block_85 (by decide) (hj 0 17 rfl)
noncomputable def vX13_block_82 (g : Nat → List Nat → rx_H → Option (Nat × rx_H)) (j : Nat → rx_K) : rx_K := o_ld rx_isI 4 ((vX13_block_84 g j))
set_option maxRecDepth 20000 in
theorem wX13_block_82 {dn : Nat} {g : Nat → List Nat → rx_H → Option (Nat × rx_H)} (hZ : zO b e D A X) (hg : ∀ i y M, vl9[i]? = some (y, M) → rx_Met (zV b e D A X) dn y M (g i)) (hd : 208 ≤ dn) (j : Nat → rx_K) (hj : ∀ k pc, [17][k]? = some pc → rx_OK (zV b e D A X) mX13_block (dn + 1) pc (j k)) : rx_OK (zV b e D A X) mX13_block (dn + 1) 82 (vX13_block_82 g j) := by
  unfold vX13_block_82
  refine s_iload hZ.1 dX13_block_82 ?_
  exact (wX13_block_84 hZ hg hd j hj)
noncomputable def vX13_block_78 (g : Nat → List Nat → rx_H → Option (Nat × rx_H)) (j : Nat → rx_K) : rx_K := o_ld rx_isI 3 ((vX13_block_84 g j))
set_option maxRecDepth 20000 in
theorem wX13_block_78 {dn : Nat} {g : Nat → List Nat → rx_H → Option (Nat × rx_H)} (hZ : zO b e D A X) (hg : ∀ i y M, vl9[i]? = some (y, M) → rx_Met (zV b e D A X) dn y M (g i)) (hd : 208 ≤ dn) (j : Nat → rx_K) (hj : ∀ k pc, [17][k]? = some pc → rx_OK (zV b e D A X) mX13_block (dn + 1) pc (j k)) : rx_OK (zV b e D A X) mX13_block (dn + 1) 78 (vX13_block_78 g j) := by
  unfold vX13_block_78
  refine s_iload_n hZ.1 dX13_block_78 rfl ?_
  exact s_goto dX13_block_79 (by decide) (wX13_block_84 hZ hg hd j hj)
noncomputable def vX13_block_71 (g : Nat → List Nat → rx_H → Option (Nat × rx_H)) (j : Nat → rx_K) : rx_K := o_ld rx_isI 4 (o_const 34359738352 (o_c2 rx_eq (vX13_block_78 g j) (vX13_block_82 g j)))
set_option maxRecDepth 20000 in
theorem wX13_block_71 {dn : Nat} {g : Nat → List Nat → rx_H → Option (Nat × rx_H)} (hZ : zO b e D A X) (hg : ∀ i y M, vl9[i]? = some (y, M) → rx_Met (zV b e D A X) dn y M (g i)) (hd : 208 ≤ dn) (j : Nat → rx_K) (hj : ∀ k pc, [17][k]? = some pc → rx_OK (zV b e D A X) mX13_block (dn + 1) pc (j k)) : rx_OK (zV b e D A X) mX13_block (dn + 1) 71 (vX13_block_71 g j) := by
  unfold vX13_block_71
  refine s_iload hZ.1 dX13_block_71 ?_
  refine s_bipush dX13_block_73 (by decide +kernel) ?_
  exact s_icmp_ne dX13_block_75 (by decide) (wX13_block_82 hZ hg hd j hj) (wX13_block_78 hZ hg hd j hj)
noncomputable def vX13_block_63 (g : Nat → List Nat → rx_H → Option (Nat × rx_H)) (j : Nat → rx_K) : rx_K := o_ld rx_isR 0 (o_getf 13 80 (o_ld rx_isI 3 (o_ld rx_isI 4 (o_ast 0 (fun v => v) rx_isI ((vX13_block_71 g j))))))
set_option maxRecDepth 20000 in
theorem wX13_block_63 {dn : Nat} {g : Nat → List Nat → rx_H → Option (Nat × rx_H)} (hZ : zO b e D A X) (hg : ∀ i y M, vl9[i]? = some (y, M) → rx_Met (zV b e D A X) dn y M (g i)) (hd : 208 ≤ dn) (j : Nat → rx_K) (hj : ∀ k pc, [17][k]? = some pc → rx_OK (zV b e D A X) mX13_block (dn + 1) pc (j k)) : rx_OK (zV b e D A X) mX13_block (dn + 1) 63 (vX13_block_63 g j) := by
  unfold vX13_block_63
  refine s_aload_n hZ.1 dX13_block_63 rfl ?_
  refine yg13_80 dX13_block_64 zw4201 ?_
  refine s_iload_n hZ.1 dX13_block_67 rfl ?_
  refine s_iload hZ.1 dX13_block_68 ?_
  refine s_iast hZ.1 (tt := 0) rfl dX13_block_70 ?_
  exact (wX13_block_71 hZ hg hd j hj)
noncomputable def vX13_block_56 (g : Nat → List Nat → rx_H → Option (Nat × rx_H)) (j : Nat → rx_K) : rx_K := o_ld rx_isI 4 (o_const 34359738352 (o_c2 rx_eq (vX13_block_71 g j) (vX13_block_63 g j)))
set_option maxRecDepth 20000 in
theorem wX13_block_56 {dn : Nat} {g : Nat → List Nat → rx_H → Option (Nat × rx_H)} (hZ : zO b e D A X) (hg : ∀ i y M, vl9[i]? = some (y, M) → rx_Met (zV b e D A X) dn y M (g i)) (hd : 208 ≤ dn) (j : Nat → rx_K) (hj : ∀ k pc, [17][k]? = some pc → rx_OK (zV b e D A X) mX13_block (dn + 1) pc (j k)) : rx_OK (zV b e D A X) mX13_block (dn + 1) 56 (vX13_block_56 g j) := by
  unfold vX13_block_56
  refine s_iload hZ.1 dX13_block_56 ?_
  refine s_bipush dX13_block_58 (by decide +kernel) ?_
  exact s_icmp_eq dX13_block_60 (by decide) (wX13_block_71 hZ hg hd j hj) (wX13_block_63 hZ hg hd j hj)
noncomputable def vX13_block_45 (g : Nat → List Nat → rx_H → Option (Nat × rx_H)) (j : Nat → rx_K) : rx_K := o_ld rx_isR 0 (o_getf 13 77 (o_ld rx_isI 2 (o_ld rx_isI 4 (o_ast 0 (fun v => v) rx_isI ((vX13_block_71 g j))))))
set_option maxRecDepth 20000 in
theorem wX13_block_45 {dn : Nat} {g : Nat → List Nat → rx_H → Option (Nat × rx_H)} (hZ : zO b e D A X) (hg : ∀ i y M, vl9[i]? = some (y, M) → rx_Met (zV b e D A X) dn y M (g i)) (hd : 208 ≤ dn) (j : Nat → rx_K) (hj : ∀ k pc, [17][k]? = some pc → rx_OK (zV b e D A X) mX13_block (dn + 1) pc (j k)) : rx_OK (zV b e D A X) mX13_block (dn + 1) 45 (vX13_block_45 g j) := by
  unfold vX13_block_45
  refine s_aload_n hZ.1 dX13_block_45 rfl ?_
  refine yg13_77 dX13_block_46 zw4198 ?_
  refine s_iload_n hZ.1 dX13_block_49 rfl ?_
  refine s_iload hZ.1 dX13_block_50 ?_
  refine s_iast hZ.1 (tt := 0) rfl dX13_block_52 ?_
  exact s_goto dX13_block_53 (by decide) (wX13_block_71 hZ hg hd j hj)
noncomputable def vX13_block_33 (g : Nat → List Nat → rx_H → Option (Nat × rx_H)) (j : Nat → rx_K) : rx_K := o_ld rx_isR 0 (o_callV 0 13 (g 2) (o_st rx_isI 4 (o_ld rx_isI 3 (o_const 34359738352 (o_c2 rx_eq (vX13_block_45 g j) (vX13_block_56 g j))))))
set_option maxRecDepth 20000 in
theorem wX13_block_33 {dn : Nat} {g : Nat → List Nat → rx_H → Option (Nat × rx_H)} (hZ : zO b e D A X) (hg : ∀ i y M, vl9[i]? = some (y, M) → rx_Met (zV b e D A X) dn y M (g i)) (hd : 208 ≤ dn) (j : Nat → rx_K) (hj : ∀ k pc, [17][k]? = some pc → rx_OK (zV b e D A X) mX13_block (dn + 1) pc (j k)) : rx_OK (zV b e D A X) mX13_block (dn + 1) 33 (vX13_block_33 g j) := by
  unfold vX13_block_33
  refine s_aload_n hZ.1 dX13_block_33 rfl ?_
  refine s_callV hZ.1 (hg 2 _ _ rfl) (Nat.le_refl _) vy_X13_statement zcl13 zw3073 zw203 (Or.inl zw3071) dX13_block_34 ?_
  refine s_istore hZ.1 dX13_block_37 (Nat.le_of_ble_eq_true rfl) ?_
  refine s_iload_n hZ.1 dX13_block_39 rfl ?_
  refine s_bipush dX13_block_40 (by decide +kernel) ?_
  exact s_icmp_ne dX13_block_42 (by decide) (wX13_block_56 hZ hg hd j hj) (wX13_block_45 hZ hg hd j hj)
noncomputable def vX13_block_24 (g : Nat → List Nat → rx_H → Option (Nat × rx_H)) (j : Nat → rx_K) : rx_K := o_ld rx_isR 0 (o_const 1000 (o_callV 1 13 FX13_isSign (o_c1 rx_eq (vX13_block_33 g j) (vX13_block_88 g j))))
set_option maxRecDepth 20000 in
theorem wX13_block_24 {dn : Nat} {g : Nat → List Nat → rx_H → Option (Nat × rx_H)} (hZ : zO b e D A X) (hg : ∀ i y M, vl9[i]? = some (y, M) → rx_Met (zV b e D A X) dn y M (g i)) (hd : 208 ≤ dn) (j : Nat → rx_K) (hj : ∀ k pc, [17][k]? = some pc → rx_OK (zV b e D A X) mX13_block (dn + 1) pc (j k)) : rx_OK (zV b e D A X) mX13_block (dn + 1) 24 (vX13_block_24 g j) := by
  unfold vX13_block_24
  refine s_aload_n hZ.1 dX13_block_24 rfl ?_
  refine s_bipush dX13_block_25 (by decide +kernel) ?_
  refine s_callV hZ.1 (Met_X13_isSign hZ) (Nat.succ_le_succ (Nat.le_trans (Nat.le_of_ble_eq_true rfl) hd)) vy_X13_isSign zcl13 zw3030 zw195 (Or.inl zw3028) dX13_block_27 ?_
  exact s_if_ne dX13_block_30 (by decide) (wX13_block_88 hZ hg hd j hj) (wX13_block_33 hZ hg hd j hj)
noncomputable def vX13_block_17 (g : Nat → List Nat → rx_H → Option (Nat × rx_H)) (j : Nat → rx_K) : rx_K := o_ld rx_isR 0 (o_getf 13 20 (o_c1 rx_eq (vX13_block_24 g j) (vX13_block_88 g j)))
set_option maxRecDepth 20000 in
theorem wX13_block_17 {dn : Nat} {g : Nat → List Nat → rx_H → Option (Nat × rx_H)} (hZ : zO b e D A X) (hg : ∀ i y M, vl9[i]? = some (y, M) → rx_Met (zV b e D A X) dn y M (g i)) (hd : 208 ≤ dn) (j : Nat → rx_K) (hj : ∀ k pc, [17][k]? = some pc → rx_OK (zV b e D A X) mX13_block (dn + 1) pc (j k)) : rx_OK (zV b e D A X) mX13_block (dn + 1) 17 (vX13_block_17 g j) := by
  unfold vX13_block_17
  refine s_aload_n hZ.1 dX13_block_17 rfl ?_
  refine yg13_20 dX13_block_18 zw4141 ?_
  exact s_if_ne dX13_block_21 (by decide) (wX13_block_88 hZ hg hd j hj) (wX13_block_24 hZ hg hd j hj)
noncomputable def vX13_block_0 (g : Nat → List Nat → rx_H → Option (Nat × rx_H)) (j : Nat → rx_K) : rx_K := o_ld rx_isR 0 (o_const 160 (o_ld rx_isI 1 (o_callV 2 13 FX13_node (o_st rx_isI 2 (o_ld rx_isR 0 (o_const 984 (o_callV 1 13 FX13_wantSign (o_const 34359738352 (o_st rx_isI 3 ((vX13_block_17 g j)))))))))))
set_option maxRecDepth 20000 in
theorem wX13_block_0 {dn : Nat} {g : Nat → List Nat → rx_H → Option (Nat × rx_H)} (hZ : zO b e D A X) (hg : ∀ i y M, vl9[i]? = some (y, M) → rx_Met (zV b e D A X) dn y M (g i)) (hd : 208 ≤ dn) (j : Nat → rx_K) (hj : ∀ k pc, [17][k]? = some pc → rx_OK (zV b e D A X) mX13_block (dn + 1) pc (j k)) : rx_OK (zV b e D A X) mX13_block (dn + 1) 0 (vX13_block_0 g j) := by
  unfold vX13_block_0
  refine s_aload_n hZ.1 dX13_block_0 rfl ?_
  refine s_bipush dX13_block_1 (by decide +kernel) ?_
  refine s_iload_n hZ.1 dX13_block_3 rfl ?_
  refine s_callV hZ.1 (Met_X13_node hZ) (Nat.succ_le_succ (Nat.le_trans (Nat.le_of_ble_eq_true rfl) hd)) vy_X13_node zcl13 zw3103 zw208 (Or.inl zw3101) dX13_block_4 ?_
  refine s_istore_n hZ.1 dX13_block_7 rfl (Nat.le_of_ble_eq_true rfl) ?_
  refine s_aload_n hZ.1 dX13_block_8 rfl ?_
  refine s_bipush dX13_block_9 (by decide +kernel) ?_
  refine s_callV hZ.1 (Met_X13_wantSign hZ) (Nat.succ_le_succ (Nat.le_trans (Nat.le_of_ble_eq_true rfl) hd)) vy_X13_wantSign zcl13 zw3037 zw196 (Or.inl zw3035) dX13_block_11 ?_
  refine s_bipush dX13_block_14 (by decide +kernel) ?_
  refine s_istore_n hZ.1 dX13_block_16 rfl (Nat.le_of_ble_eq_true rfl) ?_
  exact (wX13_block_17 hZ hg hd j hj)
noncomputable def vhX13_block (g : Nat → List Nat → rx_H → Option (Nat × rx_H)) (j : Nat → rx_K) : List rx_K := [vX13_block_17 g j]
theorem vlX13_block {dn : Nat} {g : Nat → List Nat → rx_H → Option (Nat × rx_H)} (hZ : zO b e D A X) (hg : ∀ i y M, vl9[i]? = some (y, M) → rx_Met (zV b e D A X) dn y M (g i)) (hd : 208 ≤ dn) : ∀ n k pc, [17][k]? = some pc → rx_OK (zV b e D A X) mX13_block (dn + 1) pc (rx_J (vhX13_block g) n k) := rx_loop fun j hj k pc h => by
  match k, h with
  | 0, h =>
    have e9 := Option.some.inj (show some 17 = some pc from h)
    subst e9
    exact wX13_block_17 hZ hg hd j hj
  | _ + 1, h => exact absurd h (by simp)
noncomputable def FX13_block (g : Nat → List Nat → rx_H → Option (Nat × rx_H)) : List Nat → rx_H → Option (Nat × rx_H) := rx_ent 5 (vX13_block_0 g (rx_J (vhX13_block g) 4000000000))
theorem Met_X13_block {dn : Nat} {g : Nat → List Nat → rx_H → Option (Nat × rx_H)} (hZ : zO b e D A X) (hg : ∀ i y M, vl9[i]? = some (y, M) → rx_Met (zV b e D A X) dn y M (g i)) (hd : 208 ≤ dn) : rx_Met (zV b e D A X) (dn + 1) yX13_block mX13_block (FX13_block g) := rx_entry hZ.1 (wX13_block_0 hZ hg hd _ (vlX13_block hZ hg hd 4000000000)) (by decide +kernel) rfl (fun h => by cases h)
noncomputable def vX13_blockOnly_20 (g : Nat → List Nat → rx_H → Option (Nat × rx_H)) : rx_K := o_ld rx_isR 0 (o_callV 0 13 (g 2) (o_ret1 rx_isI))
set_option maxRecDepth 20000 in
theorem wX13_blockOnly_20 {dn : Nat} {g : Nat → List Nat → rx_H → Option (Nat × rx_H)} (hZ : zO b e D A X) (hg : ∀ i y M, vl9[i]? = some (y, M) → rx_Met (zV b e D A X) dn y M (g i)) (hd : 208 ≤ dn) : rx_OK (zV b e D A X) mX13_blockOnly (dn + 1) 20 (vX13_blockOnly_20 g) := by
  unfold vX13_blockOnly_20
  refine s_aload_n hZ.1 dX13_blockOnly_20 rfl ?_
  refine s_callV hZ.1 (hg 2 _ _ rfl) (Nat.le_refl _) vy_X13_statement zcl13 zw3073 zw203 (Or.inl zw3071) dX13_blockOnly_21 ?_
  exact s_iret hZ.1 rfl dX13_blockOnly_24
noncomputable def vX13_blockOnly_16 (g : Nat → List Nat → rx_H → Option (Nat × rx_H)) : rx_K := o_ld rx_isR 0 (o_callV 0 13 FX13_wrong ((vX13_blockOnly_20 g)))
set_option maxRecDepth 20000 in
theorem wX13_blockOnly_16 {dn : Nat} {g : Nat → List Nat → rx_H → Option (Nat × rx_H)} (hZ : zO b e D A X) (hg : ∀ i y M, vl9[i]? = some (y, M) → rx_Met (zV b e D A X) dn y M (g i)) (hd : 208 ≤ dn) : rx_OK (zV b e D A X) mX13_blockOnly (dn + 1) 16 (vX13_blockOnly_16 g) := by
  unfold vX13_blockOnly_16
  refine s_aload_n hZ.1 dX13_blockOnly_16 rfl ?_
  refine s_callV hZ.1 (Met_X13_wrong hZ) (Nat.succ_le_succ (Nat.le_trans (Nat.le_of_ble_eq_true rfl) hd)) vy_X13_wrong zcl13 zw3016 zw192 (Or.inl zw3014) dX13_blockOnly_17 ?_
  exact (wX13_blockOnly_20 hZ hg hd)
noncomputable def vX13_blockOnly_7 (g : Nat → List Nat → rx_H → Option (Nat × rx_H)) : rx_K := o_ld rx_isR 0 (o_const 984 (o_callV 1 13 FX13_isSign (o_c1 rx_eq (vX13_blockOnly_16 g) (vX13_blockOnly_20 g))))
set_option maxRecDepth 20000 in
theorem wX13_blockOnly_7 {dn : Nat} {g : Nat → List Nat → rx_H → Option (Nat × rx_H)} (hZ : zO b e D A X) (hg : ∀ i y M, vl9[i]? = some (y, M) → rx_Met (zV b e D A X) dn y M (g i)) (hd : 208 ≤ dn) : rx_OK (zV b e D A X) mX13_blockOnly (dn + 1) 7 (vX13_blockOnly_7 g) := by
  unfold vX13_blockOnly_7
  refine s_aload_n hZ.1 dX13_blockOnly_7 rfl ?_
  refine s_bipush dX13_blockOnly_8 (by decide +kernel) ?_
  refine s_callV hZ.1 (Met_X13_isSign hZ) (Nat.succ_le_succ (Nat.le_trans (Nat.le_of_ble_eq_true rfl) hd)) vy_X13_isSign zcl13 zw3030 zw195 (Or.inl zw3028) dX13_blockOnly_10 ?_
  exact s_if_ne dX13_blockOnly_13 (by decide) (wX13_blockOnly_20 hZ hg hd) (wX13_blockOnly_16 hZ hg hd)
noncomputable def vX13_blockOnly_0 (g : Nat → List Nat → rx_H → Option (Nat × rx_H)) : rx_K := o_ld rx_isR 0 (o_getf 13 20 (o_c1 rx_eq (vX13_blockOnly_7 g) (vX13_blockOnly_20 g)))
set_option maxRecDepth 20000 in
theorem wX13_blockOnly_0 {dn : Nat} {g : Nat → List Nat → rx_H → Option (Nat × rx_H)} (hZ : zO b e D A X) (hg : ∀ i y M, vl9[i]? = some (y, M) → rx_Met (zV b e D A X) dn y M (g i)) (hd : 208 ≤ dn) : rx_OK (zV b e D A X) mX13_blockOnly (dn + 1) 0 (vX13_blockOnly_0 g) := by
  unfold vX13_blockOnly_0
  refine s_aload_n hZ.1 dX13_blockOnly_0 rfl ?_
  refine yg13_20 dX13_blockOnly_1 zw4141 ?_
  exact s_if_ne dX13_blockOnly_4 (by decide) (wX13_blockOnly_20 hZ hg hd) (wX13_blockOnly_7 hZ hg hd)
noncomputable def FX13_blockOnly (g : Nat → List Nat → rx_H → Option (Nat × rx_H)) : List Nat → rx_H → Option (Nat × rx_H) := rx_ent 1 (vX13_blockOnly_0 g)
theorem Met_X13_blockOnly {dn : Nat} {g : Nat → List Nat → rx_H → Option (Nat × rx_H)} (hZ : zO b e D A X) (hg : ∀ i y M, vl9[i]? = some (y, M) → rx_Met (zV b e D A X) dn y M (g i)) (hd : 208 ≤ dn) : rx_Met (zV b e D A X) (dn + 1) yX13_blockOnly mX13_blockOnly (FX13_blockOnly g) := rx_entry hZ.1 (wX13_blockOnly_0 hZ hg hd) (by decide +kernel) rfl (fun h => by cases h)
noncomputable def vX13_statement_49 (g : Nat → List Nat → rx_H → Option (Nat × rx_H)) : rx_K := o_ld rx_isR 0 (o_dup (o_getf 13 89 (o_const 8 (o_bi (fun x y => x + y) (o_putf rx_isI 13 89 (o_ld rx_isR 0 (o_callV 0 13 (g 3) (o_st rx_isI 1 (o_ld rx_isR 0 (o_dup (o_getf 13 89 (o_const 8 (o_bi (fun x y => x - y) (o_putf rx_isI 13 89 (o_ld rx_isI 1 (o_ret1 rx_isI))))))))))))))))
set_option maxRecDepth 20000 in
theorem wX13_statement_49 {dn : Nat} {g : Nat → List Nat → rx_H → Option (Nat × rx_H)} (hZ : zO b e D A X) (hg : ∀ i y M, vl9[i]? = some (y, M) → rx_Met (zV b e D A X) dn y M (g i)) (hd : 208 ≤ dn) : rx_OK (zV b e D A X) mX13_statement (dn + 1) 49 (vX13_statement_49 g) := by
  unfold vX13_statement_49
  refine s_aload_n hZ.1 dX13_statement_49 rfl ?_
  refine s_dup hZ.1 dX13_statement_50 ?_
  refine yg13_89 dX13_statement_51 zw4210 ?_
  refine s_iconst dX13_statement_54 (by decide +kernel) ?_
  refine s_iadd dX13_statement_55 ?_
  refine yp13_89 hZ.1 dX13_statement_56 zw4210 ?_
  refine s_aload_n hZ.1 dX13_statement_59 rfl ?_
  refine s_callV hZ.1 (hg 3 _ _ rfl) (Nat.le_refl _) vy_X13_statementWithin zcl13 zw3095 zw206 (Or.inl zw3093) dX13_statement_60 ?_
  refine s_istore_n hZ.1 dX13_statement_63 rfl (Nat.le_of_ble_eq_true rfl) ?_
  refine s_aload_n hZ.1 dX13_statement_64 rfl ?_
  refine s_dup hZ.1 dX13_statement_65 ?_
  refine yg13_89 dX13_statement_66 zw4210 ?_
  refine s_iconst dX13_statement_69 (by decide +kernel) ?_
  refine s_isub dX13_statement_70 ?_
  refine yp13_89 hZ.1 dX13_statement_71 zw4210 ?_
  refine s_iload_n hZ.1 dX13_statement_74 rfl ?_
  exact s_iret hZ.1 rfl dX13_statement_75
noncomputable def vX13_statement_33 (g : Nat → List Nat → rx_H → Option (Nat × rx_H)) : rx_K := o_ld rx_isR 0 (o_const 24 (o_ld rx_isR 0 (o_ld rx_isR 0 (o_getf 13 22 (o_callV 1 13 FX13_placeAt (o_callV 2 13 FX13_fault (o_const 34359738352 (o_ret1 rx_isI))))))))
set_option maxRecDepth 20000 in
theorem wX13_statement_33 {dn : Nat} {g : Nat → List Nat → rx_H → Option (Nat × rx_H)} (hZ : zO b e D A X) (hg : ∀ i y M, vl9[i]? = some (y, M) → rx_Met (zV b e D A X) dn y M (g i)) (hd : 208 ≤ dn) : rx_OK (zV b e D A X) mX13_statement (dn + 1) 33 (vX13_statement_33 g) := by
  unfold vX13_statement_33
  refine s_aload_n hZ.1 dX13_statement_33 rfl ?_
  refine s_iconst dX13_statement_34 (by decide +kernel) ?_
  refine s_aload_n hZ.1 dX13_statement_35 rfl ?_
  refine s_aload_n hZ.1 dX13_statement_36 rfl ?_
  refine yg13_22 dX13_statement_37 zw4143 ?_
  refine s_callV hZ.1 (Met_X13_placeAt hZ) (Nat.succ_le_succ (Nat.le_trans (Nat.le_of_ble_eq_true rfl) hd)) vy_X13_placeAt zcl13 zw3000 zw189 (Or.inl zw2998) dX13_statement_40 ?_
  refine s_callV hZ.1 (Met_X13_fault hZ) (Nat.succ_le_succ (Nat.le_trans (Nat.le_of_ble_eq_true rfl) hd)) vy_X13_fault zcl13 zw3004 zw190 (Or.inl zw3002) dX13_statement_43 ?_
  refine s_bipush dX13_statement_46 (by decide +kernel) ?_
  exact s_iret hZ.1 rfl dX13_statement_48
noncomputable def vX13_statement_24 (g : Nat → List Nat → rx_H → Option (Nat × rx_H)) : rx_K := o_ld rx_isR 0 (o_getf 13 89 (o_const 96 (o_c2 rx_eq (vX13_statement_33 g) (vX13_statement_49 g))))
set_option maxRecDepth 20000 in
theorem wX13_statement_24 {dn : Nat} {g : Nat → List Nat → rx_H → Option (Nat × rx_H)} (hZ : zO b e D A X) (hg : ∀ i y M, vl9[i]? = some (y, M) → rx_Met (zV b e D A X) dn y M (g i)) (hd : 208 ≤ dn) : rx_OK (zV b e D A X) mX13_statement (dn + 1) 24 (vX13_statement_24 g) := by
  unfold vX13_statement_24
  refine s_aload_n hZ.1 dX13_statement_24 rfl ?_
  refine yg13_89 dX13_statement_25 zw4210 ?_
  refine s_bipush dX13_statement_28 (by decide +kernel) ?_
  exact s_icmp_ne dX13_statement_30 (by decide) (wX13_statement_49 hZ hg hd) (wX13_statement_33 hZ hg hd)
noncomputable def vX13_statement_17 (g : Nat → List Nat → rx_H → Option (Nat × rx_H)) : rx_K := o_ld rx_isR 0 (o_callV 0 13 FX13_wrong (o_const 34359738352 (o_ret1 rx_isI)))
set_option maxRecDepth 20000 in
theorem wX13_statement_17 {dn : Nat} {g : Nat → List Nat → rx_H → Option (Nat × rx_H)} (hZ : zO b e D A X) (hg : ∀ i y M, vl9[i]? = some (y, M) → rx_Met (zV b e D A X) dn y M (g i)) (hd : 208 ≤ dn) : rx_OK (zV b e D A X) mX13_statement (dn + 1) 17 (vX13_statement_17 g) := by
  unfold vX13_statement_17
  refine s_aload_n hZ.1 dX13_statement_17 rfl ?_
  refine s_callV hZ.1 (Met_X13_wrong hZ) (Nat.succ_le_succ (Nat.le_trans (Nat.le_of_ble_eq_true rfl) hd)) vy_X13_wrong zcl13 zw3016 zw192 (Or.inl zw3014) dX13_statement_18 ?_
  refine s_bipush dX13_statement_21 (by decide +kernel) ?_
  exact s_iret hZ.1 rfl dX13_statement_23
noncomputable def vX13_statement_10 (g : Nat → List Nat → rx_H → Option (Nat × rx_H)) : rx_K := o_ld rx_isR 0 (o_callV 0 13 FX13_beginsS (o_c1 rx_eq (vX13_statement_17 g) (vX13_statement_24 g)))
set_option maxRecDepth 20000 in
theorem wX13_statement_10 {dn : Nat} {g : Nat → List Nat → rx_H → Option (Nat × rx_H)} (hZ : zO b e D A X) (hg : ∀ i y M, vl9[i]? = some (y, M) → rx_Met (zV b e D A X) dn y M (g i)) (hd : 208 ≤ dn) : rx_OK (zV b e D A X) mX13_statement (dn + 1) 10 (vX13_statement_10 g) := by
  unfold vX13_statement_10
  refine s_aload_n hZ.1 dX13_statement_10 rfl ?_
  refine s_callV hZ.1 (Met_X13_beginsS hZ) (Nat.succ_le_succ (Nat.le_trans (Nat.le_of_ble_eq_true rfl) hd)) vy_X13_beginsS zcl13 zw3077 zw204 (Or.inl zw3075) dX13_statement_11 ?_
  exact s_if_ne dX13_statement_14 (by decide) (wX13_statement_24 hZ hg hd) (wX13_statement_17 hZ hg hd)
noncomputable def vX13_statement_7 (g : Nat → List Nat → rx_H → Option (Nat × rx_H)) : rx_K := o_const 34359738352 (o_ret1 rx_isI)
set_option maxRecDepth 20000 in
theorem wX13_statement_7 {dn : Nat} {g : Nat → List Nat → rx_H → Option (Nat × rx_H)} (hZ : zO b e D A X) (hg : ∀ i y M, vl9[i]? = some (y, M) → rx_Met (zV b e D A X) dn y M (g i)) (hd : 208 ≤ dn) : rx_OK (zV b e D A X) mX13_statement (dn + 1) 7 (vX13_statement_7 g) := by
  unfold vX13_statement_7
  refine s_bipush dX13_statement_7 (by decide +kernel) ?_
  exact s_iret hZ.1 rfl dX13_statement_9
noncomputable def vX13_statement_0 (g : Nat → List Nat → rx_H → Option (Nat × rx_H)) : rx_K := o_ld rx_isR 0 (o_getf 13 20 (o_c1 rx_eq (vX13_statement_10 g) (vX13_statement_7 g)))
set_option maxRecDepth 20000 in
theorem wX13_statement_0 {dn : Nat} {g : Nat → List Nat → rx_H → Option (Nat × rx_H)} (hZ : zO b e D A X) (hg : ∀ i y M, vl9[i]? = some (y, M) → rx_Met (zV b e D A X) dn y M (g i)) (hd : 208 ≤ dn) : rx_OK (zV b e D A X) mX13_statement (dn + 1) 0 (vX13_statement_0 g) := by
  unfold vX13_statement_0
  refine s_aload_n hZ.1 dX13_statement_0 rfl ?_
  refine yg13_20 dX13_statement_1 zw4141 ?_
  exact s_if_eq dX13_statement_4 (by decide) (wX13_statement_10 hZ hg hd) (wX13_statement_7 hZ hg hd)
noncomputable def FX13_statement (g : Nat → List Nat → rx_H → Option (Nat × rx_H)) : List Nat → rx_H → Option (Nat × rx_H) := rx_ent 2 (vX13_statement_0 g)
theorem Met_X13_statement {dn : Nat} {g : Nat → List Nat → rx_H → Option (Nat × rx_H)} (hZ : zO b e D A X) (hg : ∀ i y M, vl9[i]? = some (y, M) → rx_Met (zV b e D A X) dn y M (g i)) (hd : 208 ≤ dn) : rx_Met (zV b e D A X) (dn + 1) yX13_statement mX13_statement (FX13_statement g) := rx_entry hZ.1 (wX13_statement_0 hZ hg hd) (by decide +kernel) rfl (fun h => by cases h)
end ZM41

section ZM40
variable {b : Nat} {e : Nat → Value} {D : va_G} {A : Nat → ClassId} {X : State → Prop}
noncomputable def vX13_expression_163 (g : Nat → List Nat → rx_H → Option (Nat × rx_H)) : rx_K := o_ret1 rx_isI
set_option maxRecDepth 20000 in
theorem wX13_expression_163 {dn : Nat} {g : Nat → List Nat → rx_H → Option (Nat × rx_H)} (hZ : zO b e D A X) (hg : ∀ i y M, vl8[i]? = some (y, M) → rx_Met (zV b e D A X) dn y M (g i)) (hd : 7 ≤ dn) : rx_OK (zV b e D A X) mX13_expression (dn + 1) 163 (vX13_expression_163 g) := by
  unfold vX13_expression_163
  exact s_iret hZ.1 rfl dX13_expression_163
noncomputable def vX13_expression_161 (g : Nat → List Nat → rx_H → Option (Nat × rx_H)) : rx_K := o_const 34359738352 ((vX13_expression_163 g))
set_option maxRecDepth 20000 in
theorem wX13_expression_161 {dn : Nat} {g : Nat → List Nat → rx_H → Option (Nat × rx_H)} (hZ : zO b e D A X) (hg : ∀ i y M, vl8[i]? = some (y, M) → rx_Met (zV b e D A X) dn y M (g i)) (hd : 7 ≤ dn) : rx_OK (zV b e D A X) mX13_expression (dn + 1) 161 (vX13_expression_161 g) := by
  unfold vX13_expression_161
  refine s_bipush dX13_expression_161 (by decide +kernel) ?_
  exact (wX13_expression_163 hZ hg hd)
noncomputable def vX13_expression_157 (g : Nat → List Nat → rx_H → Option (Nat × rx_H)) : rx_K := o_ld rx_isI 1 ((vX13_expression_163 g))
set_option maxRecDepth 20000 in
theorem wX13_expression_157 {dn : Nat} {g : Nat → List Nat → rx_H → Option (Nat × rx_H)} (hZ : zO b e D A X) (hg : ∀ i y M, vl8[i]? = some (y, M) → rx_Met (zV b e D A X) dn y M (g i)) (hd : 7 ≤ dn) : rx_OK (zV b e D A X) mX13_expression (dn + 1) 157 (vX13_expression_157 g) := by
  unfold vX13_expression_157
  refine s_iload_n hZ.1 dX13_expression_157 rfl ?_
  exact s_goto dX13_expression_158 (by decide) (wX13_expression_163 hZ hg hd)
noncomputable def vX13_expression_140 (g : Nat → List Nat → rx_H → Option (Nat × rx_H)) : rx_K := o_ld rx_isR 0 (o_dup (o_getf 13 89 (o_const 8 (o_bi (fun x y => x - y) (o_putf rx_isI 13 89 (o_ld rx_isR 0 (o_getf 13 20 (o_c1 rx_eq (vX13_expression_157 g) (vX13_expression_161 g)))))))))
set_option maxRecDepth 20000 in
theorem wX13_expression_140 {dn : Nat} {g : Nat → List Nat → rx_H → Option (Nat × rx_H)} (hZ : zO b e D A X) (hg : ∀ i y M, vl8[i]? = some (y, M) → rx_Met (zV b e D A X) dn y M (g i)) (hd : 7 ≤ dn) : rx_OK (zV b e D A X) mX13_expression (dn + 1) 140 (vX13_expression_140 g) := by
  unfold vX13_expression_140
  refine s_aload_n hZ.1 dX13_expression_140 rfl ?_
  refine s_dup hZ.1 dX13_expression_141 ?_
  refine yg13_89 dX13_expression_142 zw4210 ?_
  refine s_iconst dX13_expression_145 (by decide +kernel) ?_
  refine s_isub dX13_expression_146 ?_
  refine yp13_89 hZ.1 dX13_expression_147 zw4210 ?_
  refine s_aload_n hZ.1 dX13_expression_150 rfl ?_
  refine yg13_20 dX13_expression_151 zw4141 ?_
  exact s_if_ne dX13_expression_154 (by decide) (wX13_expression_161 hZ hg hd) (wX13_expression_157 hZ hg hd)
noncomputable def vX13_expression_107 (g : Nat → List Nat → rx_H → Option (Nat × rx_H)) : rx_K := o_ld rx_isR 0 (o_getf 13 71 (o_ld rx_isI 1 (o_ald 0 (o_callV 2 13 FX13_node (o_st rx_isI 2 (o_ld rx_isR 0 (o_callV 0 13 FX13_step (o_ld rx_isR 0 (o_getf 13 77 (o_ld rx_isI 2 (o_ld rx_isI 1 (o_ast 0 (fun v => v) rx_isI (o_ld rx_isR 0 (o_getf 13 78 (o_ld rx_isI 2 (o_ld rx_isR 0 (o_callV 0 13 (g 6) (o_ast 0 (fun v => v) rx_isI (o_ld rx_isI 2 (o_st rx_isI 1 ((vX13_expression_140 g))))))))))))))))))))))
set_option maxRecDepth 20000 in
theorem wX13_expression_107 {dn : Nat} {g : Nat → List Nat → rx_H → Option (Nat × rx_H)} (hZ : zO b e D A X) (hg : ∀ i y M, vl8[i]? = some (y, M) → rx_Met (zV b e D A X) dn y M (g i)) (hd : 7 ≤ dn) : rx_OK (zV b e D A X) mX13_expression (dn + 1) 107 (vX13_expression_107 g) := by
  unfold vX13_expression_107
  refine s_aload_n hZ.1 dX13_expression_107 rfl ?_
  refine yg13_71 dX13_expression_108 zw4192 ?_
  refine s_iload_n hZ.1 dX13_expression_111 rfl ?_
  refine s_iald (tt := 0) rfl dX13_expression_112 ?_
  refine s_callV hZ.1 (Met_X13_node hZ) (Nat.succ_le_succ (Nat.le_trans (Nat.le_of_ble_eq_true rfl) hd)) vy_X13_node zcl13 zw3103 zw208 (Or.inl zw3101) dX13_expression_113 ?_
  refine s_istore_n hZ.1 dX13_expression_116 rfl (Nat.le_of_ble_eq_true rfl) ?_
  refine s_aload_n hZ.1 dX13_expression_117 rfl ?_
  refine s_callV hZ.1 (Met_X13_step hZ) (Nat.succ_le_succ (Nat.le_trans (Nat.le_of_ble_eq_true rfl) hd)) vy_X13_step zcl13 zw2996 zw188 (Or.inl zw2994) dX13_expression_118 ?_
  refine s_aload_n hZ.1 dX13_expression_121 rfl ?_
  refine yg13_77 dX13_expression_122 zw4198 ?_
  refine s_iload_n hZ.1 dX13_expression_125 rfl ?_
  refine s_iload_n hZ.1 dX13_expression_126 rfl ?_
  refine s_iast hZ.1 (tt := 0) rfl dX13_expression_127 ?_
  refine s_aload_n hZ.1 dX13_expression_128 rfl ?_
  refine yg13_78 dX13_expression_129 zw4199 ?_
  refine s_iload_n hZ.1 dX13_expression_132 rfl ?_
  refine s_aload_n hZ.1 dX13_expression_133 rfl ?_
  refine s_callV hZ.1 (hg 6 _ _ rfl) (Nat.le_refl _) vy_X13_sum zcl13 zw3111 zw210 (Or.inl zw3109) dX13_expression_134 ?_
  refine s_iast hZ.1 (tt := 0) rfl dX13_expression_137 ?_
  refine s_iload_n hZ.1 dX13_expression_138 rfl ?_
  refine s_istore_n hZ.1 dX13_expression_139 rfl (Nat.le_of_ble_eq_true rfl) ?_
  exact (wX13_expression_140 hZ hg hd)
noncomputable def vX13_expression_105 (g : Nat → List Nat → rx_H → Option (Nat × rx_H)) : rx_K := o_const 152 ((vX13_expression_107 g))
set_option maxRecDepth 20000 in
theorem wX13_expression_105 {dn : Nat} {g : Nat → List Nat → rx_H → Option (Nat × rx_H)} (hZ : zO b e D A X) (hg : ∀ i y M, vl8[i]? = some (y, M) → rx_Met (zV b e D A X) dn y M (g i)) (hd : 7 ≤ dn) : rx_OK (zV b e D A X) mX13_expression (dn + 1) 105 (vX13_expression_105 g) := by
  unfold vX13_expression_105
  refine s_bipush dX13_expression_105 (by decide +kernel) ?_
  exact (wX13_expression_107 hZ hg hd)
noncomputable def vX13_expression_100 (g : Nat → List Nat → rx_H → Option (Nat × rx_H)) : rx_K := o_const 144 ((vX13_expression_107 g))
set_option maxRecDepth 20000 in
theorem wX13_expression_100 {dn : Nat} {g : Nat → List Nat → rx_H → Option (Nat × rx_H)} (hZ : zO b e D A X) (hg : ∀ i y M, vl8[i]? = some (y, M) → rx_Met (zV b e D A X) dn y M (g i)) (hd : 7 ≤ dn) : rx_OK (zV b e D A X) mX13_expression (dn + 1) 100 (vX13_expression_100 g) := by
  unfold vX13_expression_100
  refine s_bipush dX13_expression_100 (by decide +kernel) ?_
  exact s_goto dX13_expression_102 (by decide) (wX13_expression_107 hZ hg hd)
noncomputable def vX13_expression_90 (g : Nat → List Nat → rx_H → Option (Nat × rx_H)) : rx_K := o_ld rx_isR 0 (o_ld rx_isR 0 (o_const 480 (o_callV 1 13 FX13_isSign (o_c1 rx_eq (vX13_expression_105 g) (vX13_expression_100 g)))))
set_option maxRecDepth 20000 in
theorem wX13_expression_90 {dn : Nat} {g : Nat → List Nat → rx_H → Option (Nat × rx_H)} (hZ : zO b e D A X) (hg : ∀ i y M, vl8[i]? = some (y, M) → rx_Met (zV b e D A X) dn y M (g i)) (hd : 7 ≤ dn) : rx_OK (zV b e D A X) mX13_expression (dn + 1) 90 (vX13_expression_90 g) := by
  unfold vX13_expression_90
  refine s_aload_n hZ.1 dX13_expression_90 rfl ?_
  refine s_aload_n hZ.1 dX13_expression_91 rfl ?_
  refine s_bipush dX13_expression_92 (by decide +kernel) ?_
  refine s_callV hZ.1 (Met_X13_isSign hZ) (Nat.succ_le_succ (Nat.le_trans (Nat.le_of_ble_eq_true rfl) hd)) vy_X13_isSign zcl13 zw3030 zw195 (Or.inl zw3028) dX13_expression_94 ?_
  exact s_if_eq dX13_expression_97 (by decide) (wX13_expression_105 hZ hg hd) (wX13_expression_100 hZ hg hd)
noncomputable def vX13_expression_80 (g : Nat → List Nat → rx_H → Option (Nat × rx_H)) : rx_K := o_ld rx_isR 0 (o_const 2048 (o_callV 1 13 FX13_isSign (o_c1 rx_eq (vX13_expression_140 g) (vX13_expression_90 g))))
set_option maxRecDepth 20000 in
theorem wX13_expression_80 {dn : Nat} {g : Nat → List Nat → rx_H → Option (Nat × rx_H)} (hZ : zO b e D A X) (hg : ∀ i y M, vl8[i]? = some (y, M) → rx_Met (zV b e D A X) dn y M (g i)) (hd : 7 ≤ dn) : rx_OK (zV b e D A X) mX13_expression (dn + 1) 80 (vX13_expression_80 g) := by
  unfold vX13_expression_80
  refine s_aload_n hZ.1 dX13_expression_80 rfl ?_
  refine s_sipush dX13_expression_81 (by decide +kernel) ?_
  refine s_callV hZ.1 (Met_X13_isSign hZ) (Nat.succ_le_succ (Nat.le_trans (Nat.le_of_ble_eq_true rfl) hd)) vy_X13_isSign zcl13 zw3030 zw195 (Or.inl zw3028) dX13_expression_84 ?_
  exact s_if_eq dX13_expression_87 (by decide) (wX13_expression_140 hZ hg hd) (wX13_expression_90 hZ hg hd)
noncomputable def vX13_expression_71 (g : Nat → List Nat → rx_H → Option (Nat × rx_H)) : rx_K := o_ld rx_isR 0 (o_const 480 (o_callV 1 13 FX13_isSign (o_c1 rx_eq (vX13_expression_80 g) (vX13_expression_90 g))))
set_option maxRecDepth 20000 in
theorem wX13_expression_71 {dn : Nat} {g : Nat → List Nat → rx_H → Option (Nat × rx_H)} (hZ : zO b e D A X) (hg : ∀ i y M, vl8[i]? = some (y, M) → rx_Met (zV b e D A X) dn y M (g i)) (hd : 7 ≤ dn) : rx_OK (zV b e D A X) mX13_expression (dn + 1) 71 (vX13_expression_71 g) := by
  unfold vX13_expression_71
  refine s_aload_n hZ.1 dX13_expression_71 rfl ?_
  refine s_bipush dX13_expression_72 (by decide +kernel) ?_
  refine s_callV hZ.1 (Met_X13_isSign hZ) (Nat.succ_le_succ (Nat.le_trans (Nat.le_of_ble_eq_true rfl) hd)) vy_X13_isSign zcl13 zw3030 zw195 (Or.inl zw3028) dX13_expression_74 ?_
  exact s_if_ne dX13_expression_77 (by decide) (wX13_expression_90 hZ hg hd) (wX13_expression_80 hZ hg hd)
noncomputable def vX13_expression_49 (g : Nat → List Nat → rx_H → Option (Nat × rx_H)) : rx_K := o_ld rx_isR 0 (o_dup (o_getf 13 89 (o_const 8 (o_bi (fun x y => x + y) (o_putf rx_isI 13 89 (o_ld rx_isR 0 (o_callV 0 13 (g 6) (o_st rx_isI 1 (o_ld rx_isR 0 (o_getf 13 20 (o_c1 rx_eq (vX13_expression_71 g) (vX13_expression_140 g))))))))))))
set_option maxRecDepth 20000 in
theorem wX13_expression_49 {dn : Nat} {g : Nat → List Nat → rx_H → Option (Nat × rx_H)} (hZ : zO b e D A X) (hg : ∀ i y M, vl8[i]? = some (y, M) → rx_Met (zV b e D A X) dn y M (g i)) (hd : 7 ≤ dn) : rx_OK (zV b e D A X) mX13_expression (dn + 1) 49 (vX13_expression_49 g) := by
  unfold vX13_expression_49
  refine s_aload_n hZ.1 dX13_expression_49 rfl ?_
  refine s_dup hZ.1 dX13_expression_50 ?_
  refine yg13_89 dX13_expression_51 zw4210 ?_
  refine s_iconst dX13_expression_54 (by decide +kernel) ?_
  refine s_iadd dX13_expression_55 ?_
  refine yp13_89 hZ.1 dX13_expression_56 zw4210 ?_
  refine s_aload_n hZ.1 dX13_expression_59 rfl ?_
  refine s_callV hZ.1 (hg 6 _ _ rfl) (Nat.le_refl _) vy_X13_sum zcl13 zw3111 zw210 (Or.inl zw3109) dX13_expression_60 ?_
  refine s_istore_n hZ.1 dX13_expression_63 rfl (Nat.le_of_ble_eq_true rfl) ?_
  refine s_aload_n hZ.1 dX13_expression_64 rfl ?_
  refine yg13_20 dX13_expression_65 zw4141 ?_
  exact s_if_ne dX13_expression_68 (by decide) (wX13_expression_140 hZ hg hd) (wX13_expression_71 hZ hg hd)
noncomputable def vX13_expression_33 (g : Nat → List Nat → rx_H → Option (Nat × rx_H)) : rx_K := o_ld rx_isR 0 (o_const 24 (o_ld rx_isR 0 (o_ld rx_isR 0 (o_getf 13 22 (o_callV 1 13 FX13_placeAt (o_callV 2 13 FX13_fault (o_const 34359738352 (o_ret1 rx_isI))))))))
set_option maxRecDepth 20000 in
theorem wX13_expression_33 {dn : Nat} {g : Nat → List Nat → rx_H → Option (Nat × rx_H)} (hZ : zO b e D A X) (hg : ∀ i y M, vl8[i]? = some (y, M) → rx_Met (zV b e D A X) dn y M (g i)) (hd : 7 ≤ dn) : rx_OK (zV b e D A X) mX13_expression (dn + 1) 33 (vX13_expression_33 g) := by
  unfold vX13_expression_33
  refine s_aload_n hZ.1 dX13_expression_33 rfl ?_
  refine s_iconst dX13_expression_34 (by decide +kernel) ?_
  refine s_aload_n hZ.1 dX13_expression_35 rfl ?_
  refine s_aload_n hZ.1 dX13_expression_36 rfl ?_
  refine yg13_22 dX13_expression_37 zw4143 ?_
  refine s_callV hZ.1 (Met_X13_placeAt hZ) (Nat.succ_le_succ (Nat.le_trans (Nat.le_of_ble_eq_true rfl) hd)) vy_X13_placeAt zcl13 zw3000 zw189 (Or.inl zw2998) dX13_expression_40 ?_
  refine s_callV hZ.1 (Met_X13_fault hZ) (Nat.succ_le_succ (Nat.le_trans (Nat.le_of_ble_eq_true rfl) hd)) vy_X13_fault zcl13 zw3004 zw190 (Or.inl zw3002) dX13_expression_43 ?_
  refine s_bipush dX13_expression_46 (by decide +kernel) ?_
  exact s_iret hZ.1 rfl dX13_expression_48
noncomputable def vX13_expression_24 (g : Nat → List Nat → rx_H → Option (Nat × rx_H)) : rx_K := o_ld rx_isR 0 (o_getf 13 89 (o_const 96 (o_c2 rx_eq (vX13_expression_33 g) (vX13_expression_49 g))))
set_option maxRecDepth 20000 in
theorem wX13_expression_24 {dn : Nat} {g : Nat → List Nat → rx_H → Option (Nat × rx_H)} (hZ : zO b e D A X) (hg : ∀ i y M, vl8[i]? = some (y, M) → rx_Met (zV b e D A X) dn y M (g i)) (hd : 7 ≤ dn) : rx_OK (zV b e D A X) mX13_expression (dn + 1) 24 (vX13_expression_24 g) := by
  unfold vX13_expression_24
  refine s_aload_n hZ.1 dX13_expression_24 rfl ?_
  refine yg13_89 dX13_expression_25 zw4210 ?_
  refine s_bipush dX13_expression_28 (by decide +kernel) ?_
  exact s_icmp_ne dX13_expression_30 (by decide) (wX13_expression_49 hZ hg hd) (wX13_expression_33 hZ hg hd)
noncomputable def vX13_expression_17 (g : Nat → List Nat → rx_H → Option (Nat × rx_H)) : rx_K := o_ld rx_isR 0 (o_callV 0 13 FX13_wrong (o_const 34359738352 (o_ret1 rx_isI)))
set_option maxRecDepth 20000 in
theorem wX13_expression_17 {dn : Nat} {g : Nat → List Nat → rx_H → Option (Nat × rx_H)} (hZ : zO b e D A X) (hg : ∀ i y M, vl8[i]? = some (y, M) → rx_Met (zV b e D A X) dn y M (g i)) (hd : 7 ≤ dn) : rx_OK (zV b e D A X) mX13_expression (dn + 1) 17 (vX13_expression_17 g) := by
  unfold vX13_expression_17
  refine s_aload_n hZ.1 dX13_expression_17 rfl ?_
  refine s_callV hZ.1 (Met_X13_wrong hZ) (Nat.succ_le_succ (Nat.le_trans (Nat.le_of_ble_eq_true rfl) hd)) vy_X13_wrong zcl13 zw3016 zw192 (Or.inl zw3014) dX13_expression_18 ?_
  refine s_bipush dX13_expression_21 (by decide +kernel) ?_
  exact s_iret hZ.1 rfl dX13_expression_23
noncomputable def vX13_expression_10 (g : Nat → List Nat → rx_H → Option (Nat × rx_H)) : rx_K := o_ld rx_isR 0 (o_callV 0 13 FX13_beginsE (o_c1 rx_eq (vX13_expression_17 g) (vX13_expression_24 g)))
set_option maxRecDepth 20000 in
theorem wX13_expression_10 {dn : Nat} {g : Nat → List Nat → rx_H → Option (Nat × rx_H)} (hZ : zO b e D A X) (hg : ∀ i y M, vl8[i]? = some (y, M) → rx_Met (zV b e D A X) dn y M (g i)) (hd : 7 ≤ dn) : rx_OK (zV b e D A X) mX13_expression (dn + 1) 10 (vX13_expression_10 g) := by
  unfold vX13_expression_10
  refine s_aload_n hZ.1 dX13_expression_10 rfl ?_
  refine s_callV hZ.1 (Met_X13_beginsE hZ) (Nat.succ_le_succ (Nat.le_trans (Nat.le_of_ble_eq_true rfl) hd)) vy_X13_beginsE zcl13 zw3081 zw205 (Or.inl zw3079) dX13_expression_11 ?_
  exact s_if_ne dX13_expression_14 (by decide) (wX13_expression_24 hZ hg hd) (wX13_expression_17 hZ hg hd)
noncomputable def vX13_expression_7 (g : Nat → List Nat → rx_H → Option (Nat × rx_H)) : rx_K := o_const 34359738352 (o_ret1 rx_isI)
set_option maxRecDepth 20000 in
theorem wX13_expression_7 {dn : Nat} {g : Nat → List Nat → rx_H → Option (Nat × rx_H)} (hZ : zO b e D A X) (hg : ∀ i y M, vl8[i]? = some (y, M) → rx_Met (zV b e D A X) dn y M (g i)) (hd : 7 ≤ dn) : rx_OK (zV b e D A X) mX13_expression (dn + 1) 7 (vX13_expression_7 g) := by
  unfold vX13_expression_7
  refine s_bipush dX13_expression_7 (by decide +kernel) ?_
  exact s_iret hZ.1 rfl dX13_expression_9
noncomputable def vX13_expression_0 (g : Nat → List Nat → rx_H → Option (Nat × rx_H)) : rx_K := o_ld rx_isR 0 (o_getf 13 20 (o_c1 rx_eq (vX13_expression_10 g) (vX13_expression_7 g)))
set_option maxRecDepth 20000 in
theorem wX13_expression_0 {dn : Nat} {g : Nat → List Nat → rx_H → Option (Nat × rx_H)} (hZ : zO b e D A X) (hg : ∀ i y M, vl8[i]? = some (y, M) → rx_Met (zV b e D A X) dn y M (g i)) (hd : 7 ≤ dn) : rx_OK (zV b e D A X) mX13_expression (dn + 1) 0 (vX13_expression_0 g) := by
  unfold vX13_expression_0
  refine s_aload_n hZ.1 dX13_expression_0 rfl ?_
  refine yg13_20 dX13_expression_1 zw4141 ?_
  exact s_if_eq dX13_expression_4 (by decide) (wX13_expression_10 hZ hg hd) (wX13_expression_7 hZ hg hd)
noncomputable def FX13_expression (g : Nat → List Nat → rx_H → Option (Nat × rx_H)) : List Nat → rx_H → Option (Nat × rx_H) := rx_ent 3 (vX13_expression_0 g)
theorem Met_X13_expression {dn : Nat} {g : Nat → List Nat → rx_H → Option (Nat × rx_H)} (hZ : zO b e D A X) (hg : ∀ i y M, vl8[i]? = some (y, M) → rx_Met (zV b e D A X) dn y M (g i)) (hd : 7 ≤ dn) : rx_Met (zV b e D A X) (dn + 1) yX13_expression mX13_expression (FX13_expression g) := rx_entry hZ.1 (wX13_expression_0 hZ hg hd) (by decide +kernel) rfl (fun h => by cases h)
noncomputable def vX13_first_355 (g : Nat → List Nat → rx_H → Option (Nat × rx_H)) : rx_K := o_ret1 rx_isI
set_option maxRecDepth 20000 in
theorem wX13_first_355 {dn : Nat} {g : Nat → List Nat → rx_H → Option (Nat × rx_H)} (hZ : zO b e D A X) (hg : ∀ i y M, vl8[i]? = some (y, M) → rx_Met (zV b e D A X) dn y M (g i)) (hd : 7 ≤ dn) : rx_OK (zV b e D A X) mX13_first (dn + 1) 355 (vX13_first_355 g) := by
  unfold vX13_first_355
  exact s_iret hZ.1 rfl dX13_first_355
noncomputable def vX13_first_353 (g : Nat → List Nat → rx_H → Option (Nat × rx_H)) : rx_K := o_const 34359738352 ((vX13_first_355 g))
set_option maxRecDepth 20000 in
theorem wX13_first_353 {dn : Nat} {g : Nat → List Nat → rx_H → Option (Nat × rx_H)} (hZ : zO b e D A X) (hg : ∀ i y M, vl8[i]? = some (y, M) → rx_Met (zV b e D A X) dn y M (g i)) (hd : 7 ≤ dn) : rx_OK (zV b e D A X) mX13_first (dn + 1) 353 (vX13_first_353 g) := by
  unfold vX13_first_353
  refine s_bipush dX13_first_353 (by decide +kernel) ?_
  exact (wX13_first_355 hZ hg hd)
noncomputable def vX13_first_345 (g : Nat → List Nat → rx_H → Option (Nat × rx_H)) : rx_K := o_ld rx_isR 0 (o_ld rx_isI 1 (o_callV 1 13 (g 3) ((vX13_first_355 g))))
set_option maxRecDepth 20000 in
theorem wX13_first_345 {dn : Nat} {g : Nat → List Nat → rx_H → Option (Nat × rx_H)} (hZ : zO b e D A X) (hg : ∀ i y M, vl8[i]? = some (y, M) → rx_Met (zV b e D A X) dn y M (g i)) (hd : 7 ≤ dn) : rx_OK (zV b e D A X) mX13_first (dn + 1) 345 (vX13_first_345 g) := by
  unfold vX13_first_345
  refine s_aload_n hZ.1 dX13_first_345 rfl ?_
  refine s_iload_n hZ.1 dX13_first_346 rfl ?_
  refine s_callV hZ.1 (hg 3 _ _ rfl) (Nat.le_refl _) vy_X13_inBrackets zcl13 zw3135 zw216 (Or.inl zw3133) dX13_first_347 ?_
  exact s_goto dX13_first_350 (by decide) (wX13_first_355 hZ hg hd)
noncomputable def vX13_first_338 (g : Nat → List Nat → rx_H → Option (Nat × rx_H)) : rx_K := o_ld rx_isR 0 (o_getf 13 20 (o_c1 rx_eq (vX13_first_345 g) (vX13_first_353 g)))
set_option maxRecDepth 20000 in
theorem wX13_first_338 {dn : Nat} {g : Nat → List Nat → rx_H → Option (Nat × rx_H)} (hZ : zO b e D A X) (hg : ∀ i y M, vl8[i]? = some (y, M) → rx_Met (zV b e D A X) dn y M (g i)) (hd : 7 ≤ dn) : rx_OK (zV b e D A X) mX13_first (dn + 1) 338 (vX13_first_338 g) := by
  unfold vX13_first_338
  refine s_aload_n hZ.1 dX13_first_338 rfl ?_
  refine yg13_20 dX13_first_339 zw4141 ?_
  exact s_if_ne dX13_first_342 (by decide) (wX13_first_353 hZ hg hd) (wX13_first_345 hZ hg hd)
noncomputable def vX13_first_326 (g : Nat → List Nat → rx_H → Option (Nat × rx_H)) : rx_K := o_ld rx_isR 0 (o_getf 13 78 (o_ld rx_isI 3 (o_ld rx_isR 0 (o_callV 0 13 (g 0) (o_ast 0 (fun v => v) rx_isI (o_ld rx_isI 3 (o_ret1 rx_isI)))))))
set_option maxRecDepth 20000 in
theorem wX13_first_326 {dn : Nat} {g : Nat → List Nat → rx_H → Option (Nat × rx_H)} (hZ : zO b e D A X) (hg : ∀ i y M, vl8[i]? = some (y, M) → rx_Met (zV b e D A X) dn y M (g i)) (hd : 7 ≤ dn) : rx_OK (zV b e D A X) mX13_first (dn + 1) 326 (vX13_first_326 g) := by
  unfold vX13_first_326
  refine s_aload_n hZ.1 dX13_first_326 rfl ?_
  refine yg13_78 dX13_first_327 zw4199 ?_
  refine s_iload_n hZ.1 dX13_first_330 rfl ?_
  refine s_aload_n hZ.1 dX13_first_331 rfl ?_
  refine s_callV hZ.1 (hg 0 _ _ rfl) (Nat.le_refl _) vy_X13_arguments zcl13 zw3127 zw214 (Or.inl zw3125) dX13_first_332 ?_
  refine s_iast hZ.1 (tt := 0) rfl dX13_first_335 ?_
  refine s_iload_n hZ.1 dX13_first_336 rfl ?_
  exact s_iret hZ.1 rfl dX13_first_337
noncomputable def vX13_first_286 (g : Nat → List Nat → rx_H → Option (Nat × rx_H)) : rx_K := o_ld rx_isR 0 (o_const 72 (o_ld rx_isI 1 (o_callV 2 13 FX13_node (o_st rx_isI 3 (o_ld rx_isR 0 (o_const 8 (o_const 0 (o_callV 2 13 FX13_want (o_st rx_isI 4 (o_ld rx_isR 0 (o_getf 13 75 (o_ld rx_isI 3 (o_ld rx_isR 0 (o_ld rx_isI 4 (o_callV 1 13 FX13_nameAt (o_ast 1 (fun v => v) rx_isL (o_ld rx_isR 0 (o_getf 13 73 (o_ld rx_isI 3 (o_ld rx_isR 0 (o_ld rx_isI 4 (o_callV 1 13 FX13_placeAt (o_ast 0 (fun v => v) rx_isI ((vX13_first_326 g)))))))))))))))))))))))))
set_option maxRecDepth 20000 in
theorem wX13_first_286 {dn : Nat} {g : Nat → List Nat → rx_H → Option (Nat × rx_H)} (hZ : zO b e D A X) (hg : ∀ i y M, vl8[i]? = some (y, M) → rx_Met (zV b e D A X) dn y M (g i)) (hd : 7 ≤ dn) : rx_OK (zV b e D A X) mX13_first (dn + 1) 286 (vX13_first_286 g) := by
  unfold vX13_first_286
  refine s_aload_n hZ.1 dX13_first_286 rfl ?_
  refine s_bipush dX13_first_287 (by decide +kernel) ?_
  refine s_iload_n hZ.1 dX13_first_289 rfl ?_
  refine s_callV hZ.1 (Met_X13_node hZ) (Nat.succ_le_succ (Nat.le_trans (Nat.le_of_ble_eq_true rfl) hd)) vy_X13_node zcl13 zw3103 zw208 (Or.inl zw3101) dX13_first_290 ?_
  refine s_istore_n hZ.1 dX13_first_293 rfl (Nat.le_of_ble_eq_true rfl) ?_
  refine s_aload_n hZ.1 dX13_first_294 rfl ?_
  refine s_iconst dX13_first_295 (by decide +kernel) ?_
  refine s_iconst dX13_first_296 (by decide +kernel) ?_
  refine s_callV hZ.1 (Met_X13_want hZ) (Nat.succ_le_succ (Nat.le_trans (Nat.le_of_ble_eq_true rfl) hd)) vy_X13_want zcl13 zw3020 zw193 (Or.inl zw3018) dX13_first_297 ?_
  refine s_istore hZ.1 dX13_first_300 (Nat.le_of_ble_eq_true rfl) ?_
  refine s_aload_n hZ.1 dX13_first_302 rfl ?_
  refine yg13_75 dX13_first_303 zw4196 ?_
  refine s_iload_n hZ.1 dX13_first_306 rfl ?_
  refine s_aload_n hZ.1 dX13_first_307 rfl ?_
  refine s_iload hZ.1 dX13_first_308 ?_
  refine s_callV hZ.1 (Met_X13_nameAt hZ) (Nat.succ_le_succ (Nat.le_trans (Nat.le_of_ble_eq_true rfl) hd)) vy_X13_nameAt zcl13 zw2987 zw187 (Or.inl zw2985) dX13_first_310 ?_
  refine s_last (tt := 1) rfl dX13_first_313 ?_
  refine s_aload_n hZ.1 dX13_first_314 rfl ?_
  refine yg13_73 dX13_first_315 zw4194 ?_
  refine s_iload_n hZ.1 dX13_first_318 rfl ?_
  refine s_aload_n hZ.1 dX13_first_319 rfl ?_
  refine s_iload hZ.1 dX13_first_320 ?_
  refine s_callV hZ.1 (Met_X13_placeAt hZ) (Nat.succ_le_succ (Nat.le_trans (Nat.le_of_ble_eq_true rfl) hd)) vy_X13_placeAt zcl13 zw3000 zw189 (Or.inl zw2998) dX13_first_322 ?_
  refine s_iast hZ.1 (tt := 0) rfl dX13_first_325 ?_
  exact (wX13_first_326 hZ hg hd)
noncomputable def vX13_first_276 (g : Nat → List Nat → rx_H → Option (Nat × rx_H)) : rx_K := o_ld rx_isR 0 (o_const 740 (o_callV 1 13 FX13_takesWord (o_c1 rx_eq (vX13_first_338 g) (vX13_first_286 g))))
set_option maxRecDepth 20000 in
theorem wX13_first_276 {dn : Nat} {g : Nat → List Nat → rx_H → Option (Nat × rx_H)} (hZ : zO b e D A X) (hg : ∀ i y M, vl8[i]? = some (y, M) → rx_Met (zV b e D A X) dn y M (g i)) (hd : 7 ≤ dn) : rx_OK (zV b e D A X) mX13_first (dn + 1) 276 (vX13_first_276 g) := by
  unfold vX13_first_276
  refine s_aload_n hZ.1 dX13_first_276 rfl ?_
  refine s_ldcwS (k := 92) (zo_R92 hZ) dX13_first_277 ?_
  refine s_callV hZ.1 (Met_X13_takesWord hZ) (Nat.succ_le_succ (Nat.le_trans (Nat.le_of_ble_eq_true rfl) hd)) vy_X13_takesWord zcl13 zw2979 zw185 (Or.inl zw2977) dX13_first_280 ?_
  exact s_if_eq dX13_first_283 (by decide) (wX13_first_338 hZ hg hd) (wX13_first_286 hZ hg hd)
noncomputable def vX13_first_258 (g : Nat → List Nat → rx_H → Option (Nat × rx_H)) : rx_K := o_ld rx_isI 4 (o_callV 1 13 FX13_placeAt (o_ast 0 (fun v => v) rx_isI (o_ld rx_isR 0 (o_getf 13 78 (o_ld rx_isI 3 (o_ld rx_isR 0 (o_callV 0 13 (g 0) (o_ast 0 (fun v => v) rx_isI (o_ld rx_isI 3 (o_ret1 rx_isI))))))))))
set_option maxRecDepth 20000 in
theorem wX13_first_258 {dn : Nat} {g : Nat → List Nat → rx_H → Option (Nat × rx_H)} (hZ : zO b e D A X) (hg : ∀ i y M, vl8[i]? = some (y, M) → rx_Met (zV b e D A X) dn y M (g i)) (hd : 7 ≤ dn) : rx_OK (zV b e D A X) mX13_first (dn + 1) 258 (vX13_first_258 g) := by
  unfold vX13_first_258
  refine s_iload hZ.1 dX13_first_258 ?_
  refine s_callV hZ.1 (Met_X13_placeAt hZ) (Nat.succ_le_succ (Nat.le_trans (Nat.le_of_ble_eq_true rfl) hd)) vy_X13_placeAt zcl13 zw3000 zw189 (Or.inl zw2998) dX13_first_260 ?_
  refine s_iast hZ.1 (tt := 0) rfl dX13_first_263 ?_
  refine s_aload_n hZ.1 dX13_first_264 rfl ?_
  refine yg13_78 dX13_first_265 zw4199 ?_
  refine s_iload_n hZ.1 dX13_first_268 rfl ?_
  refine s_aload_n hZ.1 dX13_first_269 rfl ?_
  refine s_callV hZ.1 (hg 0 _ _ rfl) (Nat.le_refl _) vy_X13_arguments zcl13 zw3127 zw214 (Or.inl zw3125) dX13_first_270 ?_
  refine s_iast hZ.1 (tt := 0) rfl dX13_first_273 ?_
  refine s_iload_n hZ.1 dX13_first_274 rfl ?_
  exact s_iret hZ.1 rfl dX13_first_275
noncomputable def vX13_first_218 (g : Nat → List Nat → rx_H → Option (Nat × rx_H)) : rx_K := o_ld rx_isR 0 (o_const 64 (o_ld rx_isI 1 (o_callV 2 13 FX13_node (o_st rx_isI 3 (o_ld rx_isR 0 (o_const 368 (o_callV 1 13 FX13_wantSign (o_ld rx_isR 0 (o_const 16 (o_const 0 (o_callV 2 13 FX13_want (o_st rx_isI 4 (o_ld rx_isR 0 (o_getf 13 74 (o_ld rx_isI 3 (o_ld rx_isR 0 (o_ld rx_isI 4 (o_callV 1 13 FX13_nameAt (o_ast 1 (fun v => v) rx_isL (o_ld rx_isR 0 (o_getf 13 72 (o_ld rx_isI 3 (o_ld rx_isR 0 ((vX13_first_258 g)))))))))))))))))))))))))
set_option maxRecDepth 20000 in
theorem wX13_first_218 {dn : Nat} {g : Nat → List Nat → rx_H → Option (Nat × rx_H)} (hZ : zO b e D A X) (hg : ∀ i y M, vl8[i]? = some (y, M) → rx_Met (zV b e D A X) dn y M (g i)) (hd : 7 ≤ dn) : rx_OK (zV b e D A X) mX13_first (dn + 1) 218 (vX13_first_218 g) := by
  unfold vX13_first_218
  refine s_aload_n hZ.1 dX13_first_218 rfl ?_
  refine s_bipush dX13_first_219 (by decide +kernel) ?_
  refine s_iload_n hZ.1 dX13_first_221 rfl ?_
  refine s_callV hZ.1 (Met_X13_node hZ) (Nat.succ_le_succ (Nat.le_trans (Nat.le_of_ble_eq_true rfl) hd)) vy_X13_node zcl13 zw3103 zw208 (Or.inl zw3101) dX13_first_222 ?_
  refine s_istore_n hZ.1 dX13_first_225 rfl (Nat.le_of_ble_eq_true rfl) ?_
  refine s_aload_n hZ.1 dX13_first_226 rfl ?_
  refine s_bipush dX13_first_227 (by decide +kernel) ?_
  refine s_callV hZ.1 (Met_X13_wantSign hZ) (Nat.succ_le_succ (Nat.le_trans (Nat.le_of_ble_eq_true rfl) hd)) vy_X13_wantSign zcl13 zw3037 zw196 (Or.inl zw3035) dX13_first_229 ?_
  refine s_aload_n hZ.1 dX13_first_232 rfl ?_
  refine s_iconst dX13_first_233 (by decide +kernel) ?_
  refine s_iconst dX13_first_234 (by decide +kernel) ?_
  refine s_callV hZ.1 (Met_X13_want hZ) (Nat.succ_le_succ (Nat.le_trans (Nat.le_of_ble_eq_true rfl) hd)) vy_X13_want zcl13 zw3020 zw193 (Or.inl zw3018) dX13_first_235 ?_
  refine s_istore hZ.1 dX13_first_238 (Nat.le_of_ble_eq_true rfl) ?_
  refine s_aload_n hZ.1 dX13_first_240 rfl ?_
  refine yg13_74 dX13_first_241 zw4195 ?_
  refine s_iload_n hZ.1 dX13_first_244 rfl ?_
  refine s_aload_n hZ.1 dX13_first_245 rfl ?_
  refine s_iload hZ.1 dX13_first_246 ?_
  refine s_callV hZ.1 (Met_X13_nameAt hZ) (Nat.succ_le_succ (Nat.le_trans (Nat.le_of_ble_eq_true rfl) hd)) vy_X13_nameAt zcl13 zw2987 zw187 (Or.inl zw2985) dX13_first_248 ?_
  refine s_last (tt := 1) rfl dX13_first_251 ?_
  refine s_aload_n hZ.1 dX13_first_252 rfl ?_
  refine yg13_72 dX13_first_253 zw4193 ?_
  refine s_iload_n hZ.1 dX13_first_256 rfl ?_
  refine s_aload_n hZ.1 dX13_first_257 rfl ?_
  exact (wX13_first_258 hZ hg hd)
noncomputable def vX13_first_208 (g : Nat → List Nat → rx_H → Option (Nat × rx_H)) : rx_K := o_ld rx_isR 0 (o_const 804 (o_callV 1 13 FX13_takesWord (o_c1 rx_eq (vX13_first_276 g) (vX13_first_218 g))))
set_option maxRecDepth 20000 in
theorem wX13_first_208 {dn : Nat} {g : Nat → List Nat → rx_H → Option (Nat × rx_H)} (hZ : zO b e D A X) (hg : ∀ i y M, vl8[i]? = some (y, M) → rx_Met (zV b e D A X) dn y M (g i)) (hd : 7 ≤ dn) : rx_OK (zV b e D A X) mX13_first (dn + 1) 208 (vX13_first_208 g) := by
  unfold vX13_first_208
  refine s_aload_n hZ.1 dX13_first_208 rfl ?_
  refine s_ldcwS (k := 100) (zo_R100 hZ) dX13_first_209 ?_
  refine s_callV hZ.1 (Met_X13_takesWord hZ) (Nat.succ_le_succ (Nat.le_trans (Nat.le_of_ble_eq_true rfl) hd)) vy_X13_takesWord zcl13 zw2979 zw185 (Or.inl zw2977) dX13_first_212 ?_
  exact s_if_eq dX13_first_215 (by decide) (wX13_first_276 hZ hg hd) (wX13_first_218 hZ hg hd)
noncomputable def vX13_first_202 (g : Nat → List Nat → rx_H → Option (Nat × rx_H)) : rx_K := o_ld rx_isR 0 (o_ld rx_isI 1 (o_callV 1 13 (g 4) (o_ret1 rx_isI)))
set_option maxRecDepth 20000 in
theorem wX13_first_202 {dn : Nat} {g : Nat → List Nat → rx_H → Option (Nat × rx_H)} (hZ : zO b e D A X) (hg : ∀ i y M, vl8[i]? = some (y, M) → rx_Met (zV b e D A X) dn y M (g i)) (hd : 7 ≤ dn) : rx_OK (zV b e D A X) mX13_first (dn + 1) 202 (vX13_first_202 g) := by
  unfold vX13_first_202
  refine s_aload_n hZ.1 dX13_first_202 rfl ?_
  refine s_iload_n hZ.1 dX13_first_203 rfl ?_
  refine s_callV hZ.1 (hg 4 _ _ rfl) (Nat.le_refl _) vy_X13_ofClass zcl13 zw3131 zw215 (Or.inl zw3129) dX13_first_204 ?_
  exact s_iret hZ.1 rfl dX13_first_207
noncomputable def vX13_first_197 (g : Nat → List Nat → rx_H → Option (Nat × rx_H)) : rx_K := o_ld rx_isI 2 (o_const 8 (o_c2 rx_eq (vX13_first_202 g) (vX13_first_208 g)))
set_option maxRecDepth 20000 in
theorem wX13_first_197 {dn : Nat} {g : Nat → List Nat → rx_H → Option (Nat × rx_H)} (hZ : zO b e D A X) (hg : ∀ i y M, vl8[i]? = some (y, M) → rx_Met (zV b e D A X) dn y M (g i)) (hd : 7 ≤ dn) : rx_OK (zV b e D A X) mX13_first (dn + 1) 197 (vX13_first_197 g) := by
  unfold vX13_first_197
  refine s_iload_n hZ.1 dX13_first_197 rfl ?_
  refine s_iconst dX13_first_198 (by decide +kernel) ?_
  exact s_icmp_ne dX13_first_199 (by decide) (wX13_first_208 hZ hg hd) (wX13_first_202 hZ hg hd)
noncomputable def vX13_first_193 (g : Nat → List Nat → rx_H → Option (Nat × rx_H)) : rx_K := o_ast 0 (fun v => v) rx_isI (o_ld rx_isI 6 (o_ret1 rx_isI))
set_option maxRecDepth 20000 in
theorem wX13_first_193 {dn : Nat} {g : Nat → List Nat → rx_H → Option (Nat × rx_H)} (hZ : zO b e D A X) (hg : ∀ i y M, vl8[i]? = some (y, M) → rx_Met (zV b e D A X) dn y M (g i)) (hd : 7 ≤ dn) : rx_OK (zV b e D A X) mX13_first (dn + 1) 193 (vX13_first_193 g) := by
  unfold vX13_first_193
  refine s_iast hZ.1 (tt := 0) rfl dX13_first_193 ?_
  refine s_iload hZ.1 dX13_first_194 ?_
  exact s_iret hZ.1 rfl dX13_first_196
noncomputable def vX13_first_191 (g : Nat → List Nat → rx_H → Option (Nat × rx_H)) : rx_K := o_const 34359738352 ((vX13_first_193 g))
set_option maxRecDepth 20000 in
theorem wX13_first_191 {dn : Nat} {g : Nat → List Nat → rx_H → Option (Nat × rx_H)} (hZ : zO b e D A X) (hg : ∀ i y M, vl8[i]? = some (y, M) → rx_Met (zV b e D A X) dn y M (g i)) (hd : 7 ≤ dn) : rx_OK (zV b e D A X) mX13_first (dn + 1) 191 (vX13_first_191 g) := by
  unfold vX13_first_191
  refine s_bipush dX13_first_191 (by decide +kernel) ?_
  exact (wX13_first_193 hZ hg hd)
noncomputable def vX13_first_184 (g : Nat → List Nat → rx_H → Option (Nat × rx_H)) : rx_K := o_ld rx_isR 0 (o_callV 0 13 (g 0) ((vX13_first_193 g)))
set_option maxRecDepth 20000 in
theorem wX13_first_184 {dn : Nat} {g : Nat → List Nat → rx_H → Option (Nat × rx_H)} (hZ : zO b e D A X) (hg : ∀ i y M, vl8[i]? = some (y, M) → rx_Met (zV b e D A X) dn y M (g i)) (hd : 7 ≤ dn) : rx_OK (zV b e D A X) mX13_first (dn + 1) 184 (vX13_first_184 g) := by
  unfold vX13_first_184
  refine s_aload_n hZ.1 dX13_first_184 rfl ?_
  refine s_callV hZ.1 (hg 0 _ _ rfl) (Nat.le_refl _) vy_X13_arguments zcl13 zw3127 zw214 (Or.inl zw3125) dX13_first_185 ?_
  exact s_goto dX13_first_188 (by decide) (wX13_first_193 hZ hg hd)
noncomputable def vX13_first_159 (g : Nat → List Nat → rx_H → Option (Nat × rx_H)) : rx_K := o_ld rx_isI 1 (o_callV 2 13 FX13_node (o_st rx_isI 6 (o_ld rx_isR 0 (o_getf 13 74 (o_ld rx_isI 6 (o_ld rx_isL 3 (o_ast 1 (fun v => v) rx_isL (o_ld rx_isR 0 (o_getf 13 78 (o_ld rx_isI 6 (o_ld rx_isI 5 (o_c1 rx_eq (vX13_first_191 g) (vX13_first_184 g)))))))))))))
set_option maxRecDepth 20000 in
theorem wX13_first_159 {dn : Nat} {g : Nat → List Nat → rx_H → Option (Nat × rx_H)} (hZ : zO b e D A X) (hg : ∀ i y M, vl8[i]? = some (y, M) → rx_Met (zV b e D A X) dn y M (g i)) (hd : 7 ≤ dn) : rx_OK (zV b e D A X) mX13_first (dn + 1) 159 (vX13_first_159 g) := by
  unfold vX13_first_159
  refine s_iload_n hZ.1 dX13_first_159 rfl ?_
  refine s_callV hZ.1 (Met_X13_node hZ) (Nat.succ_le_succ (Nat.le_trans (Nat.le_of_ble_eq_true rfl) hd)) vy_X13_node zcl13 zw3103 zw208 (Or.inl zw3101) dX13_first_160 ?_
  refine s_istore hZ.1 dX13_first_163 (Nat.le_of_ble_eq_true rfl) ?_
  refine s_aload_n hZ.1 dX13_first_165 rfl ?_
  refine yg13_74 dX13_first_166 zw4195 ?_
  refine s_iload hZ.1 dX13_first_169 ?_
  refine s_lload_n hZ.1 dX13_first_171 rfl ?_
  refine s_last (tt := 1) rfl dX13_first_172 ?_
  refine s_aload_n hZ.1 dX13_first_173 rfl ?_
  refine yg13_78 dX13_first_174 zw4199 ?_
  refine s_iload hZ.1 dX13_first_177 ?_
  refine s_iload hZ.1 dX13_first_179 ?_
  exact s_if_eq dX13_first_181 (by decide) (wX13_first_191 hZ hg hd) (wX13_first_184 hZ hg hd)
noncomputable def vX13_first_158 (g : Nat → List Nat → rx_H → Option (Nat × rx_H)) : rx_K := o_const 24 ((vX13_first_159 g))
set_option maxRecDepth 20000 in
theorem wX13_first_158 {dn : Nat} {g : Nat → List Nat → rx_H → Option (Nat × rx_H)} (hZ : zO b e D A X) (hg : ∀ i y M, vl8[i]? = some (y, M) → rx_Met (zV b e D A X) dn y M (g i)) (hd : 7 ≤ dn) : rx_OK (zV b e D A X) mX13_first (dn + 1) 158 (vX13_first_158 g) := by
  unfold vX13_first_158
  refine s_iconst dX13_first_158 (by decide +kernel) ?_
  exact (wX13_first_159 hZ hg hd)
noncomputable def vX13_first_154 (g : Nat → List Nat → rx_H → Option (Nat × rx_H)) : rx_K := o_const 32 ((vX13_first_159 g))
set_option maxRecDepth 20000 in
theorem wX13_first_154 {dn : Nat} {g : Nat → List Nat → rx_H → Option (Nat × rx_H)} (hZ : zO b e D A X) (hg : ∀ i y M, vl8[i]? = some (y, M) → rx_Met (zV b e D A X) dn y M (g i)) (hd : 7 ≤ dn) : rx_OK (zV b e D A X) mX13_first (dn + 1) 154 (vX13_first_154 g) := by
  unfold vX13_first_154
  refine s_iconst dX13_first_154 (by decide +kernel) ?_
  exact s_goto dX13_first_155 (by decide) (wX13_first_159 hZ hg hd)
noncomputable def vX13_first_146 (g : Nat → List Nat → rx_H → Option (Nat × rx_H)) : rx_K := o_st rx_isI 5 (o_ld rx_isR 0 (o_ld rx_isI 5 (o_c1 rx_eq (vX13_first_158 g) (vX13_first_154 g))))
set_option maxRecDepth 20000 in
theorem wX13_first_146 {dn : Nat} {g : Nat → List Nat → rx_H → Option (Nat × rx_H)} (hZ : zO b e D A X) (hg : ∀ i y M, vl8[i]? = some (y, M) → rx_Met (zV b e D A X) dn y M (g i)) (hd : 7 ≤ dn) : rx_OK (zV b e D A X) mX13_first (dn + 1) 146 (vX13_first_146 g) := by
  unfold vX13_first_146
  refine s_istore hZ.1 dX13_first_146 (Nat.le_of_ble_eq_true rfl) ?_
  refine s_aload_n hZ.1 dX13_first_148 rfl ?_
  refine s_iload hZ.1 dX13_first_149 ?_
  exact s_if_eq dX13_first_151 (by decide) (wX13_first_158 hZ hg hd) (wX13_first_154 hZ hg hd)
noncomputable def vX13_first_145 (g : Nat → List Nat → rx_H → Option (Nat × rx_H)) : rx_K := o_const 0 ((vX13_first_146 g))
set_option maxRecDepth 20000 in
theorem wX13_first_145 {dn : Nat} {g : Nat → List Nat → rx_H → Option (Nat × rx_H)} (hZ : zO b e D A X) (hg : ∀ i y M, vl8[i]? = some (y, M) → rx_Met (zV b e D A X) dn y M (g i)) (hd : 7 ≤ dn) : rx_OK (zV b e D A X) mX13_first (dn + 1) 145 (vX13_first_145 g) := by
  unfold vX13_first_145
  refine s_iconst dX13_first_145 (by decide +kernel) ?_
  exact (wX13_first_146 hZ hg hd)
noncomputable def vX13_first_141 (g : Nat → List Nat → rx_H → Option (Nat × rx_H)) : rx_K := o_const 8 ((vX13_first_146 g))
set_option maxRecDepth 20000 in
theorem wX13_first_141 {dn : Nat} {g : Nat → List Nat → rx_H → Option (Nat × rx_H)} (hZ : zO b e D A X) (hg : ∀ i y M, vl8[i]? = some (y, M) → rx_Met (zV b e D A X) dn y M (g i)) (hd : 7 ≤ dn) : rx_OK (zV b e D A X) mX13_first (dn + 1) 141 (vX13_first_141 g) := by
  unfold vX13_first_141
  refine s_iconst dX13_first_141 (by decide +kernel) ?_
  exact s_goto dX13_first_142 (by decide) (wX13_first_146 hZ hg hd)
noncomputable def vX13_first_132 (g : Nat → List Nat → rx_H → Option (Nat × rx_H)) : rx_K := o_ld rx_isR 0 (o_const 320 (o_callV 1 13 FX13_isSign (o_c1 rx_eq (vX13_first_145 g) (vX13_first_141 g))))
set_option maxRecDepth 20000 in
theorem wX13_first_132 {dn : Nat} {g : Nat → List Nat → rx_H → Option (Nat × rx_H)} (hZ : zO b e D A X) (hg : ∀ i y M, vl8[i]? = some (y, M) → rx_Met (zV b e D A X) dn y M (g i)) (hd : 7 ≤ dn) : rx_OK (zV b e D A X) mX13_first (dn + 1) 132 (vX13_first_132 g) := by
  unfold vX13_first_132
  refine s_aload_n hZ.1 dX13_first_132 rfl ?_
  refine s_bipush dX13_first_133 (by decide +kernel) ?_
  refine s_callV hZ.1 (Met_X13_isSign hZ) (Nat.succ_le_succ (Nat.le_trans (Nat.le_of_ble_eq_true rfl) hd)) vy_X13_isSign zcl13 zw3030 zw195 (Or.inl zw3028) dX13_first_135 ?_
  exact s_if_eq dX13_first_138 (by decide) (wX13_first_145 hZ hg hd) (wX13_first_141 hZ hg hd)
noncomputable def vX13_first_112 (g : Nat → List Nat → rx_H → Option (Nat × rx_H)) : rx_K := o_ld rx_isR 0 (o_ld rx_isR 0 (o_getf 13 22 (o_callV 1 13 FX13_nameAt (o_stL 3 (o_ld rx_isR 0 (o_callV 0 13 FX13_step (o_ld rx_isR 0 (o_getf 13 20 (o_c1 rx_eq (vX13_first_132 g) (vX13_first_145 g))))))))))
set_option maxRecDepth 20000 in
theorem wX13_first_112 {dn : Nat} {g : Nat → List Nat → rx_H → Option (Nat × rx_H)} (hZ : zO b e D A X) (hg : ∀ i y M, vl8[i]? = some (y, M) → rx_Met (zV b e D A X) dn y M (g i)) (hd : 7 ≤ dn) : rx_OK (zV b e D A X) mX13_first (dn + 1) 112 (vX13_first_112 g) := by
  unfold vX13_first_112
  refine s_aload_n hZ.1 dX13_first_112 rfl ?_
  refine s_aload_n hZ.1 dX13_first_113 rfl ?_
  refine yg13_22 dX13_first_114 zw4143 ?_
  refine s_callV hZ.1 (Met_X13_nameAt hZ) (Nat.succ_le_succ (Nat.le_trans (Nat.le_of_ble_eq_true rfl) hd)) vy_X13_nameAt zcl13 zw2987 zw187 (Or.inl zw2985) dX13_first_117 ?_
  refine s_lstore_n hZ.1 dX13_first_120 rfl (Nat.le_of_ble_eq_true rfl) ?_
  refine s_aload_n hZ.1 dX13_first_121 rfl ?_
  refine s_callV hZ.1 (Met_X13_step hZ) (Nat.succ_le_succ (Nat.le_trans (Nat.le_of_ble_eq_true rfl) hd)) vy_X13_step zcl13 zw2996 zw188 (Or.inl zw2994) dX13_first_122 ?_
  refine s_aload_n hZ.1 dX13_first_125 rfl ?_
  refine yg13_20 dX13_first_126 zw4141 ?_
  exact s_if_ne dX13_first_129 (by decide) (wX13_first_145 hZ hg hd) (wX13_first_132 hZ hg hd)
noncomputable def vX13_first_107 (g : Nat → List Nat → rx_H → Option (Nat × rx_H)) : rx_K := o_ld rx_isI 2 (o_const 16 (o_c2 rx_eq (vX13_first_112 g) (vX13_first_197 g)))
set_option maxRecDepth 20000 in
theorem wX13_first_107 {dn : Nat} {g : Nat → List Nat → rx_H → Option (Nat × rx_H)} (hZ : zO b e D A X) (hg : ∀ i y M, vl8[i]? = some (y, M) → rx_Met (zV b e D A X) dn y M (g i)) (hd : 7 ≤ dn) : rx_OK (zV b e D A X) mX13_first (dn + 1) 107 (vX13_first_107 g) := by
  unfold vX13_first_107
  refine s_iload_n hZ.1 dX13_first_107 rfl ?_
  refine s_iconst dX13_first_108 (by decide +kernel) ?_
  exact s_icmp_ne dX13_first_109 (by decide) (wX13_first_197 hZ hg hd) (wX13_first_112 hZ hg hd)
noncomputable def vX13_first_96 (g : Nat → List Nat → rx_H → Option (Nat × rx_H)) : rx_K := o_ld rx_isI 1 (o_callV 2 13 FX13_node (o_st rx_isI 3 (o_ld rx_isR 0 (o_callV 0 13 FX13_step (o_ld rx_isI 3 (o_ret1 rx_isI))))))
set_option maxRecDepth 20000 in
theorem wX13_first_96 {dn : Nat} {g : Nat → List Nat → rx_H → Option (Nat × rx_H)} (hZ : zO b e D A X) (hg : ∀ i y M, vl8[i]? = some (y, M) → rx_Met (zV b e D A X) dn y M (g i)) (hd : 7 ≤ dn) : rx_OK (zV b e D A X) mX13_first (dn + 1) 96 (vX13_first_96 g) := by
  unfold vX13_first_96
  refine s_iload_n hZ.1 dX13_first_96 rfl ?_
  refine s_callV hZ.1 (Met_X13_node hZ) (Nat.succ_le_succ (Nat.le_trans (Nat.le_of_ble_eq_true rfl) hd)) vy_X13_node zcl13 zw3103 zw208 (Or.inl zw3101) dX13_first_97 ?_
  refine s_istore_n hZ.1 dX13_first_100 rfl (Nat.le_of_ble_eq_true rfl) ?_
  refine s_aload_n hZ.1 dX13_first_101 rfl ?_
  refine s_callV hZ.1 (Met_X13_step hZ) (Nat.succ_le_succ (Nat.le_trans (Nat.le_of_ble_eq_true rfl) hd)) vy_X13_step zcl13 zw2996 zw188 (Or.inl zw2994) dX13_first_102 ?_
  refine s_iload_n hZ.1 dX13_first_105 rfl ?_
  exact s_iret hZ.1 rfl dX13_first_106
noncomputable def vX13_first_95 (g : Nat → List Nat → rx_H → Option (Nat × rx_H)) : rx_K := o_const 16 ((vX13_first_96 g))
set_option maxRecDepth 20000 in
theorem wX13_first_95 {dn : Nat} {g : Nat → List Nat → rx_H → Option (Nat × rx_H)} (hZ : zO b e D A X) (hg : ∀ i y M, vl8[i]? = some (y, M) → rx_Met (zV b e D A X) dn y M (g i)) (hd : 7 ≤ dn) : rx_OK (zV b e D A X) mX13_first (dn + 1) 95 (vX13_first_95 g) := by
  unfold vX13_first_95
  refine s_iconst dX13_first_95 (by decide +kernel) ?_
  exact (wX13_first_96 hZ hg hd)
noncomputable def vX13_first_91 (g : Nat → List Nat → rx_H → Option (Nat × rx_H)) : rx_K := o_const 8 ((vX13_first_96 g))
set_option maxRecDepth 20000 in
theorem wX13_first_91 {dn : Nat} {g : Nat → List Nat → rx_H → Option (Nat × rx_H)} (hZ : zO b e D A X) (hg : ∀ i y M, vl8[i]? = some (y, M) → rx_Met (zV b e D A X) dn y M (g i)) (hd : 7 ≤ dn) : rx_OK (zV b e D A X) mX13_first (dn + 1) 91 (vX13_first_91 g) := by
  unfold vX13_first_91
  refine s_iconst dX13_first_91 (by decide +kernel) ?_
  exact s_goto dX13_first_92 (by decide) (wX13_first_96 hZ hg hd)
noncomputable def vX13_first_80 (g : Nat → List Nat → rx_H → Option (Nat × rx_H)) : rx_K := o_ld rx_isR 0 (o_ld rx_isR 0 (o_const 772 (o_callV 1 13 FX13_isWordAt (o_c1 rx_eq (vX13_first_95 g) (vX13_first_91 g)))))
set_option maxRecDepth 20000 in
theorem wX13_first_80 {dn : Nat} {g : Nat → List Nat → rx_H → Option (Nat × rx_H)} (hZ : zO b e D A X) (hg : ∀ i y M, vl8[i]? = some (y, M) → rx_Met (zV b e D A X) dn y M (g i)) (hd : 7 ≤ dn) : rx_OK (zV b e D A X) mX13_first (dn + 1) 80 (vX13_first_80 g) := by
  unfold vX13_first_80
  refine s_aload_n hZ.1 dX13_first_80 rfl ?_
  refine s_aload_n hZ.1 dX13_first_81 rfl ?_
  refine s_ldcwS (k := 96) (zo_R96 hZ) dX13_first_82 ?_
  refine s_callV hZ.1 (Met_X13_isWordAt hZ) (Nat.succ_le_succ (Nat.le_trans (Nat.le_of_ble_eq_true rfl) hd)) vy_X13_isWordAt zcl13 zw2983 zw186 (Or.inl zw2981) dX13_first_85 ?_
  exact s_if_eq dX13_first_88 (by decide) (wX13_first_95 hZ hg hd) (wX13_first_91 hZ hg hd)
noncomputable def vX13_first_70 (g : Nat → List Nat → rx_H → Option (Nat × rx_H)) : rx_K := o_ld rx_isR 0 (o_const 788 (o_callV 1 13 FX13_isWordAt (o_c1 rx_eq (vX13_first_107 g) (vX13_first_80 g))))
set_option maxRecDepth 20000 in
theorem wX13_first_70 {dn : Nat} {g : Nat → List Nat → rx_H → Option (Nat × rx_H)} (hZ : zO b e D A X) (hg : ∀ i y M, vl8[i]? = some (y, M) → rx_Met (zV b e D A X) dn y M (g i)) (hd : 7 ≤ dn) : rx_OK (zV b e D A X) mX13_first (dn + 1) 70 (vX13_first_70 g) := by
  unfold vX13_first_70
  refine s_aload_n hZ.1 dX13_first_70 rfl ?_
  refine s_ldcwS (k := 98) (zo_R98 hZ) dX13_first_71 ?_
  refine s_callV hZ.1 (Met_X13_isWordAt hZ) (Nat.succ_le_succ (Nat.le_trans (Nat.le_of_ble_eq_true rfl) hd)) vy_X13_isWordAt zcl13 zw2983 zw186 (Or.inl zw2981) dX13_first_74 ?_
  exact s_if_eq dX13_first_77 (by decide) (wX13_first_107 hZ hg hd) (wX13_first_80 hZ hg hd)
noncomputable def vX13_first_60 (g : Nat → List Nat → rx_H → Option (Nat × rx_H)) : rx_K := o_ld rx_isR 0 (o_const 772 (o_callV 1 13 FX13_isWordAt (o_c1 rx_eq (vX13_first_70 g) (vX13_first_80 g))))
set_option maxRecDepth 20000 in
theorem wX13_first_60 {dn : Nat} {g : Nat → List Nat → rx_H → Option (Nat × rx_H)} (hZ : zO b e D A X) (hg : ∀ i y M, vl8[i]? = some (y, M) → rx_Met (zV b e D A X) dn y M (g i)) (hd : 7 ≤ dn) : rx_OK (zV b e D A X) mX13_first (dn + 1) 60 (vX13_first_60 g) := by
  unfold vX13_first_60
  refine s_aload_n hZ.1 dX13_first_60 rfl ?_
  refine s_ldcwS (k := 96) (zo_R96 hZ) dX13_first_61 ?_
  refine s_callV hZ.1 (Met_X13_isWordAt hZ) (Nat.succ_le_succ (Nat.le_trans (Nat.le_of_ble_eq_true rfl) hd)) vy_X13_isWordAt zcl13 zw2983 zw186 (Or.inl zw2981) dX13_first_64 ?_
  exact s_if_ne dX13_first_67 (by decide) (wX13_first_80 hZ hg hd) (wX13_first_70 hZ hg hd)
noncomputable def vX13_first_23 (g : Nat → List Nat → rx_H → Option (Nat × rx_H)) : rx_K := o_ld rx_isR 0 (o_const 0 (o_ld rx_isI 1 (o_callV 2 13 FX13_node (o_st rx_isI 3 (o_ld rx_isR 0 (o_getf 13 81 (o_ld rx_isI 3 (o_ld rx_isR 0 (o_getf 13 15 (o_ld rx_isR 0 (o_getf 13 19 (o_const 5616 (o_bi (fun x y => x * y) (o_ld rx_isR 0 (o_getf 13 22 (o_bi (fun x y => x + y) (o_ald 0 (o_ast 0 (fun v => v) rx_isI (o_ld rx_isR 0 (o_callV 0 13 FX13_step (o_ld rx_isI 3 (o_ret1 rx_isI))))))))))))))))))))))
set_option maxRecDepth 20000 in
theorem wX13_first_23 {dn : Nat} {g : Nat → List Nat → rx_H → Option (Nat × rx_H)} (hZ : zO b e D A X) (hg : ∀ i y M, vl8[i]? = some (y, M) → rx_Met (zV b e D A X) dn y M (g i)) (hd : 7 ≤ dn) : rx_OK (zV b e D A X) mX13_first (dn + 1) 23 (vX13_first_23 g) := by
  unfold vX13_first_23
  refine s_aload_n hZ.1 dX13_first_23 rfl ?_
  refine s_iconst dX13_first_24 (by decide +kernel) ?_
  refine s_iload_n hZ.1 dX13_first_25 rfl ?_
  refine s_callV hZ.1 (Met_X13_node hZ) (Nat.succ_le_succ (Nat.le_trans (Nat.le_of_ble_eq_true rfl) hd)) vy_X13_node zcl13 zw3103 zw208 (Or.inl zw3101) dX13_first_26 ?_
  refine s_istore_n hZ.1 dX13_first_29 rfl (Nat.le_of_ble_eq_true rfl) ?_
  refine s_aload_n hZ.1 dX13_first_30 rfl ?_
  refine yg13_81 dX13_first_31 zw4202 ?_
  refine s_iload_n hZ.1 dX13_first_34 rfl ?_
  refine s_aload_n hZ.1 dX13_first_35 rfl ?_
  refine yg13_15 dX13_first_36 zw4136 ?_
  refine s_aload_n hZ.1 dX13_first_39 rfl ?_
  refine yg13_19 dX13_first_40 zw4140 ?_
  refine s_sipush dX13_first_43 (by decide +kernel) ?_
  refine s_imul dX13_first_46 ?_
  refine s_aload_n hZ.1 dX13_first_47 rfl ?_
  refine yg13_22 dX13_first_48 zw4143 ?_
  refine s_iadd dX13_first_51 ?_
  refine s_iald (tt := 0) rfl dX13_first_52 ?_
  refine s_iast hZ.1 (tt := 0) rfl dX13_first_53 ?_
  refine s_aload_n hZ.1 dX13_first_54 rfl ?_
  refine s_callV hZ.1 (Met_X13_step hZ) (Nat.succ_le_succ (Nat.le_trans (Nat.le_of_ble_eq_true rfl) hd)) vy_X13_step zcl13 zw2996 zw188 (Or.inl zw2994) dX13_first_55 ?_
  refine s_iload_n hZ.1 dX13_first_58 rfl ?_
  exact s_iret hZ.1 rfl dX13_first_59
noncomputable def vX13_first_0 (g : Nat → List Nat → rx_H → Option (Nat × rx_H)) : rx_K := o_ld rx_isR 0 (o_ld rx_isR 0 (o_getf 13 22 (o_callV 1 13 FX13_placeAt (o_st rx_isI 1 (o_ld rx_isR 0 (o_ld rx_isR 0 (o_getf 13 22 (o_callV 1 13 FX13_kindAt (o_st rx_isI 2 (o_ld rx_isI 2 (o_const 32 (o_c2 rx_eq (vX13_first_23 g) (vX13_first_60 g)))))))))))))
set_option maxRecDepth 20000 in
theorem wX13_first_0 {dn : Nat} {g : Nat → List Nat → rx_H → Option (Nat × rx_H)} (hZ : zO b e D A X) (hg : ∀ i y M, vl8[i]? = some (y, M) → rx_Met (zV b e D A X) dn y M (g i)) (hd : 7 ≤ dn) : rx_OK (zV b e D A X) mX13_first (dn + 1) 0 (vX13_first_0 g) := by
  unfold vX13_first_0
  refine s_aload_n hZ.1 dX13_first_0 rfl ?_
  refine s_aload_n hZ.1 dX13_first_1 rfl ?_
  refine yg13_22 dX13_first_2 zw4143 ?_
  refine s_callV hZ.1 (Met_X13_placeAt hZ) (Nat.succ_le_succ (Nat.le_trans (Nat.le_of_ble_eq_true rfl) hd)) vy_X13_placeAt zcl13 zw3000 zw189 (Or.inl zw2998) dX13_first_5 ?_
  refine s_istore_n hZ.1 dX13_first_8 rfl (Nat.le_of_ble_eq_true rfl) ?_
  refine s_aload_n hZ.1 dX13_first_9 rfl ?_
  refine s_aload_n hZ.1 dX13_first_10 rfl ?_
  refine yg13_22 dX13_first_11 zw4143 ?_
  refine s_callV hZ.1 (Met_X13_kindAt hZ) (Nat.succ_le_succ (Nat.le_trans (Nat.le_of_ble_eq_true rfl) hd)) vy_X13_kindAt zcl13 zw2970 zw183 (Or.inl zw2968) dX13_first_14 ?_
  refine s_istore_n hZ.1 dX13_first_17 rfl (Nat.le_of_ble_eq_true rfl) ?_
  refine s_iload_n hZ.1 dX13_first_18 rfl ?_
  refine s_iconst dX13_first_19 (by decide +kernel) ?_
  exact s_icmp_ne dX13_first_20 (by decide) (wX13_first_60 hZ hg hd) (wX13_first_23 hZ hg hd)
noncomputable def FX13_first (g : Nat → List Nat → rx_H → Option (Nat × rx_H)) : List Nat → rx_H → Option (Nat × rx_H) := rx_ent 7 (vX13_first_0 g)
theorem Met_X13_first {dn : Nat} {g : Nat → List Nat → rx_H → Option (Nat × rx_H)} (hZ : zO b e D A X) (hg : ∀ i y M, vl8[i]? = some (y, M) → rx_Met (zV b e D A X) dn y M (g i)) (hd : 7 ≤ dn) : rx_Met (zV b e D A X) (dn + 1) yX13_first mX13_first (FX13_first g) := rx_entry hZ.1 (wX13_first_0 hZ hg hd) (by decide +kernel) rfl (fun h => by cases h)
noncomputable def vX13_inBrackets_219 (g : Nat → List Nat → rx_H → Option (Nat × rx_H)) : rx_K := o_ld rx_isR 0 (o_const 88 (o_ld rx_isI 1 (o_callV 2 13 FX13_node (o_st rx_isI 3 (o_ld rx_isR 0 (o_getf 13 77 (o_ld rx_isI 3 (o_ld rx_isR 0 (o_callV 0 13 (g 1) (o_ast 0 (fun v => v) rx_isI (o_ld rx_isR 0 (o_const 328 (o_callV 1 13 FX13_wantSign (o_ld rx_isI 3 (o_ret1 rx_isI)))))))))))))))
set_option maxRecDepth 20000 in
theorem wX13_inBrackets_219 {dn : Nat} {g : Nat → List Nat → rx_H → Option (Nat × rx_H)} (hZ : zO b e D A X) (hg : ∀ i y M, vl8[i]? = some (y, M) → rx_Met (zV b e D A X) dn y M (g i)) (hd : 7 ≤ dn) : rx_OK (zV b e D A X) mX13_inBrackets (dn + 1) 219 (vX13_inBrackets_219 g) := by
  unfold vX13_inBrackets_219
  refine s_aload_n hZ.1 dX13_inBrackets_219 rfl ?_
  refine s_bipush dX13_inBrackets_220 (by decide +kernel) ?_
  refine s_iload_n hZ.1 dX13_inBrackets_222 rfl ?_
  refine s_callV hZ.1 (Met_X13_node hZ) (Nat.succ_le_succ (Nat.le_trans (Nat.le_of_ble_eq_true rfl) hd)) vy_X13_node zcl13 zw3103 zw208 (Or.inl zw3101) dX13_inBrackets_223 ?_
  refine s_istore_n hZ.1 dX13_inBrackets_226 rfl (Nat.le_of_ble_eq_true rfl) ?_
  refine s_aload_n hZ.1 dX13_inBrackets_227 rfl ?_
  refine yg13_77 dX13_inBrackets_228 zw4198 ?_
  refine s_iload_n hZ.1 dX13_inBrackets_231 rfl ?_
  refine s_aload_n hZ.1 dX13_inBrackets_232 rfl ?_
  refine s_callV hZ.1 (hg 1 _ _ rfl) (Nat.le_refl _) vy_X13_expression zcl13 zw3107 zw209 (Or.inl zw3105) dX13_inBrackets_233 ?_
  refine s_iast hZ.1 (tt := 0) rfl dX13_inBrackets_236 ?_
  refine s_aload_n hZ.1 dX13_inBrackets_237 rfl ?_
  refine s_bipush dX13_inBrackets_238 (by decide +kernel) ?_
  refine s_callV hZ.1 (Met_X13_wantSign hZ) (Nat.succ_le_succ (Nat.le_trans (Nat.le_of_ble_eq_true rfl) hd)) vy_X13_wantSign zcl13 zw3037 zw196 (Or.inl zw3035) dX13_inBrackets_240 ?_
  refine s_iload_n hZ.1 dX13_inBrackets_243 rfl ?_
  exact s_iret hZ.1 rfl dX13_inBrackets_244
noncomputable def vX13_inBrackets_206 (g : Nat → List Nat → rx_H → Option (Nat × rx_H)) : rx_K := o_ast 0 (fun v => v) rx_isI (o_ld rx_isR 0 (o_dup (o_getf 13 89 (o_const 8 (o_bi (fun x y => x - y) (o_putf rx_isI 13 89 (o_ld rx_isI 3 (o_ret1 rx_isI))))))))
set_option maxRecDepth 20000 in
theorem wX13_inBrackets_206 {dn : Nat} {g : Nat → List Nat → rx_H → Option (Nat × rx_H)} (hZ : zO b e D A X) (hg : ∀ i y M, vl8[i]? = some (y, M) → rx_Met (zV b e D A X) dn y M (g i)) (hd : 7 ≤ dn) : rx_OK (zV b e D A X) mX13_inBrackets (dn + 1) 206 (vX13_inBrackets_206 g) := by
  unfold vX13_inBrackets_206
  refine s_iast hZ.1 (tt := 0) rfl dX13_inBrackets_206 ?_
  refine s_aload_n hZ.1 dX13_inBrackets_207 rfl ?_
  refine s_dup hZ.1 dX13_inBrackets_208 ?_
  refine yg13_89 dX13_inBrackets_209 zw4210 ?_
  refine s_iconst dX13_inBrackets_212 (by decide +kernel) ?_
  refine s_isub dX13_inBrackets_213 ?_
  refine yp13_89 hZ.1 dX13_inBrackets_214 zw4210 ?_
  refine s_iload_n hZ.1 dX13_inBrackets_217 rfl ?_
  exact s_iret hZ.1 rfl dX13_inBrackets_218
noncomputable def vX13_inBrackets_204 (g : Nat → List Nat → rx_H → Option (Nat × rx_H)) : rx_K := o_const 34359738352 ((vX13_inBrackets_206 g))
set_option maxRecDepth 20000 in
theorem wX13_inBrackets_204 {dn : Nat} {g : Nat → List Nat → rx_H → Option (Nat × rx_H)} (hZ : zO b e D A X) (hg : ∀ i y M, vl8[i]? = some (y, M) → rx_Met (zV b e D A X) dn y M (g i)) (hd : 7 ≤ dn) : rx_OK (zV b e D A X) mX13_inBrackets (dn + 1) 204 (vX13_inBrackets_204 g) := by
  unfold vX13_inBrackets_204
  refine s_bipush dX13_inBrackets_204 (by decide +kernel) ?_
  exact (wX13_inBrackets_206 hZ hg hd)
noncomputable def vX13_inBrackets_197 (g : Nat → List Nat → rx_H → Option (Nat × rx_H)) : rx_K := o_ld rx_isR 0 (o_callV 0 13 (g 7) ((vX13_inBrackets_206 g)))
set_option maxRecDepth 20000 in
theorem wX13_inBrackets_197 {dn : Nat} {g : Nat → List Nat → rx_H → Option (Nat × rx_H)} (hZ : zO b e D A X) (hg : ∀ i y M, vl8[i]? = some (y, M) → rx_Met (zV b e D A X) dn y M (g i)) (hd : 7 ≤ dn) : rx_OK (zV b e D A X) mX13_inBrackets (dn + 1) 197 (vX13_inBrackets_197 g) := by
  unfold vX13_inBrackets_197
  refine s_aload_n hZ.1 dX13_inBrackets_197 rfl ?_
  refine s_callV hZ.1 (hg 7 _ _ rfl) (Nat.le_refl _) vy_X13_unit zcl13 zw3119 zw212 (Or.inl zw3117) dX13_inBrackets_198 ?_
  exact s_goto dX13_inBrackets_201 (by decide) (wX13_inBrackets_206 hZ hg hd)
noncomputable def vX13_inBrackets_175 (g : Nat → List Nat → rx_H → Option (Nat × rx_H)) : rx_K := o_ld rx_isR 0 (o_dup (o_getf 13 89 (o_const 8 (o_bi (fun x y => x + y) (o_putf rx_isI 13 89 (o_ld rx_isR 0 (o_getf 13 77 (o_ld rx_isI 3 (o_ld rx_isR 0 (o_getf 13 20 (o_c1 rx_eq (vX13_inBrackets_197 g) (vX13_inBrackets_204 g))))))))))))
set_option maxRecDepth 20000 in
theorem wX13_inBrackets_175 {dn : Nat} {g : Nat → List Nat → rx_H → Option (Nat × rx_H)} (hZ : zO b e D A X) (hg : ∀ i y M, vl8[i]? = some (y, M) → rx_Met (zV b e D A X) dn y M (g i)) (hd : 7 ≤ dn) : rx_OK (zV b e D A X) mX13_inBrackets (dn + 1) 175 (vX13_inBrackets_175 g) := by
  unfold vX13_inBrackets_175
  refine s_aload_n hZ.1 dX13_inBrackets_175 rfl ?_
  refine s_dup hZ.1 dX13_inBrackets_176 ?_
  refine yg13_89 dX13_inBrackets_177 zw4210 ?_
  refine s_iconst dX13_inBrackets_180 (by decide +kernel) ?_
  refine s_iadd dX13_inBrackets_181 ?_
  refine yp13_89 hZ.1 dX13_inBrackets_182 zw4210 ?_
  refine s_aload_n hZ.1 dX13_inBrackets_185 rfl ?_
  refine yg13_77 dX13_inBrackets_186 zw4198 ?_
  refine s_iload_n hZ.1 dX13_inBrackets_189 rfl ?_
  refine s_aload_n hZ.1 dX13_inBrackets_190 rfl ?_
  refine yg13_20 dX13_inBrackets_191 zw4141 ?_
  exact s_if_ne dX13_inBrackets_194 (by decide) (wX13_inBrackets_204 hZ hg hd) (wX13_inBrackets_197 hZ hg hd)
noncomputable def vX13_inBrackets_162 (g : Nat → List Nat → rx_H → Option (Nat × rx_H)) : rx_K := o_ld rx_isR 0 (o_const 24 (o_ld rx_isR 0 (o_ld rx_isR 0 (o_getf 13 22 (o_callV 1 13 FX13_placeAt (o_callV 2 13 FX13_fault ((vX13_inBrackets_175 g))))))))
set_option maxRecDepth 20000 in
theorem wX13_inBrackets_162 {dn : Nat} {g : Nat → List Nat → rx_H → Option (Nat × rx_H)} (hZ : zO b e D A X) (hg : ∀ i y M, vl8[i]? = some (y, M) → rx_Met (zV b e D A X) dn y M (g i)) (hd : 7 ≤ dn) : rx_OK (zV b e D A X) mX13_inBrackets (dn + 1) 162 (vX13_inBrackets_162 g) := by
  unfold vX13_inBrackets_162
  refine s_aload_n hZ.1 dX13_inBrackets_162 rfl ?_
  refine s_iconst dX13_inBrackets_163 (by decide +kernel) ?_
  refine s_aload_n hZ.1 dX13_inBrackets_164 rfl ?_
  refine s_aload_n hZ.1 dX13_inBrackets_165 rfl ?_
  refine yg13_22 dX13_inBrackets_166 zw4143 ?_
  refine s_callV hZ.1 (Met_X13_placeAt hZ) (Nat.succ_le_succ (Nat.le_trans (Nat.le_of_ble_eq_true rfl) hd)) vy_X13_placeAt zcl13 zw3000 zw189 (Or.inl zw2998) dX13_inBrackets_169 ?_
  refine s_callV hZ.1 (Met_X13_fault hZ) (Nat.succ_le_succ (Nat.le_trans (Nat.le_of_ble_eq_true rfl) hd)) vy_X13_fault zcl13 zw3004 zw190 (Or.inl zw3002) dX13_inBrackets_172 ?_
  exact (wX13_inBrackets_175 hZ hg hd)
noncomputable def vX13_inBrackets_153 (g : Nat → List Nat → rx_H → Option (Nat × rx_H)) : rx_K := o_ld rx_isR 0 (o_getf 13 89 (o_const 96 (o_c2 rx_eq (vX13_inBrackets_162 g) (vX13_inBrackets_175 g))))
set_option maxRecDepth 20000 in
theorem wX13_inBrackets_153 {dn : Nat} {g : Nat → List Nat → rx_H → Option (Nat × rx_H)} (hZ : zO b e D A X) (hg : ∀ i y M, vl8[i]? = some (y, M) → rx_Met (zV b e D A X) dn y M (g i)) (hd : 7 ≤ dn) : rx_OK (zV b e D A X) mX13_inBrackets (dn + 1) 153 (vX13_inBrackets_153 g) := by
  unfold vX13_inBrackets_153
  refine s_aload_n hZ.1 dX13_inBrackets_153 rfl ?_
  refine yg13_89 dX13_inBrackets_154 zw4210 ?_
  refine s_bipush dX13_inBrackets_157 (by decide +kernel) ?_
  exact s_icmp_ne dX13_inBrackets_159 (by decide) (wX13_inBrackets_175 hZ hg hd) (wX13_inBrackets_162 hZ hg hd)
noncomputable def vX13_inBrackets_146 (g : Nat → List Nat → rx_H → Option (Nat × rx_H)) : rx_K := o_ld rx_isR 0 (o_getf 13 20 (o_c1 rx_eq (vX13_inBrackets_153 g) (vX13_inBrackets_175 g)))
set_option maxRecDepth 20000 in
theorem wX13_inBrackets_146 {dn : Nat} {g : Nat → List Nat → rx_H → Option (Nat × rx_H)} (hZ : zO b e D A X) (hg : ∀ i y M, vl8[i]? = some (y, M) → rx_Met (zV b e D A X) dn y M (g i)) (hd : 7 ≤ dn) : rx_OK (zV b e D A X) mX13_inBrackets (dn + 1) 146 (vX13_inBrackets_146 g) := by
  unfold vX13_inBrackets_146
  refine s_aload_n hZ.1 dX13_inBrackets_146 rfl ?_
  refine yg13_20 dX13_inBrackets_147 zw4141 ?_
  exact s_if_ne dX13_inBrackets_150 (by decide) (wX13_inBrackets_175 hZ hg hd) (wX13_inBrackets_153 hZ hg hd)
noncomputable def vX13_inBrackets_139 (g : Nat → List Nat → rx_H → Option (Nat × rx_H)) : rx_K := o_ld rx_isR 0 (o_callV 0 13 FX13_wrong ((vX13_inBrackets_175 g)))
set_option maxRecDepth 20000 in
theorem wX13_inBrackets_139 {dn : Nat} {g : Nat → List Nat → rx_H → Option (Nat × rx_H)} (hZ : zO b e D A X) (hg : ∀ i y M, vl8[i]? = some (y, M) → rx_Met (zV b e D A X) dn y M (g i)) (hd : 7 ≤ dn) : rx_OK (zV b e D A X) mX13_inBrackets (dn + 1) 139 (vX13_inBrackets_139 g) := by
  unfold vX13_inBrackets_139
  refine s_aload_n hZ.1 dX13_inBrackets_139 rfl ?_
  refine s_callV hZ.1 (Met_X13_wrong hZ) (Nat.succ_le_succ (Nat.le_trans (Nat.le_of_ble_eq_true rfl) hd)) vy_X13_wrong zcl13 zw3016 zw192 (Or.inl zw3014) dX13_inBrackets_140 ?_
  exact s_goto dX13_inBrackets_143 (by decide) (wX13_inBrackets_175 hZ hg hd)
noncomputable def vX13_inBrackets_132 (g : Nat → List Nat → rx_H → Option (Nat × rx_H)) : rx_K := o_ld rx_isR 0 (o_callV 0 13 FX13_beginsE (o_c1 rx_eq (vX13_inBrackets_139 g) (vX13_inBrackets_146 g)))
set_option maxRecDepth 20000 in
theorem wX13_inBrackets_132 {dn : Nat} {g : Nat → List Nat → rx_H → Option (Nat × rx_H)} (hZ : zO b e D A X) (hg : ∀ i y M, vl8[i]? = some (y, M) → rx_Met (zV b e D A X) dn y M (g i)) (hd : 7 ≤ dn) : rx_OK (zV b e D A X) mX13_inBrackets (dn + 1) 132 (vX13_inBrackets_132 g) := by
  unfold vX13_inBrackets_132
  refine s_aload_n hZ.1 dX13_inBrackets_132 rfl ?_
  refine s_callV hZ.1 (Met_X13_beginsE hZ) (Nat.succ_le_succ (Nat.le_trans (Nat.le_of_ble_eq_true rfl) hd)) vy_X13_beginsE zcl13 zw3081 zw205 (Or.inl zw3079) dX13_inBrackets_133 ?_
  exact s_if_ne dX13_inBrackets_136 (by decide) (wX13_inBrackets_146 hZ hg hd) (wX13_inBrackets_139 hZ hg hd)
noncomputable def vX13_inBrackets_122 (g : Nat → List Nat → rx_H → Option (Nat × rx_H)) : rx_K := o_callV 0 13 FX13_step (o_ld rx_isR 0 (o_getf 13 20 (o_c1 rx_eq (vX13_inBrackets_132 g) (vX13_inBrackets_146 g))))
set_option maxRecDepth 20000 in
theorem wX13_inBrackets_122 {dn : Nat} {g : Nat → List Nat → rx_H → Option (Nat × rx_H)} (hZ : zO b e D A X) (hg : ∀ i y M, vl8[i]? = some (y, M) → rx_Met (zV b e D A X) dn y M (g i)) (hd : 7 ≤ dn) : rx_OK (zV b e D A X) mX13_inBrackets (dn + 1) 122 (vX13_inBrackets_122 g) := by
  unfold vX13_inBrackets_122
  refine s_callV hZ.1 (Met_X13_step hZ) (Nat.succ_le_succ (Nat.le_trans (Nat.le_of_ble_eq_true rfl) hd)) vy_X13_step zcl13 zw2996 zw188 (Or.inl zw2994) dX13_inBrackets_122 ?_
  refine s_aload_n hZ.1 dX13_inBrackets_125 rfl ?_
  refine yg13_20 dX13_inBrackets_126 zw4141 ?_
  exact s_if_ne dX13_inBrackets_129 (by decide) (wX13_inBrackets_146 hZ hg hd) (wX13_inBrackets_132 hZ hg hd)
noncomputable def vX13_inBrackets_81 (g : Nat → List Nat → rx_H → Option (Nat × rx_H)) : rx_K := o_ld rx_isR 0 (o_const 80 (o_ld rx_isI 1 (o_callV 2 13 FX13_node (o_st rx_isI 3 (o_ld rx_isR 0 (o_getf 13 75 (o_ld rx_isI 3 (o_ld rx_isR 0 (o_ld rx_isR 0 (o_getf 13 22 (o_callV 1 13 FX13_nameAt (o_ast 1 (fun v => v) rx_isL (o_ld rx_isR 0 (o_getf 13 73 (o_ld rx_isI 3 (o_ld rx_isR 0 (o_ld rx_isR 0 (o_getf 13 22 (o_callV 1 13 FX13_placeAt (o_ast 0 (fun v => v) rx_isI (o_ld rx_isR 0 (o_callV 0 13 FX13_step (o_ld rx_isR 0 ((vX13_inBrackets_122 g)))))))))))))))))))))))))
set_option maxRecDepth 20000 in
theorem wX13_inBrackets_81 {dn : Nat} {g : Nat → List Nat → rx_H → Option (Nat × rx_H)} (hZ : zO b e D A X) (hg : ∀ i y M, vl8[i]? = some (y, M) → rx_Met (zV b e D A X) dn y M (g i)) (hd : 7 ≤ dn) : rx_OK (zV b e D A X) mX13_inBrackets (dn + 1) 81 (vX13_inBrackets_81 g) := by
  unfold vX13_inBrackets_81
  refine s_aload_n hZ.1 dX13_inBrackets_81 rfl ?_
  refine s_bipush dX13_inBrackets_82 (by decide +kernel) ?_
  refine s_iload_n hZ.1 dX13_inBrackets_84 rfl ?_
  refine s_callV hZ.1 (Met_X13_node hZ) (Nat.succ_le_succ (Nat.le_trans (Nat.le_of_ble_eq_true rfl) hd)) vy_X13_node zcl13 zw3103 zw208 (Or.inl zw3101) dX13_inBrackets_85 ?_
  refine s_istore_n hZ.1 dX13_inBrackets_88 rfl (Nat.le_of_ble_eq_true rfl) ?_
  refine s_aload_n hZ.1 dX13_inBrackets_89 rfl ?_
  refine yg13_75 dX13_inBrackets_90 zw4196 ?_
  refine s_iload_n hZ.1 dX13_inBrackets_93 rfl ?_
  refine s_aload_n hZ.1 dX13_inBrackets_94 rfl ?_
  refine s_aload_n hZ.1 dX13_inBrackets_95 rfl ?_
  refine yg13_22 dX13_inBrackets_96 zw4143 ?_
  refine s_callV hZ.1 (Met_X13_nameAt hZ) (Nat.succ_le_succ (Nat.le_trans (Nat.le_of_ble_eq_true rfl) hd)) vy_X13_nameAt zcl13 zw2987 zw187 (Or.inl zw2985) dX13_inBrackets_99 ?_
  refine s_last (tt := 1) rfl dX13_inBrackets_102 ?_
  refine s_aload_n hZ.1 dX13_inBrackets_103 rfl ?_
  refine yg13_73 dX13_inBrackets_104 zw4194 ?_
  refine s_iload_n hZ.1 dX13_inBrackets_107 rfl ?_
  refine s_aload_n hZ.1 dX13_inBrackets_108 rfl ?_
  refine s_aload_n hZ.1 dX13_inBrackets_109 rfl ?_
  refine yg13_22 dX13_inBrackets_110 zw4143 ?_
  refine s_callV hZ.1 (Met_X13_placeAt hZ) (Nat.succ_le_succ (Nat.le_trans (Nat.le_of_ble_eq_true rfl) hd)) vy_X13_placeAt zcl13 zw3000 zw189 (Or.inl zw2998) dX13_inBrackets_113 ?_
  refine s_iast hZ.1 (tt := 0) rfl dX13_inBrackets_116 ?_
  refine s_aload_n hZ.1 dX13_inBrackets_117 rfl ?_
  refine s_callV hZ.1 (Met_X13_step hZ) (Nat.succ_le_succ (Nat.le_trans (Nat.le_of_ble_eq_true rfl) hd)) vy_X13_step zcl13 zw2996 zw188 (Or.inl zw2994) dX13_inBrackets_118 ?_
  refine s_aload_n hZ.1 dX13_inBrackets_121 rfl ?_
  exact (wX13_inBrackets_122 hZ hg hd)
noncomputable def vX13_inBrackets_70 (g : Nat → List Nat → rx_H → Option (Nat × rx_H)) : rx_K := o_st rx_isI 2 (o_ld rx_isR 0 (o_const 320 (o_callV 1 13 FX13_wantSign (o_ld rx_isI 2 (o_c1 rx_eq (vX13_inBrackets_219 g) (vX13_inBrackets_81 g))))))
set_option maxRecDepth 20000 in
theorem wX13_inBrackets_70 {dn : Nat} {g : Nat → List Nat → rx_H → Option (Nat × rx_H)} (hZ : zO b e D A X) (hg : ∀ i y M, vl8[i]? = some (y, M) → rx_Met (zV b e D A X) dn y M (g i)) (hd : 7 ≤ dn) : rx_OK (zV b e D A X) mX13_inBrackets (dn + 1) 70 (vX13_inBrackets_70 g) := by
  unfold vX13_inBrackets_70
  refine s_istore_n hZ.1 dX13_inBrackets_70 rfl (Nat.le_of_ble_eq_true rfl) ?_
  refine s_aload_n hZ.1 dX13_inBrackets_71 rfl ?_
  refine s_bipush dX13_inBrackets_72 (by decide +kernel) ?_
  refine s_callV hZ.1 (Met_X13_wantSign hZ) (Nat.succ_le_succ (Nat.le_trans (Nat.le_of_ble_eq_true rfl) hd)) vy_X13_wantSign zcl13 zw3037 zw196 (Or.inl zw3035) dX13_inBrackets_74 ?_
  refine s_iload_n hZ.1 dX13_inBrackets_77 rfl ?_
  exact s_if_eq dX13_inBrackets_78 (by decide) (wX13_inBrackets_219 hZ hg hd) (wX13_inBrackets_81 hZ hg hd)
noncomputable def vX13_inBrackets_69 (g : Nat → List Nat → rx_H → Option (Nat × rx_H)) : rx_K := o_const 0 ((vX13_inBrackets_70 g))
set_option maxRecDepth 20000 in
theorem wX13_inBrackets_69 {dn : Nat} {g : Nat → List Nat → rx_H → Option (Nat × rx_H)} (hZ : zO b e D A X) (hg : ∀ i y M, vl8[i]? = some (y, M) → rx_Met (zV b e D A X) dn y M (g i)) (hd : 7 ≤ dn) : rx_OK (zV b e D A X) mX13_inBrackets (dn + 1) 69 (vX13_inBrackets_69 g) := by
  unfold vX13_inBrackets_69
  refine s_iconst dX13_inBrackets_69 (by decide +kernel) ?_
  exact (wX13_inBrackets_70 hZ hg hd)
noncomputable def vX13_inBrackets_65 (g : Nat → List Nat → rx_H → Option (Nat × rx_H)) : rx_K := o_const 8 ((vX13_inBrackets_70 g))
set_option maxRecDepth 20000 in
theorem wX13_inBrackets_65 {dn : Nat} {g : Nat → List Nat → rx_H → Option (Nat × rx_H)} (hZ : zO b e D A X) (hg : ∀ i y M, vl8[i]? = some (y, M) → rx_Met (zV b e D A X) dn y M (g i)) (hd : 7 ≤ dn) : rx_OK (zV b e D A X) mX13_inBrackets (dn + 1) 65 (vX13_inBrackets_65 g) := by
  unfold vX13_inBrackets_65
  refine s_iconst dX13_inBrackets_65 (by decide +kernel) ?_
  exact s_goto dX13_inBrackets_66 (by decide) (wX13_inBrackets_70 hZ hg hd)
noncomputable def vX13_inBrackets_40 (g : Nat → List Nat → rx_H → Option (Nat × rx_H)) : rx_K := o_ld rx_isR 0 (o_getf 13 15 (o_ld rx_isR 0 (o_getf 13 19 (o_const 5616 (o_bi (fun x y => x * y) (o_ld rx_isR 0 (o_getf 13 22 (o_bi (fun x y => x + y) (o_const 16 (o_bi (fun x y => x + y) (o_ald 0 (o_const 328 (o_c2 rx_eq (vX13_inBrackets_65 g) (vX13_inBrackets_69 g))))))))))))))
set_option maxRecDepth 20000 in
theorem wX13_inBrackets_40 {dn : Nat} {g : Nat → List Nat → rx_H → Option (Nat × rx_H)} (hZ : zO b e D A X) (hg : ∀ i y M, vl8[i]? = some (y, M) → rx_Met (zV b e D A X) dn y M (g i)) (hd : 7 ≤ dn) : rx_OK (zV b e D A X) mX13_inBrackets (dn + 1) 40 (vX13_inBrackets_40 g) := by
  unfold vX13_inBrackets_40
  refine s_aload_n hZ.1 dX13_inBrackets_40 rfl ?_
  refine yg13_15 dX13_inBrackets_41 zw4136 ?_
  refine s_aload_n hZ.1 dX13_inBrackets_44 rfl ?_
  refine yg13_19 dX13_inBrackets_45 zw4140 ?_
  refine s_sipush dX13_inBrackets_48 (by decide +kernel) ?_
  refine s_imul dX13_inBrackets_51 ?_
  refine s_aload_n hZ.1 dX13_inBrackets_52 rfl ?_
  refine yg13_22 dX13_inBrackets_53 zw4143 ?_
  refine s_iadd dX13_inBrackets_56 ?_
  refine s_iconst dX13_inBrackets_57 (by decide +kernel) ?_
  refine s_iadd dX13_inBrackets_58 ?_
  refine s_iald (tt := 0) rfl dX13_inBrackets_59 ?_
  refine s_bipush dX13_inBrackets_60 (by decide +kernel) ?_
  exact s_icmp_ne dX13_inBrackets_62 (by decide) (wX13_inBrackets_69 hZ hg hd) (wX13_inBrackets_65 hZ hg hd)
noncomputable def vX13_inBrackets_26 (g : Nat → List Nat → rx_H → Option (Nat × rx_H)) : rx_K := o_ld rx_isR 0 (o_ld rx_isR 0 (o_getf 13 22 (o_const 16 (o_bi (fun x y => x + y) (o_callV 1 13 FX13_kindAt (o_const 40 (o_c2 rx_eq (vX13_inBrackets_40 g) (vX13_inBrackets_69 g))))))))
set_option maxRecDepth 20000 in
theorem wX13_inBrackets_26 {dn : Nat} {g : Nat → List Nat → rx_H → Option (Nat × rx_H)} (hZ : zO b e D A X) (hg : ∀ i y M, vl8[i]? = some (y, M) → rx_Met (zV b e D A X) dn y M (g i)) (hd : 7 ≤ dn) : rx_OK (zV b e D A X) mX13_inBrackets (dn + 1) 26 (vX13_inBrackets_26 g) := by
  unfold vX13_inBrackets_26
  refine s_aload_n hZ.1 dX13_inBrackets_26 rfl ?_
  refine s_aload_n hZ.1 dX13_inBrackets_27 rfl ?_
  refine yg13_22 dX13_inBrackets_28 zw4143 ?_
  refine s_iconst dX13_inBrackets_31 (by decide +kernel) ?_
  refine s_iadd dX13_inBrackets_32 ?_
  refine s_callV hZ.1 (Met_X13_kindAt hZ) (Nat.succ_le_succ (Nat.le_trans (Nat.le_of_ble_eq_true rfl) hd)) vy_X13_kindAt zcl13 zw2970 zw183 (Or.inl zw2968) dX13_inBrackets_33 ?_
  refine s_iconst dX13_inBrackets_36 (by decide +kernel) ?_
  exact s_icmp_ne dX13_inBrackets_37 (by decide) (wX13_inBrackets_69 hZ hg hd) (wX13_inBrackets_40 hZ hg hd)
noncomputable def vX13_inBrackets_12 (g : Nat → List Nat → rx_H → Option (Nat × rx_H)) : rx_K := o_ld rx_isR 0 (o_ld rx_isR 0 (o_getf 13 22 (o_const 8 (o_bi (fun x y => x + y) (o_callV 1 13 FX13_kindAt (o_const 8 (o_c2 rx_eq (vX13_inBrackets_26 g) (vX13_inBrackets_69 g))))))))
set_option maxRecDepth 20000 in
theorem wX13_inBrackets_12 {dn : Nat} {g : Nat → List Nat → rx_H → Option (Nat × rx_H)} (hZ : zO b e D A X) (hg : ∀ i y M, vl8[i]? = some (y, M) → rx_Met (zV b e D A X) dn y M (g i)) (hd : 7 ≤ dn) : rx_OK (zV b e D A X) mX13_inBrackets (dn + 1) 12 (vX13_inBrackets_12 g) := by
  unfold vX13_inBrackets_12
  refine s_aload_n hZ.1 dX13_inBrackets_12 rfl ?_
  refine s_aload_n hZ.1 dX13_inBrackets_13 rfl ?_
  refine yg13_22 dX13_inBrackets_14 zw4143 ?_
  refine s_iconst dX13_inBrackets_17 (by decide +kernel) ?_
  refine s_iadd dX13_inBrackets_18 ?_
  refine s_callV hZ.1 (Met_X13_kindAt hZ) (Nat.succ_le_succ (Nat.le_trans (Nat.le_of_ble_eq_true rfl) hd)) vy_X13_kindAt zcl13 zw2970 zw183 (Or.inl zw2968) dX13_inBrackets_19 ?_
  refine s_iconst dX13_inBrackets_22 (by decide +kernel) ?_
  exact s_icmp_ne dX13_inBrackets_23 (by decide) (wX13_inBrackets_69 hZ hg hd) (wX13_inBrackets_26 hZ hg hd)
noncomputable def vX13_inBrackets_0 (g : Nat → List Nat → rx_H → Option (Nat × rx_H)) : rx_K := o_ld rx_isR 0 (o_getf 13 22 (o_const 16 (o_bi (fun x y => x + y) (o_const 5600 (o_c2 (fun h x y => rx_lt h y x) (vX13_inBrackets_69 g) (vX13_inBrackets_12 g))))))
set_option maxRecDepth 20000 in
theorem wX13_inBrackets_0 {dn : Nat} {g : Nat → List Nat → rx_H → Option (Nat × rx_H)} (hZ : zO b e D A X) (hg : ∀ i y M, vl8[i]? = some (y, M) → rx_Met (zV b e D A X) dn y M (g i)) (hd : 7 ≤ dn) : rx_OK (zV b e D A X) mX13_inBrackets (dn + 1) 0 (vX13_inBrackets_0 g) := by
  unfold vX13_inBrackets_0
  refine s_aload_n hZ.1 dX13_inBrackets_0 rfl ?_
  refine yg13_22 dX13_inBrackets_1 zw4143 ?_
  refine s_iconst dX13_inBrackets_4 (by decide +kernel) ?_
  refine s_iadd dX13_inBrackets_5 ?_
  refine s_sipush dX13_inBrackets_6 (by decide +kernel) ?_
  exact s_icmp_gt dX13_inBrackets_9 (by decide) (wX13_inBrackets_69 hZ hg hd) (wX13_inBrackets_12 hZ hg hd)
noncomputable def FX13_inBrackets (g : Nat → List Nat → rx_H → Option (Nat × rx_H)) : List Nat → rx_H → Option (Nat × rx_H) := rx_ent 4 (vX13_inBrackets_0 g)
theorem Met_X13_inBrackets {dn : Nat} {g : Nat → List Nat → rx_H → Option (Nat × rx_H)} (hZ : zO b e D A X) (hg : ∀ i y M, vl8[i]? = some (y, M) → rx_Met (zV b e D A X) dn y M (g i)) (hd : 7 ≤ dn) : rx_Met (zV b e D A X) (dn + 1) yX13_inBrackets mX13_inBrackets (FX13_inBrackets g) := rx_entry hZ.1 (wX13_inBrackets_0 hZ hg hd) (by decide +kernel) rfl (fun h => by cases h)
noncomputable def vX13_ofClass_237 (g : Nat → List Nat → rx_H → Option (Nat × rx_H)) : rx_K := o_ast 0 (fun v => v) rx_isI (o_ld rx_isI 6 (o_ret1 rx_isI))
set_option maxRecDepth 20000 in
theorem wX13_ofClass_237 {dn : Nat} {g : Nat → List Nat → rx_H → Option (Nat × rx_H)} (hZ : zO b e D A X) (hg : ∀ i y M, vl8[i]? = some (y, M) → rx_Met (zV b e D A X) dn y M (g i)) (hd : 7 ≤ dn) : rx_OK (zV b e D A X) mX13_ofClass (dn + 1) 237 (vX13_ofClass_237 g) := by
  unfold vX13_ofClass_237
  refine s_iast hZ.1 (tt := 0) rfl dX13_ofClass_237 ?_
  refine s_iload hZ.1 dX13_ofClass_238 ?_
  exact s_iret hZ.1 rfl dX13_ofClass_240
noncomputable def vX13_ofClass_235 (g : Nat → List Nat → rx_H → Option (Nat × rx_H)) : rx_K := o_const 34359738352 ((vX13_ofClass_237 g))
set_option maxRecDepth 20000 in
theorem wX13_ofClass_235 {dn : Nat} {g : Nat → List Nat → rx_H → Option (Nat × rx_H)} (hZ : zO b e D A X) (hg : ∀ i y M, vl8[i]? = some (y, M) → rx_Met (zV b e D A X) dn y M (g i)) (hd : 7 ≤ dn) : rx_OK (zV b e D A X) mX13_ofClass (dn + 1) 235 (vX13_ofClass_235 g) := by
  unfold vX13_ofClass_235
  refine s_bipush dX13_ofClass_235 (by decide +kernel) ?_
  exact (wX13_ofClass_237 hZ hg hd)
noncomputable def vX13_ofClass_228 (g : Nat → List Nat → rx_H → Option (Nat × rx_H)) : rx_K := o_ld rx_isR 0 (o_callV 0 13 (g 0) ((vX13_ofClass_237 g)))
set_option maxRecDepth 20000 in
theorem wX13_ofClass_228 {dn : Nat} {g : Nat → List Nat → rx_H → Option (Nat × rx_H)} (hZ : zO b e D A X) (hg : ∀ i y M, vl8[i]? = some (y, M) → rx_Met (zV b e D A X) dn y M (g i)) (hd : 7 ≤ dn) : rx_OK (zV b e D A X) mX13_ofClass (dn + 1) 228 (vX13_ofClass_228 g) := by
  unfold vX13_ofClass_228
  refine s_aload_n hZ.1 dX13_ofClass_228 rfl ?_
  refine s_callV hZ.1 (hg 0 _ _ rfl) (Nat.le_refl _) vy_X13_arguments zcl13 zw3127 zw214 (Or.inl zw3125) dX13_ofClass_229 ?_
  exact s_goto dX13_ofClass_232 (by decide) (wX13_ofClass_237 hZ hg hd)
noncomputable def vX13_ofClass_221 (g : Nat → List Nat → rx_H → Option (Nat × rx_H)) : rx_K := o_ld rx_isI 6 (o_ld rx_isI 5 (o_c1 rx_eq (vX13_ofClass_235 g) (vX13_ofClass_228 g)))
set_option maxRecDepth 20000 in
theorem wX13_ofClass_221 {dn : Nat} {g : Nat → List Nat → rx_H → Option (Nat × rx_H)} (hZ : zO b e D A X) (hg : ∀ i y M, vl8[i]? = some (y, M) → rx_Met (zV b e D A X) dn y M (g i)) (hd : 7 ≤ dn) : rx_OK (zV b e D A X) mX13_ofClass (dn + 1) 221 (vX13_ofClass_221 g) := by
  unfold vX13_ofClass_221
  refine s_iload hZ.1 dX13_ofClass_221 ?_
  refine s_iload hZ.1 dX13_ofClass_223 ?_
  exact s_if_eq dX13_ofClass_225 (by decide) (wX13_ofClass_235 hZ hg hd) (wX13_ofClass_228 hZ hg hd)
noncomputable def vX13_ofClass_177 (g : Nat → List Nat → rx_H → Option (Nat × rx_H)) : rx_K := o_ld rx_isI 1 (o_callV 2 13 FX13_node (o_st rx_isI 6 (o_ld rx_isR 0 (o_getf 13 75 (o_ld rx_isI 6 (o_ld rx_isL 2 (o_ast 1 (fun v => v) rx_isL (o_ld rx_isR 0 (o_getf 13 74 (o_ld rx_isI 6 (o_ld rx_isR 0 (o_ld rx_isI 4 (o_callV 1 13 FX13_nameAt (o_ast 1 (fun v => v) rx_isL (o_ld rx_isR 0 (o_getf 13 72 (o_ld rx_isI 6 (o_ld rx_isR 0 (o_ld rx_isI 4 (o_callV 1 13 FX13_placeAt (o_ast 0 (fun v => v) rx_isI (o_ld rx_isR 0 (o_getf 13 78 ((vX13_ofClass_221 g)))))))))))))))))))))))))
set_option maxRecDepth 20000 in
theorem wX13_ofClass_177 {dn : Nat} {g : Nat → List Nat → rx_H → Option (Nat × rx_H)} (hZ : zO b e D A X) (hg : ∀ i y M, vl8[i]? = some (y, M) → rx_Met (zV b e D A X) dn y M (g i)) (hd : 7 ≤ dn) : rx_OK (zV b e D A X) mX13_ofClass (dn + 1) 177 (vX13_ofClass_177 g) := by
  unfold vX13_ofClass_177
  refine s_iload_n hZ.1 dX13_ofClass_177 rfl ?_
  refine s_callV hZ.1 (Met_X13_node hZ) (Nat.succ_le_succ (Nat.le_trans (Nat.le_of_ble_eq_true rfl) hd)) vy_X13_node zcl13 zw3103 zw208 (Or.inl zw3101) dX13_ofClass_178 ?_
  refine s_istore hZ.1 dX13_ofClass_181 (Nat.le_of_ble_eq_true rfl) ?_
  refine s_aload_n hZ.1 dX13_ofClass_183 rfl ?_
  refine yg13_75 dX13_ofClass_184 zw4196 ?_
  refine s_iload hZ.1 dX13_ofClass_187 ?_
  refine s_lload_n hZ.1 dX13_ofClass_189 rfl ?_
  refine s_last (tt := 1) rfl dX13_ofClass_190 ?_
  refine s_aload_n hZ.1 dX13_ofClass_191 rfl ?_
  refine yg13_74 dX13_ofClass_192 zw4195 ?_
  refine s_iload hZ.1 dX13_ofClass_195 ?_
  refine s_aload_n hZ.1 dX13_ofClass_197 rfl ?_
  refine s_iload hZ.1 dX13_ofClass_198 ?_
  refine s_callV hZ.1 (Met_X13_nameAt hZ) (Nat.succ_le_succ (Nat.le_trans (Nat.le_of_ble_eq_true rfl) hd)) vy_X13_nameAt zcl13 zw2987 zw187 (Or.inl zw2985) dX13_ofClass_200 ?_
  refine s_last (tt := 1) rfl dX13_ofClass_203 ?_
  refine s_aload_n hZ.1 dX13_ofClass_204 rfl ?_
  refine yg13_72 dX13_ofClass_205 zw4193 ?_
  refine s_iload hZ.1 dX13_ofClass_208 ?_
  refine s_aload_n hZ.1 dX13_ofClass_210 rfl ?_
  refine s_iload hZ.1 dX13_ofClass_211 ?_
  refine s_callV hZ.1 (Met_X13_placeAt hZ) (Nat.succ_le_succ (Nat.le_trans (Nat.le_of_ble_eq_true rfl) hd)) vy_X13_placeAt zcl13 zw3000 zw189 (Or.inl zw2998) dX13_ofClass_213 ?_
  refine s_iast hZ.1 (tt := 0) rfl dX13_ofClass_216 ?_
  refine s_aload_n hZ.1 dX13_ofClass_217 rfl ?_
  refine yg13_78 dX13_ofClass_218 zw4199 ?_
  exact (wX13_ofClass_221 hZ hg hd)
noncomputable def vX13_ofClass_176 (g : Nat → List Nat → rx_H → Option (Nat × rx_H)) : rx_K := o_const 40 ((vX13_ofClass_177 g))
set_option maxRecDepth 20000 in
theorem wX13_ofClass_176 {dn : Nat} {g : Nat → List Nat → rx_H → Option (Nat × rx_H)} (hZ : zO b e D A X) (hg : ∀ i y M, vl8[i]? = some (y, M) → rx_Met (zV b e D A X) dn y M (g i)) (hd : 7 ≤ dn) : rx_OK (zV b e D A X) mX13_ofClass (dn + 1) 176 (vX13_ofClass_176 g) := by
  unfold vX13_ofClass_176
  refine s_iconst dX13_ofClass_176 (by decide +kernel) ?_
  exact (wX13_ofClass_177 hZ hg hd)
noncomputable def vX13_ofClass_171 (g : Nat → List Nat → rx_H → Option (Nat × rx_H)) : rx_K := o_const 48 ((vX13_ofClass_177 g))
set_option maxRecDepth 20000 in
theorem wX13_ofClass_171 {dn : Nat} {g : Nat → List Nat → rx_H → Option (Nat × rx_H)} (hZ : zO b e D A X) (hg : ∀ i y M, vl8[i]? = some (y, M) → rx_Met (zV b e D A X) dn y M (g i)) (hd : 7 ≤ dn) : rx_OK (zV b e D A X) mX13_ofClass (dn + 1) 171 (vX13_ofClass_171 g) := by
  unfold vX13_ofClass_171
  refine s_bipush dX13_ofClass_171 (by decide +kernel) ?_
  exact s_goto dX13_ofClass_173 (by decide) (wX13_ofClass_177 hZ hg hd)
noncomputable def vX13_ofClass_163 (g : Nat → List Nat → rx_H → Option (Nat × rx_H)) : rx_K := o_st rx_isI 5 (o_ld rx_isR 0 (o_ld rx_isI 5 (o_c1 rx_eq (vX13_ofClass_176 g) (vX13_ofClass_171 g))))
set_option maxRecDepth 20000 in
theorem wX13_ofClass_163 {dn : Nat} {g : Nat → List Nat → rx_H → Option (Nat × rx_H)} (hZ : zO b e D A X) (hg : ∀ i y M, vl8[i]? = some (y, M) → rx_Met (zV b e D A X) dn y M (g i)) (hd : 7 ≤ dn) : rx_OK (zV b e D A X) mX13_ofClass (dn + 1) 163 (vX13_ofClass_163 g) := by
  unfold vX13_ofClass_163
  refine s_istore hZ.1 dX13_ofClass_163 (Nat.le_of_ble_eq_true rfl) ?_
  refine s_aload_n hZ.1 dX13_ofClass_165 rfl ?_
  refine s_iload hZ.1 dX13_ofClass_166 ?_
  exact s_if_eq dX13_ofClass_168 (by decide) (wX13_ofClass_176 hZ hg hd) (wX13_ofClass_171 hZ hg hd)
noncomputable def vX13_ofClass_162 (g : Nat → List Nat → rx_H → Option (Nat × rx_H)) : rx_K := o_const 0 ((vX13_ofClass_163 g))
set_option maxRecDepth 20000 in
theorem wX13_ofClass_162 {dn : Nat} {g : Nat → List Nat → rx_H → Option (Nat × rx_H)} (hZ : zO b e D A X) (hg : ∀ i y M, vl8[i]? = some (y, M) → rx_Met (zV b e D A X) dn y M (g i)) (hd : 7 ≤ dn) : rx_OK (zV b e D A X) mX13_ofClass (dn + 1) 162 (vX13_ofClass_162 g) := by
  unfold vX13_ofClass_162
  refine s_iconst dX13_ofClass_162 (by decide +kernel) ?_
  exact (wX13_ofClass_163 hZ hg hd)
noncomputable def vX13_ofClass_158 (g : Nat → List Nat → rx_H → Option (Nat × rx_H)) : rx_K := o_const 8 ((vX13_ofClass_163 g))
set_option maxRecDepth 20000 in
theorem wX13_ofClass_158 {dn : Nat} {g : Nat → List Nat → rx_H → Option (Nat × rx_H)} (hZ : zO b e D A X) (hg : ∀ i y M, vl8[i]? = some (y, M) → rx_Met (zV b e D A X) dn y M (g i)) (hd : 7 ≤ dn) : rx_OK (zV b e D A X) mX13_ofClass (dn + 1) 158 (vX13_ofClass_158 g) := by
  unfold vX13_ofClass_158
  refine s_iconst dX13_ofClass_158 (by decide +kernel) ?_
  exact s_goto dX13_ofClass_159 (by decide) (wX13_ofClass_163 hZ hg hd)
noncomputable def vX13_ofClass_149 (g : Nat → List Nat → rx_H → Option (Nat × rx_H)) : rx_K := o_ld rx_isR 0 (o_const 320 (o_callV 1 13 FX13_isSign (o_c1 rx_eq (vX13_ofClass_162 g) (vX13_ofClass_158 g))))
set_option maxRecDepth 20000 in
theorem wX13_ofClass_149 {dn : Nat} {g : Nat → List Nat → rx_H → Option (Nat × rx_H)} (hZ : zO b e D A X) (hg : ∀ i y M, vl8[i]? = some (y, M) → rx_Met (zV b e D A X) dn y M (g i)) (hd : 7 ≤ dn) : rx_OK (zV b e D A X) mX13_ofClass (dn + 1) 149 (vX13_ofClass_149 g) := by
  unfold vX13_ofClass_149
  refine s_aload_n hZ.1 dX13_ofClass_149 rfl ?_
  refine s_bipush dX13_ofClass_150 (by decide +kernel) ?_
  refine s_callV hZ.1 (Met_X13_isSign hZ) (Nat.succ_le_succ (Nat.le_trans (Nat.le_of_ble_eq_true rfl) hd)) vy_X13_isSign zcl13 zw3030 zw195 (Or.inl zw3028) dX13_ofClass_152 ?_
  exact s_if_eq dX13_ofClass_155 (by decide) (wX13_ofClass_162 hZ hg hd) (wX13_ofClass_158 hZ hg hd)
noncomputable def vX13_ofClass_134 (g : Nat → List Nat → rx_H → Option (Nat × rx_H)) : rx_K := o_ld rx_isR 0 (o_const 16 (o_const 0 (o_callV 2 13 FX13_want (o_st rx_isI 4 (o_ld rx_isR 0 (o_getf 13 20 (o_c1 rx_eq (vX13_ofClass_149 g) (vX13_ofClass_162 g))))))))
set_option maxRecDepth 20000 in
theorem wX13_ofClass_134 {dn : Nat} {g : Nat → List Nat → rx_H → Option (Nat × rx_H)} (hZ : zO b e D A X) (hg : ∀ i y M, vl8[i]? = some (y, M) → rx_Met (zV b e D A X) dn y M (g i)) (hd : 7 ≤ dn) : rx_OK (zV b e D A X) mX13_ofClass (dn + 1) 134 (vX13_ofClass_134 g) := by
  unfold vX13_ofClass_134
  refine s_aload_n hZ.1 dX13_ofClass_134 rfl ?_
  refine s_iconst dX13_ofClass_135 (by decide +kernel) ?_
  refine s_iconst dX13_ofClass_136 (by decide +kernel) ?_
  refine s_callV hZ.1 (Met_X13_want hZ) (Nat.succ_le_succ (Nat.le_trans (Nat.le_of_ble_eq_true rfl) hd)) vy_X13_want zcl13 zw3020 zw193 (Or.inl zw3018) dX13_ofClass_137 ?_
  refine s_istore hZ.1 dX13_ofClass_140 (Nat.le_of_ble_eq_true rfl) ?_
  refine s_aload_n hZ.1 dX13_ofClass_142 rfl ?_
  refine yg13_20 dX13_ofClass_143 zw4141 ?_
  exact s_if_ne dX13_ofClass_146 (by decide) (wX13_ofClass_162 hZ hg hd) (wX13_ofClass_149 hZ hg hd)
noncomputable def vX13_ofClass_113 (g : Nat → List Nat → rx_H → Option (Nat × rx_H)) : rx_K := o_ld rx_isR 0 (o_ld rx_isI 5 (o_callV 1 13 FX13_placeAt (o_ast 0 (fun v => v) rx_isI (o_ld rx_isR 0 (o_getf 13 78 (o_ld rx_isI 4 (o_ld rx_isR 0 (o_callV 0 13 (g 0) (o_ast 0 (fun v => v) rx_isI (o_ld rx_isI 4 (o_ret1 rx_isI)))))))))))
set_option maxRecDepth 20000 in
theorem wX13_ofClass_113 {dn : Nat} {g : Nat → List Nat → rx_H → Option (Nat × rx_H)} (hZ : zO b e D A X) (hg : ∀ i y M, vl8[i]? = some (y, M) → rx_Met (zV b e D A X) dn y M (g i)) (hd : 7 ≤ dn) : rx_OK (zV b e D A X) mX13_ofClass (dn + 1) 113 (vX13_ofClass_113 g) := by
  unfold vX13_ofClass_113
  refine s_aload_n hZ.1 dX13_ofClass_113 rfl ?_
  refine s_iload hZ.1 dX13_ofClass_114 ?_
  refine s_callV hZ.1 (Met_X13_placeAt hZ) (Nat.succ_le_succ (Nat.le_trans (Nat.le_of_ble_eq_true rfl) hd)) vy_X13_placeAt zcl13 zw3000 zw189 (Or.inl zw2998) dX13_ofClass_116 ?_
  refine s_iast hZ.1 (tt := 0) rfl dX13_ofClass_119 ?_
  refine s_aload_n hZ.1 dX13_ofClass_120 rfl ?_
  refine yg13_78 dX13_ofClass_121 zw4199 ?_
  refine s_iload hZ.1 dX13_ofClass_124 ?_
  refine s_aload_n hZ.1 dX13_ofClass_126 rfl ?_
  refine s_callV hZ.1 (hg 0 _ _ rfl) (Nat.le_refl _) vy_X13_arguments zcl13 zw3127 zw214 (Or.inl zw3125) dX13_ofClass_127 ?_
  refine s_iast hZ.1 (tt := 0) rfl dX13_ofClass_130 ?_
  refine s_iload hZ.1 dX13_ofClass_131 ?_
  exact s_iret hZ.1 rfl dX13_ofClass_133
noncomputable def vX13_ofClass_70 (g : Nat → List Nat → rx_H → Option (Nat × rx_H)) : rx_K := o_ld rx_isR 0 (o_getf 13 22 (o_const 8 (o_bi (fun x y => x - y) (o_callV 1 13 FX13_placeAt (o_ast 0 (fun v => v) rx_isI (o_ld rx_isR 0 (o_const 368 (o_callV 1 13 FX13_wantSign (o_ld rx_isR 0 (o_const 16 (o_const 0 (o_callV 2 13 FX13_want (o_st rx_isI 5 (o_ld rx_isR 0 (o_getf 13 74 (o_ld rx_isI 4 (o_ld rx_isR 0 (o_ld rx_isI 5 (o_callV 1 13 FX13_nameAt (o_ast 1 (fun v => v) rx_isL (o_ld rx_isR 0 (o_getf 13 72 (o_ld rx_isI 4 ((vX13_ofClass_113 g)))))))))))))))))))))))))
set_option maxRecDepth 20000 in
theorem wX13_ofClass_70 {dn : Nat} {g : Nat → List Nat → rx_H → Option (Nat × rx_H)} (hZ : zO b e D A X) (hg : ∀ i y M, vl8[i]? = some (y, M) → rx_Met (zV b e D A X) dn y M (g i)) (hd : 7 ≤ dn) : rx_OK (zV b e D A X) mX13_ofClass (dn + 1) 70 (vX13_ofClass_70 g) := by
  unfold vX13_ofClass_70
  refine s_aload_n hZ.1 dX13_ofClass_70 rfl ?_
  refine yg13_22 dX13_ofClass_71 zw4143 ?_
  refine s_iconst dX13_ofClass_74 (by decide +kernel) ?_
  refine s_isub dX13_ofClass_75 ?_
  refine s_callV hZ.1 (Met_X13_placeAt hZ) (Nat.succ_le_succ (Nat.le_trans (Nat.le_of_ble_eq_true rfl) hd)) vy_X13_placeAt zcl13 zw3000 zw189 (Or.inl zw2998) dX13_ofClass_76 ?_
  refine s_iast hZ.1 (tt := 0) rfl dX13_ofClass_79 ?_
  refine s_aload_n hZ.1 dX13_ofClass_80 rfl ?_
  refine s_bipush dX13_ofClass_81 (by decide +kernel) ?_
  refine s_callV hZ.1 (Met_X13_wantSign hZ) (Nat.succ_le_succ (Nat.le_trans (Nat.le_of_ble_eq_true rfl) hd)) vy_X13_wantSign zcl13 zw3037 zw196 (Or.inl zw3035) dX13_ofClass_83 ?_
  refine s_aload_n hZ.1 dX13_ofClass_86 rfl ?_
  refine s_iconst dX13_ofClass_87 (by decide +kernel) ?_
  refine s_iconst dX13_ofClass_88 (by decide +kernel) ?_
  refine s_callV hZ.1 (Met_X13_want hZ) (Nat.succ_le_succ (Nat.le_trans (Nat.le_of_ble_eq_true rfl) hd)) vy_X13_want zcl13 zw3020 zw193 (Or.inl zw3018) dX13_ofClass_89 ?_
  refine s_istore hZ.1 dX13_ofClass_92 (Nat.le_of_ble_eq_true rfl) ?_
  refine s_aload_n hZ.1 dX13_ofClass_94 rfl ?_
  refine yg13_74 dX13_ofClass_95 zw4195 ?_
  refine s_iload hZ.1 dX13_ofClass_98 ?_
  refine s_aload_n hZ.1 dX13_ofClass_100 rfl ?_
  refine s_iload hZ.1 dX13_ofClass_101 ?_
  refine s_callV hZ.1 (Met_X13_nameAt hZ) (Nat.succ_le_succ (Nat.le_trans (Nat.le_of_ble_eq_true rfl) hd)) vy_X13_nameAt zcl13 zw2987 zw187 (Or.inl zw2985) dX13_ofClass_103 ?_
  refine s_last (tt := 1) rfl dX13_ofClass_106 ?_
  refine s_aload_n hZ.1 dX13_ofClass_107 rfl ?_
  refine yg13_72 dX13_ofClass_108 zw4193 ?_
  refine s_iload hZ.1 dX13_ofClass_111 ?_
  exact (wX13_ofClass_113 hZ hg hd)
noncomputable def vX13_ofClass_29 (g : Nat → List Nat → rx_H → Option (Nat × rx_H)) : rx_K := o_ld rx_isR 0 (o_const 56 (o_ld rx_isI 1 (o_callV 2 13 FX13_node (o_st rx_isI 4 (o_ld rx_isR 0 (o_getf 13 75 (o_ld rx_isI 4 (o_ld rx_isL 2 (o_ast 1 (fun v => v) rx_isL (o_ld rx_isR 0 (o_getf 13 72 (o_ld rx_isI 4 (o_ld rx_isR 0 (o_ld rx_isR 0 (o_getf 13 22 (o_const 8 (o_bi (fun x y => x - y) (o_callV 1 13 FX13_placeAt (o_ast 0 (fun v => v) rx_isI (o_ld rx_isR 0 (o_getf 13 79 (o_ld rx_isI 4 (o_ld rx_isR 0 ((vX13_ofClass_70 g)))))))))))))))))))))))))
set_option maxRecDepth 20000 in
theorem wX13_ofClass_29 {dn : Nat} {g : Nat → List Nat → rx_H → Option (Nat × rx_H)} (hZ : zO b e D A X) (hg : ∀ i y M, vl8[i]? = some (y, M) → rx_Met (zV b e D A X) dn y M (g i)) (hd : 7 ≤ dn) : rx_OK (zV b e D A X) mX13_ofClass (dn + 1) 29 (vX13_ofClass_29 g) := by
  unfold vX13_ofClass_29
  refine s_aload_n hZ.1 dX13_ofClass_29 rfl ?_
  refine s_bipush dX13_ofClass_30 (by decide +kernel) ?_
  refine s_iload_n hZ.1 dX13_ofClass_32 rfl ?_
  refine s_callV hZ.1 (Met_X13_node hZ) (Nat.succ_le_succ (Nat.le_trans (Nat.le_of_ble_eq_true rfl) hd)) vy_X13_node zcl13 zw3103 zw208 (Or.inl zw3101) dX13_ofClass_33 ?_
  refine s_istore hZ.1 dX13_ofClass_36 (Nat.le_of_ble_eq_true rfl) ?_
  refine s_aload_n hZ.1 dX13_ofClass_38 rfl ?_
  refine yg13_75 dX13_ofClass_39 zw4196 ?_
  refine s_iload hZ.1 dX13_ofClass_42 ?_
  refine s_lload_n hZ.1 dX13_ofClass_44 rfl ?_
  refine s_last (tt := 1) rfl dX13_ofClass_45 ?_
  refine s_aload_n hZ.1 dX13_ofClass_46 rfl ?_
  refine yg13_72 dX13_ofClass_47 zw4193 ?_
  refine s_iload hZ.1 dX13_ofClass_50 ?_
  refine s_aload_n hZ.1 dX13_ofClass_52 rfl ?_
  refine s_aload_n hZ.1 dX13_ofClass_53 rfl ?_
  refine yg13_22 dX13_ofClass_54 zw4143 ?_
  refine s_iconst dX13_ofClass_57 (by decide +kernel) ?_
  refine s_isub dX13_ofClass_58 ?_
  refine s_callV hZ.1 (Met_X13_placeAt hZ) (Nat.succ_le_succ (Nat.le_trans (Nat.le_of_ble_eq_true rfl) hd)) vy_X13_placeAt zcl13 zw3000 zw189 (Or.inl zw2998) dX13_ofClass_59 ?_
  refine s_iast hZ.1 (tt := 0) rfl dX13_ofClass_62 ?_
  refine s_aload_n hZ.1 dX13_ofClass_63 rfl ?_
  refine yg13_79 dX13_ofClass_64 zw4200 ?_
  refine s_iload hZ.1 dX13_ofClass_67 ?_
  refine s_aload_n hZ.1 dX13_ofClass_69 rfl ?_
  exact (wX13_ofClass_70 hZ hg hd)
noncomputable def vX13_ofClass_0 (g : Nat → List Nat → rx_H → Option (Nat × rx_H)) : rx_K := o_ld rx_isR 0 (o_ld rx_isR 0 (o_getf 13 22 (o_callV 1 13 FX13_nameAt (o_stL 2 (o_ld rx_isR 0 (o_callV 0 13 FX13_step (o_ld rx_isR 0 (o_const 368 (o_callV 1 13 FX13_wantSign (o_ld rx_isR 0 (o_const 804 (o_callV 1 13 FX13_takesWord (o_c1 rx_eq (vX13_ofClass_134 g) (vX13_ofClass_29 g))))))))))))))
set_option maxRecDepth 20000 in
theorem wX13_ofClass_0 {dn : Nat} {g : Nat → List Nat → rx_H → Option (Nat × rx_H)} (hZ : zO b e D A X) (hg : ∀ i y M, vl8[i]? = some (y, M) → rx_Met (zV b e D A X) dn y M (g i)) (hd : 7 ≤ dn) : rx_OK (zV b e D A X) mX13_ofClass (dn + 1) 0 (vX13_ofClass_0 g) := by
  unfold vX13_ofClass_0
  refine s_aload_n hZ.1 dX13_ofClass_0 rfl ?_
  refine s_aload_n hZ.1 dX13_ofClass_1 rfl ?_
  refine yg13_22 dX13_ofClass_2 zw4143 ?_
  refine s_callV hZ.1 (Met_X13_nameAt hZ) (Nat.succ_le_succ (Nat.le_trans (Nat.le_of_ble_eq_true rfl) hd)) vy_X13_nameAt zcl13 zw2987 zw187 (Or.inl zw2985) dX13_ofClass_5 ?_
  refine s_lstore_n hZ.1 dX13_ofClass_8 rfl (Nat.le_of_ble_eq_true rfl) ?_
  refine s_aload_n hZ.1 dX13_ofClass_9 rfl ?_
  refine s_callV hZ.1 (Met_X13_step hZ) (Nat.succ_le_succ (Nat.le_trans (Nat.le_of_ble_eq_true rfl) hd)) vy_X13_step zcl13 zw2996 zw188 (Or.inl zw2994) dX13_ofClass_10 ?_
  refine s_aload_n hZ.1 dX13_ofClass_13 rfl ?_
  refine s_bipush dX13_ofClass_14 (by decide +kernel) ?_
  refine s_callV hZ.1 (Met_X13_wantSign hZ) (Nat.succ_le_succ (Nat.le_trans (Nat.le_of_ble_eq_true rfl) hd)) vy_X13_wantSign zcl13 zw3037 zw196 (Or.inl zw3035) dX13_ofClass_16 ?_
  refine s_aload_n hZ.1 dX13_ofClass_19 rfl ?_
  refine s_ldcwS (k := 100) (zo_R100 hZ) dX13_ofClass_20 ?_
  refine s_callV hZ.1 (Met_X13_takesWord hZ) (Nat.succ_le_succ (Nat.le_trans (Nat.le_of_ble_eq_true rfl) hd)) vy_X13_takesWord zcl13 zw2979 zw185 (Or.inl zw2977) dX13_ofClass_23 ?_
  exact s_if_eq dX13_ofClass_26 (by decide) (wX13_ofClass_134 hZ hg hd) (wX13_ofClass_29 hZ hg hd)
noncomputable def FX13_ofClass (g : Nat → List Nat → rx_H → Option (Nat × rx_H)) : List Nat → rx_H → Option (Nat × rx_H) := rx_ent 7 (vX13_ofClass_0 g)
theorem Met_X13_ofClass {dn : Nat} {g : Nat → List Nat → rx_H → Option (Nat × rx_H)} (hZ : zO b e D A X) (hg : ∀ i y M, vl8[i]? = some (y, M) → rx_Met (zV b e D A X) dn y M (g i)) (hd : 7 ≤ dn) : rx_Met (zV b e D A X) (dn + 1) yX13_ofClass mX13_ofClass (FX13_ofClass g) := rx_entry hZ.1 (wX13_ofClass_0 hZ hg hd) (by decide +kernel) rfl (fun h => by cases h)
end ZM40

section ZM24
variable {b : Nat} {e : Nat → Value} {D : va_G} {A : Nat → ClassId} {X : State → Prop}
noncomputable def vX9_args_120 (g : Nat → List Nat → rx_H → Option (Nat × rx_H)) (j : Nat → rx_K) : rx_K := o_ld rx_isR 0 (o_const 1128 (o_callV 1 9 FX9_need (o_ret1 rx_isZ)))
set_option maxRecDepth 20000 in
theorem wX9_args_120 {dn : Nat} {g : Nat → List Nat → rx_H → Option (Nat × rx_H)} (hZ : zO b e D A X) (hg : ∀ i y M, vl6[i]? = some (y, M) → rx_Met (zV b e D A X) dn y M (g i)) (hd : 2 ≤ dn) (j : Nat → rx_K) (hj : ∀ k pc, [34][k]? = some pc → rx_OK (zV b e D A X) mX9_args (dn + 1) pc (j k)) : rx_OK (zV b e D A X) mX9_args (dn + 1) 120 (vX9_args_120 g j) := by
  unfold vX9_args_120
  refine s_aload_n hZ.1 dX9_args_120 rfl ?_
  refine s_sipush dX9_args_121 (by decide +kernel) ?_
  refine s_callV hZ.1 (Met_X9_need hZ) (Nat.succ_le_succ (Nat.le_trans (Nat.le_of_ble_eq_true rfl) hd)) vy_X9_need zcl9 zw1779 zw19 (Or.inl zw1777) dX9_args_124 ?_
  exact s_zret rx_z_ok rfl dX9_args_127
noncomputable def vX9_args_114 (g : Nat → List Nat → rx_H → Option (Nat × rx_H)) (j : Nat → rx_K) : rx_K := o_inc 5 (1) ((j 0))
set_option maxRecDepth 20000 in
theorem wX9_args_114 {dn : Nat} {g : Nat → List Nat → rx_H → Option (Nat × rx_H)} (hZ : zO b e D A X) (hg : ∀ i y M, vl6[i]? = some (y, M) → rx_Met (zV b e D A X) dn y M (g i)) (hd : 2 ≤ dn) (j : Nat → rx_K) (hj : ∀ k pc, [34][k]? = some pc → rx_OK (zV b e D A X) mX9_args (dn + 1) pc (j k)) : rx_OK (zV b e D A X) mX9_args (dn + 1) 114 (vX9_args_114 g j) := by
  unfold vX9_args_114
  refine s_iinc hZ.1 dX9_args_114 (Nat.le_of_ble_eq_true rfl) ?_
  exact s_goto dX9_args_117 (by decide) (hj 0 34 rfl)
noncomputable def vX9_args_112 (g : Nat → List Nat → rx_H → Option (Nat × rx_H)) (j : Nat → rx_K) : rx_K := o_const 0 (o_ret1 rx_isZ)
set_option maxRecDepth 20000 in
theorem wX9_args_112 {dn : Nat} {g : Nat → List Nat → rx_H → Option (Nat × rx_H)} (hZ : zO b e D A X) (hg : ∀ i y M, vl6[i]? = some (y, M) → rx_Met (zV b e D A X) dn y M (g i)) (hd : 2 ≤ dn) (j : Nat → rx_K) (hj : ∀ k pc, [34][k]? = some pc → rx_OK (zV b e D A X) mX9_args (dn + 1) pc (j k)) : rx_OK (zV b e D A X) mX9_args (dn + 1) 112 (vX9_args_112 g j) := by
  unfold vX9_args_112
  refine s_iconst dX9_args_112 (by decide +kernel) ?_
  exact s_zret rx_z_ok rfl dX9_args_113
noncomputable def vX9_args_105 (g : Nat → List Nat → rx_H → Option (Nat × rx_H)) (j : Nat → rx_K) : rx_K := o_ld rx_isR 0 (o_callV 0 9 FX9_take (o_c1 rx_eq (vX9_args_112 g j) (vX9_args_114 g j)))
set_option maxRecDepth 20000 in
theorem wX9_args_105 {dn : Nat} {g : Nat → List Nat → rx_H → Option (Nat × rx_H)} (hZ : zO b e D A X) (hg : ∀ i y M, vl6[i]? = some (y, M) → rx_Met (zV b e D A X) dn y M (g i)) (hd : 2 ≤ dn) (j : Nat → rx_K) (hj : ∀ k pc, [34][k]? = some pc → rx_OK (zV b e D A X) mX9_args (dn + 1) pc (j k)) : rx_OK (zV b e D A X) mX9_args (dn + 1) 105 (vX9_args_105 g j) := by
  unfold vX9_args_105
  refine s_aload_n hZ.1 dX9_args_105 rfl ?_
  refine s_callV hZ.1 (Met_X9_take hZ) (Nat.succ_le_succ (Nat.le_trans (Nat.le_of_ble_eq_true rfl) hd)) vy_X9_take zcl9 zw1754 zw14 (Or.inl zw1752) dX9_args_106 ?_
  exact s_if_ne dX9_args_109 (by decide) (wX9_args_114 hZ hg hd j hj) (wX9_args_112 hZ hg hd j hj)
noncomputable def vX9_args_100 (g : Nat → List Nat → rx_H → Option (Nat × rx_H)) (j : Nat → rx_K) : rx_K := o_st rx_isI 3 (o_ld rx_isI 3 (o_c1 rx_eq (vX9_args_114 g j) (vX9_args_105 g j)))
set_option maxRecDepth 20000 in
theorem wX9_args_100 {dn : Nat} {g : Nat → List Nat → rx_H → Option (Nat × rx_H)} (hZ : zO b e D A X) (hg : ∀ i y M, vl6[i]? = some (y, M) → rx_Met (zV b e D A X) dn y M (g i)) (hd : 2 ≤ dn) (j : Nat → rx_K) (hj : ∀ k pc, [34][k]? = some pc → rx_OK (zV b e D A X) mX9_args (dn + 1) pc (j k)) : rx_OK (zV b e D A X) mX9_args (dn + 1) 100 (vX9_args_100 g j) := by
  unfold vX9_args_100
  refine s_istore_n hZ.1 dX9_args_100 rfl (Nat.le_of_ble_eq_true rfl) ?_
  refine s_iload_n hZ.1 dX9_args_101 rfl ?_
  exact s_if_eq dX9_args_102 (by decide) (wX9_args_114 hZ hg hd j hj) (wX9_args_105 hZ hg hd j hj)
noncomputable def vX9_args_99 (g : Nat → List Nat → rx_H → Option (Nat × rx_H)) (j : Nat → rx_K) : rx_K := o_const 0 ((vX9_args_100 g j))
set_option maxRecDepth 20000 in
theorem wX9_args_99 {dn : Nat} {g : Nat → List Nat → rx_H → Option (Nat × rx_H)} (hZ : zO b e D A X) (hg : ∀ i y M, vl6[i]? = some (y, M) → rx_Met (zV b e D A X) dn y M (g i)) (hd : 2 ≤ dn) (j : Nat → rx_K) (hj : ∀ k pc, [34][k]? = some pc → rx_OK (zV b e D A X) mX9_args (dn + 1) pc (j k)) : rx_OK (zV b e D A X) mX9_args (dn + 1) 99 (vX9_args_99 g j) := by
  unfold vX9_args_99
  refine s_iconst dX9_args_99 (by decide +kernel) ?_
  exact (wX9_args_100 hZ hg hd j hj)
noncomputable def vX9_args_95 (g : Nat → List Nat → rx_H → Option (Nat × rx_H)) (j : Nat → rx_K) : rx_K := o_const 8 ((vX9_args_100 g j))
set_option maxRecDepth 20000 in
theorem wX9_args_95 {dn : Nat} {g : Nat → List Nat → rx_H → Option (Nat × rx_H)} (hZ : zO b e D A X) (hg : ∀ i y M, vl6[i]? = some (y, M) → rx_Met (zV b e D A X) dn y M (g i)) (hd : 2 ≤ dn) (j : Nat → rx_K) (hj : ∀ k pc, [34][k]? = some pc → rx_OK (zV b e D A X) mX9_args (dn + 1) pc (j k)) : rx_OK (zV b e D A X) mX9_args (dn + 1) 95 (vX9_args_95 g j) := by
  unfold vX9_args_95
  refine s_iconst dX9_args_95 (by decide +kernel) ?_
  exact s_goto dX9_args_96 (by decide) (wX9_args_100 hZ hg hd j hj)
noncomputable def vX9_args_81 (g : Nat → List Nat → rx_H → Option (Nat × rx_H)) (j : Nat → rx_K) : rx_K := o_ld rx_isR 6 (o_st rx_isR 4 (o_ld rx_isR 0 (o_callV 0 9 FX9_now (o_const 1152 (o_c2 rx_eq (vX9_args_95 g j) (vX9_args_99 g j))))))
set_option maxRecDepth 20000 in
theorem wX9_args_81 {dn : Nat} {g : Nat → List Nat → rx_H → Option (Nat × rx_H)} (hZ : zO b e D A X) (hg : ∀ i y M, vl6[i]? = some (y, M) → rx_Met (zV b e D A X) dn y M (g i)) (hd : 2 ≤ dn) (j : Nat → rx_K) (hj : ∀ k pc, [34][k]? = some pc → rx_OK (zV b e D A X) mX9_args (dn + 1) pc (j k)) : rx_OK (zV b e D A X) mX9_args (dn + 1) 81 (vX9_args_81 g j) := by
  unfold vX9_args_81
  refine s_aload hZ.1 dX9_args_81 ?_
  refine s_astore hZ.1 dX9_args_83 (Nat.le_of_ble_eq_true rfl) ?_
  refine s_aload_n hZ.1 dX9_args_85 rfl ?_
  refine s_callV hZ.1 (Met_X9_now hZ) (Nat.succ_le_succ (Nat.le_trans (Nat.le_of_ble_eq_true rfl) hd)) vy_X9_now zcl9 zw1746 zw12 (Or.inl zw1744) dX9_args_86 ?_
  refine s_sipush dX9_args_89 (by decide +kernel) ?_
  exact s_icmp_ne dX9_args_92 (by decide) (wX9_args_99 hZ hg hd j hj) (wX9_args_95 hZ hg hd j hj)
noncomputable def vX9_args_74 (g : Nat → List Nat → rx_H → Option (Nat × rx_H)) (j : Nat → rx_K) : rx_K := o_ld rx_isR 4 (o_ld rx_isR 6 (o_putf rx_isR 8 8 ((vX9_args_81 g j))))
set_option maxRecDepth 20000 in
theorem wX9_args_74 {dn : Nat} {g : Nat → List Nat → rx_H → Option (Nat × rx_H)} (hZ : zO b e D A X) (hg : ∀ i y M, vl6[i]? = some (y, M) → rx_Met (zV b e D A X) dn y M (g i)) (hd : 2 ≤ dn) (j : Nat → rx_K) (hj : ∀ k pc, [34][k]? = some pc → rx_OK (zV b e D A X) mX9_args (dn + 1) pc (j k)) : rx_OK (zV b e D A X) mX9_args (dn + 1) 74 (vX9_args_74 g j) := by
  unfold vX9_args_74
  refine s_aload hZ.1 dX9_args_74 ?_
  refine s_aload hZ.1 dX9_args_76 ?_
  refine yp8_8 hZ.1 dX9_args_78 zw489 ?_
  exact (wX9_args_81 hZ hg hd j hj)
noncomputable def vX9_args_65 (g : Nat → List Nat → rx_H → Option (Nat × rx_H)) (j : Nat → rx_K) : rx_K := o_ld rx_isR 1 (o_ld rx_isR 6 (o_putf rx_isR 8 5 ((vX9_args_81 g j))))
set_option maxRecDepth 20000 in
theorem wX9_args_65 {dn : Nat} {g : Nat → List Nat → rx_H → Option (Nat × rx_H)} (hZ : zO b e D A X) (hg : ∀ i y M, vl6[i]? = some (y, M) → rx_Met (zV b e D A X) dn y M (g i)) (hd : 2 ≤ dn) (j : Nat → rx_K) (hj : ∀ k pc, [34][k]? = some pc → rx_OK (zV b e D A X) mX9_args (dn + 1) pc (j k)) : rx_OK (zV b e D A X) mX9_args (dn + 1) 65 (vX9_args_65 g j) := by
  unfold vX9_args_65
  refine s_aload_n hZ.1 dX9_args_65 rfl ?_
  refine s_aload hZ.1 dX9_args_66 ?_
  refine yp8_5 hZ.1 dX9_args_68 zw477 ?_
  exact s_goto dX9_args_71 (by decide) (wX9_args_81 hZ hg hd j hj)
noncomputable def vX9_args_60 (g : Nat → List Nat → rx_H → Option (Nat × rx_H)) (j : Nat → rx_K) : rx_K := o_ld rx_isR 4 (o_nul (vX9_args_65 g j) (vX9_args_74 g j))
set_option maxRecDepth 20000 in
theorem wX9_args_60 {dn : Nat} {g : Nat → List Nat → rx_H → Option (Nat × rx_H)} (hZ : zO b e D A X) (hg : ∀ i y M, vl6[i]? = some (y, M) → rx_Met (zV b e D A X) dn y M (g i)) (hd : 2 ≤ dn) (j : Nat → rx_K) (hj : ∀ k pc, [34][k]? = some pc → rx_OK (zV b e D A X) mX9_args (dn + 1) pc (j k)) : rx_OK (zV b e D A X) mX9_args (dn + 1) 60 (vX9_args_60 g j) := by
  unfold vX9_args_60
  refine s_aload hZ.1 dX9_args_60 ?_
  exact s_ifnonnull dX9_args_62 (by decide) (wX9_args_74 hZ hg hd j hj) (wX9_args_65 hZ hg hd j hj)
noncomputable def vX9_args_58 (g : Nat → List Nat → rx_H → Option (Nat × rx_H)) (j : Nat → rx_K) : rx_K := o_const 0 (o_ret1 rx_isZ)
set_option maxRecDepth 20000 in
theorem wX9_args_58 {dn : Nat} {g : Nat → List Nat → rx_H → Option (Nat × rx_H)} (hZ : zO b e D A X) (hg : ∀ i y M, vl6[i]? = some (y, M) → rx_Met (zV b e D A X) dn y M (g i)) (hd : 2 ≤ dn) (j : Nat → rx_K) (hj : ∀ k pc, [34][k]? = some pc → rx_OK (zV b e D A X) mX9_args (dn + 1) pc (j k)) : rx_OK (zV b e D A X) mX9_args (dn + 1) 58 (vX9_args_58 g j) := by
  unfold vX9_args_58
  refine s_iconst dX9_args_58 (by decide +kernel) ?_
  exact s_zret rx_z_ok rfl dX9_args_59
noncomputable def vX9_args_46 (g : Nat → List Nat → rx_H → Option (Nat × rx_H)) (j : Nat → rx_K) : rx_K := o_ld rx_isR 0 (o_ld rx_isI 2 (o_callV 1 9 (g 3) (o_st rx_isR 6 (o_ld rx_isR 6 (o_nul (vX9_args_58 g j) (vX9_args_60 g j))))))
set_option maxRecDepth 20000 in
theorem wX9_args_46 {dn : Nat} {g : Nat → List Nat → rx_H → Option (Nat × rx_H)} (hZ : zO b e D A X) (hg : ∀ i y M, vl6[i]? = some (y, M) → rx_Met (zV b e D A X) dn y M (g i)) (hd : 2 ≤ dn) (j : Nat → rx_K) (hj : ∀ k pc, [34][k]? = some pc → rx_OK (zV b e D A X) mX9_args (dn + 1) pc (j k)) : rx_OK (zV b e D A X) mX9_args (dn + 1) 46 (vX9_args_46 g j) := by
  unfold vX9_args_46
  refine s_aload_n hZ.1 dX9_args_46 rfl ?_
  refine s_iload_n hZ.1 dX9_args_47 rfl ?_
  refine s_callV hZ.1 (hg 3 _ _ rfl) (Nat.le_refl _) vy_X9_expr zcl9 zw1835 zw29 (Or.inl zw1833) dX9_args_48 ?_
  refine s_astore hZ.1 dX9_args_51 (Nat.le_of_ble_eq_true rfl) ?_
  refine s_aload hZ.1 dX9_args_53 ?_
  exact s_ifnonnull dX9_args_55 (by decide) (wX9_args_60 hZ hg hd j hj) (wX9_args_58 hZ hg hd j hj)
noncomputable def vX9_args_42 (g : Nat → List Nat → rx_H → Option (Nat × rx_H)) (j : Nat → rx_K) : rx_K := o_ld rx_isI 3 (o_c1 rx_eq (vX9_args_120 g j) (vX9_args_46 g j))
set_option maxRecDepth 20000 in
theorem wX9_args_42 {dn : Nat} {g : Nat → List Nat → rx_H → Option (Nat × rx_H)} (hZ : zO b e D A X) (hg : ∀ i y M, vl6[i]? = some (y, M) → rx_Met (zV b e D A X) dn y M (g i)) (hd : 2 ≤ dn) (j : Nat → rx_K) (hj : ∀ k pc, [34][k]? = some pc → rx_OK (zV b e D A X) mX9_args (dn + 1) pc (j k)) : rx_OK (zV b e D A X) mX9_args (dn + 1) 42 (vX9_args_42 g j) := by
  unfold vX9_args_42
  refine s_iload_n hZ.1 dX9_args_42 rfl ?_
  exact s_if_eq dX9_args_43 (by decide) (wX9_args_120 hZ hg hd j hj) (wX9_args_46 hZ hg hd j hj)
noncomputable def vX9_args_34 (g : Nat → List Nat → rx_H → Option (Nat × rx_H)) (j : Nat → rx_K) : rx_K := o_ld rx_isI 5 (o_const 5600 (o_c2 rx_lt (vX9_args_42 g j) (vX9_args_120 g j)))
set_option maxRecDepth 20000 in
theorem wX9_args_34 {dn : Nat} {g : Nat → List Nat → rx_H → Option (Nat × rx_H)} (hZ : zO b e D A X) (hg : ∀ i y M, vl6[i]? = some (y, M) → rx_Met (zV b e D A X) dn y M (g i)) (hd : 2 ≤ dn) (j : Nat → rx_K) (hj : ∀ k pc, [34][k]? = some pc → rx_OK (zV b e D A X) mX9_args (dn + 1) pc (j k)) : rx_OK (zV b e D A X) mX9_args (dn + 1) 34 (vX9_args_34 g j) := by
  unfold vX9_args_34
  refine s_iload hZ.1 dX9_args_34 ?_
  refine s_sipush dX9_args_36 (by decide +kernel) ?_
  exact s_icmp_ge dX9_args_39 (by decide) (wX9_args_120 hZ hg hd j hj) (wX9_args_42 hZ hg hd j hj)
noncomputable def vX9_args_27 (g : Nat → List Nat → rx_H → Option (Nat × rx_H)) (j : Nat → rx_K) : rx_K := o_st rx_isI 3 (o_const 3 (o_st rx_isR 4 (o_const 0 (o_st rx_isI 5 ((vX9_args_34 g j))))))
set_option maxRecDepth 20000 in
theorem wX9_args_27 {dn : Nat} {g : Nat → List Nat → rx_H → Option (Nat × rx_H)} (hZ : zO b e D A X) (hg : ∀ i y M, vl6[i]? = some (y, M) → rx_Met (zV b e D A X) dn y M (g i)) (hd : 2 ≤ dn) (j : Nat → rx_K) (hj : ∀ k pc, [34][k]? = some pc → rx_OK (zV b e D A X) mX9_args (dn + 1) pc (j k)) : rx_OK (zV b e D A X) mX9_args (dn + 1) 27 (vX9_args_27 g j) := by
  unfold vX9_args_27
  refine s_istore_n hZ.1 dX9_args_27 rfl (Nat.le_of_ble_eq_true rfl) ?_
  refine s_null dX9_args_28 ?_
  refine s_astore hZ.1 dX9_args_29 (Nat.le_of_ble_eq_true rfl) ?_
  refine s_iconst dX9_args_31 (by decide +kernel) ?_
  refine s_istore hZ.1 dX9_args_32 (Nat.le_of_ble_eq_true rfl) ?_
  exact (wX9_args_34 hZ hg hd j hj)
noncomputable def vX9_args_26 (g : Nat → List Nat → rx_H → Option (Nat × rx_H)) (j : Nat → rx_K) : rx_K := o_const 0 ((vX9_args_27 g j))
set_option maxRecDepth 20000 in
theorem wX9_args_26 {dn : Nat} {g : Nat → List Nat → rx_H → Option (Nat × rx_H)} (hZ : zO b e D A X) (hg : ∀ i y M, vl6[i]? = some (y, M) → rx_Met (zV b e D A X) dn y M (g i)) (hd : 2 ≤ dn) (j : Nat → rx_K) (hj : ∀ k pc, [34][k]? = some pc → rx_OK (zV b e D A X) mX9_args (dn + 1) pc (j k)) : rx_OK (zV b e D A X) mX9_args (dn + 1) 26 (vX9_args_26 g j) := by
  unfold vX9_args_26
  refine s_iconst dX9_args_26 (by decide +kernel) ?_
  exact (wX9_args_27 hZ hg hd j hj)
noncomputable def vX9_args_22 (g : Nat → List Nat → rx_H → Option (Nat × rx_H)) (j : Nat → rx_K) : rx_K := o_const 8 ((vX9_args_27 g j))
set_option maxRecDepth 20000 in
theorem wX9_args_22 {dn : Nat} {g : Nat → List Nat → rx_H → Option (Nat × rx_H)} (hZ : zO b e D A X) (hg : ∀ i y M, vl6[i]? = some (y, M) → rx_Met (zV b e D A X) dn y M (g i)) (hd : 2 ≤ dn) (j : Nat → rx_K) (hj : ∀ k pc, [34][k]? = some pc → rx_OK (zV b e D A X) mX9_args (dn + 1) pc (j k)) : rx_OK (zV b e D A X) mX9_args (dn + 1) 22 (vX9_args_22 g j) := by
  unfold vX9_args_22
  refine s_iconst dX9_args_22 (by decide +kernel) ?_
  exact s_goto dX9_args_23 (by decide) (wX9_args_27 hZ hg hd j hj)
noncomputable def vX9_args_12 (g : Nat → List Nat → rx_H → Option (Nat × rx_H)) (j : Nat → rx_K) : rx_K := o_ld rx_isR 0 (o_callV 0 9 FX9_now (o_const 1128 (o_c2 rx_eq (vX9_args_26 g j) (vX9_args_22 g j))))
set_option maxRecDepth 20000 in
theorem wX9_args_12 {dn : Nat} {g : Nat → List Nat → rx_H → Option (Nat × rx_H)} (hZ : zO b e D A X) (hg : ∀ i y M, vl6[i]? = some (y, M) → rx_Met (zV b e D A X) dn y M (g i)) (hd : 2 ≤ dn) (j : Nat → rx_K) (hj : ∀ k pc, [34][k]? = some pc → rx_OK (zV b e D A X) mX9_args (dn + 1) pc (j k)) : rx_OK (zV b e D A X) mX9_args (dn + 1) 12 (vX9_args_12 g j) := by
  unfold vX9_args_12
  refine s_aload_n hZ.1 dX9_args_12 rfl ?_
  refine s_callV hZ.1 (Met_X9_now hZ) (Nat.succ_le_succ (Nat.le_trans (Nat.le_of_ble_eq_true rfl) hd)) vy_X9_now zcl9 zw1746 zw12 (Or.inl zw1744) dX9_args_13 ?_
  refine s_sipush dX9_args_16 (by decide +kernel) ?_
  exact s_icmp_eq dX9_args_19 (by decide) (wX9_args_26 hZ hg hd j hj) (wX9_args_22 hZ hg hd j hj)
noncomputable def vX9_args_10 (g : Nat → List Nat → rx_H → Option (Nat × rx_H)) (j : Nat → rx_K) : rx_K := o_const 0 (o_ret1 rx_isZ)
set_option maxRecDepth 20000 in
theorem wX9_args_10 {dn : Nat} {g : Nat → List Nat → rx_H → Option (Nat × rx_H)} (hZ : zO b e D A X) (hg : ∀ i y M, vl6[i]? = some (y, M) → rx_Met (zV b e D A X) dn y M (g i)) (hd : 2 ≤ dn) (j : Nat → rx_K) (hj : ∀ k pc, [34][k]? = some pc → rx_OK (zV b e D A X) mX9_args (dn + 1) pc (j k)) : rx_OK (zV b e D A X) mX9_args (dn + 1) 10 (vX9_args_10 g j) := by
  unfold vX9_args_10
  refine s_iconst dX9_args_10 (by decide +kernel) ?_
  exact s_zret rx_z_ok rfl dX9_args_11
noncomputable def vX9_args_0 (g : Nat → List Nat → rx_H → Option (Nat × rx_H)) (j : Nat → rx_K) : rx_K := o_ld rx_isR 0 (o_const 1120 (o_callV 1 9 FX9_need (o_c1 rx_eq (vX9_args_10 g j) (vX9_args_12 g j))))
set_option maxRecDepth 20000 in
theorem wX9_args_0 {dn : Nat} {g : Nat → List Nat → rx_H → Option (Nat × rx_H)} (hZ : zO b e D A X) (hg : ∀ i y M, vl6[i]? = some (y, M) → rx_Met (zV b e D A X) dn y M (g i)) (hd : 2 ≤ dn) (j : Nat → rx_K) (hj : ∀ k pc, [34][k]? = some pc → rx_OK (zV b e D A X) mX9_args (dn + 1) pc (j k)) : rx_OK (zV b e D A X) mX9_args (dn + 1) 0 (vX9_args_0 g j) := by
  unfold vX9_args_0
  refine s_aload_n hZ.1 dX9_args_0 rfl ?_
  refine s_sipush dX9_args_1 (by decide +kernel) ?_
  refine s_callV hZ.1 (Met_X9_need hZ) (Nat.succ_le_succ (Nat.le_trans (Nat.le_of_ble_eq_true rfl) hd)) vy_X9_need zcl9 zw1779 zw19 (Or.inl zw1777) dX9_args_4 ?_
  exact s_if_ne dX9_args_7 (by decide) (wX9_args_12 hZ hg hd j hj) (wX9_args_10 hZ hg hd j hj)
noncomputable def vhX9_args (g : Nat → List Nat → rx_H → Option (Nat × rx_H)) (j : Nat → rx_K) : List rx_K := [vX9_args_34 g j]
theorem vlX9_args {dn : Nat} {g : Nat → List Nat → rx_H → Option (Nat × rx_H)} (hZ : zO b e D A X) (hg : ∀ i y M, vl6[i]? = some (y, M) → rx_Met (zV b e D A X) dn y M (g i)) (hd : 2 ≤ dn) : ∀ n k pc, [34][k]? = some pc → rx_OK (zV b e D A X) mX9_args (dn + 1) pc (rx_J (vhX9_args g) n k) := rx_loop fun j hj k pc h => by
  match k, h with
  | 0, h =>
    have e9 := Option.some.inj (show some 34 = some pc from h)
    subst e9
    exact wX9_args_34 hZ hg hd j hj
  | _ + 1, h => exact absurd h (by simp)
noncomputable def FX9_args (g : Nat → List Nat → rx_H → Option (Nat × rx_H)) : List Nat → rx_H → Option (Nat × rx_H) := rx_ent 7 (vX9_args_0 g (rx_J (vhX9_args g) 4000000000))
theorem Met_X9_args {dn : Nat} {g : Nat → List Nat → rx_H → Option (Nat × rx_H)} (hZ : zO b e D A X) (hg : ∀ i y M, vl6[i]? = some (y, M) → rx_Met (zV b e D A X) dn y M (g i)) (hd : 2 ≤ dn) : rx_Met (zV b e D A X) (dn + 1) yX9_args mX9_args (FX9_args g) := rx_entry hZ.1 (wX9_args_0 hZ hg hd _ (vlX9_args hZ hg hd 4000000000)) (by decide +kernel) rfl (fun h => by cases h)
noncomputable def vX9_behindUnit_110 (g : Nat → List Nat → rx_H → Option (Nat × rx_H)) : rx_K := o_ld rx_isR 3 (o_ret1 rx_isR)
set_option maxRecDepth 20000 in
theorem wX9_behindUnit_110 {dn : Nat} {g : Nat → List Nat → rx_H → Option (Nat × rx_H)} (hZ : zO b e D A X) (hg : ∀ i y M, vl6[i]? = some (y, M) → rx_Met (zV b e D A X) dn y M (g i)) (hd : 2 ≤ dn) : rx_OK (zV b e D A X) mX9_behindUnit (dn + 1) 110 (vX9_behindUnit_110 g) := by
  unfold vX9_behindUnit_110
  refine s_aload_n hZ.1 dX9_behindUnit_110 rfl ?_
  exact s_aret hZ.1 rfl (Or.inl ⟨_, rfl⟩) dX9_behindUnit_111
noncomputable def vX9_behindUnit_109 (g : Nat → List Nat → rx_H → Option (Nat × rx_H)) : rx_K := o_ret1 rx_isR
set_option maxRecDepth 20000 in
theorem wX9_behindUnit_109 {dn : Nat} {g : Nat → List Nat → rx_H → Option (Nat × rx_H)} (hZ : zO b e D A X) (hg : ∀ i y M, vl6[i]? = some (y, M) → rx_Met (zV b e D A X) dn y M (g i)) (hd : 2 ≤ dn) : rx_OK (zV b e D A X) mX9_behindUnit (dn + 1) 109 (vX9_behindUnit_109 g) := by
  unfold vX9_behindUnit_109
  exact s_aret hZ.1 rfl (Or.inl ⟨_, rfl⟩) dX9_behindUnit_109
noncomputable def vX9_behindUnit_108 (g : Nat → List Nat → rx_H → Option (Nat × rx_H)) : rx_K := o_const 3 ((vX9_behindUnit_109 g))
set_option maxRecDepth 20000 in
theorem wX9_behindUnit_108 {dn : Nat} {g : Nat → List Nat → rx_H → Option (Nat × rx_H)} (hZ : zO b e D A X) (hg : ∀ i y M, vl6[i]? = some (y, M) → rx_Met (zV b e D A X) dn y M (g i)) (hd : 2 ≤ dn) : rx_OK (zV b e D A X) mX9_behindUnit (dn + 1) 108 (vX9_behindUnit_108 g) := by
  unfold vX9_behindUnit_108
  refine s_null dX9_behindUnit_108 ?_
  exact (wX9_behindUnit_109 hZ hg hd)
noncomputable def vX9_behindUnit_104 (g : Nat → List Nat → rx_H → Option (Nat × rx_H)) : rx_K := o_ld rx_isR 3 ((vX9_behindUnit_109 g))
set_option maxRecDepth 20000 in
theorem wX9_behindUnit_104 {dn : Nat} {g : Nat → List Nat → rx_H → Option (Nat × rx_H)} (hZ : zO b e D A X) (hg : ∀ i y M, vl6[i]? = some (y, M) → rx_Met (zV b e D A X) dn y M (g i)) (hd : 2 ≤ dn) : rx_OK (zV b e D A X) mX9_behindUnit (dn + 1) 104 (vX9_behindUnit_104 g) := by
  unfold vX9_behindUnit_104
  refine s_aload_n hZ.1 dX9_behindUnit_104 rfl ?_
  exact s_goto dX9_behindUnit_105 (by decide) (wX9_behindUnit_109 hZ hg hd)
noncomputable def vX9_behindUnit_89 (g : Nat → List Nat → rx_H → Option (Nat × rx_H)) : rx_K := o_ld rx_isR 3 (o_const 120 (o_putf rx_isI 8 0 (o_ld rx_isR 0 (o_ld rx_isR 3 (o_ld rx_isI 1 (o_callV 2 9 (g 0) (o_c1 rx_eq (vX9_behindUnit_108 g) (vX9_behindUnit_104 g))))))))
set_option maxRecDepth 20000 in
theorem wX9_behindUnit_89 {dn : Nat} {g : Nat → List Nat → rx_H → Option (Nat × rx_H)} (hZ : zO b e D A X) (hg : ∀ i y M, vl6[i]? = some (y, M) → rx_Met (zV b e D A X) dn y M (g i)) (hd : 2 ≤ dn) : rx_OK (zV b e D A X) mX9_behindUnit (dn + 1) 89 (vX9_behindUnit_89 g) := by
  unfold vX9_behindUnit_89
  refine s_aload_n hZ.1 dX9_behindUnit_89 rfl ?_
  refine s_bipush dX9_behindUnit_90 (by decide +kernel) ?_
  refine yp8_0 hZ.1 dX9_behindUnit_92 zw460 ?_
  refine s_aload_n hZ.1 dX9_behindUnit_95 rfl ?_
  refine s_aload_n hZ.1 dX9_behindUnit_96 rfl ?_
  refine s_iload_n hZ.1 dX9_behindUnit_97 rfl ?_
  refine s_callV hZ.1 (hg 0 _ _ rfl) (Nat.le_refl _) vy_X9_args zcl9 zw1831 zw28 (Or.inl zw1829) dX9_behindUnit_98 ?_
  exact s_if_eq dX9_behindUnit_101 (by decide) (wX9_behindUnit_108 hZ hg hd) (wX9_behindUnit_104 hZ hg hd)
noncomputable def vX9_behindUnit_79 (g : Nat → List Nat → rx_H → Option (Nat × rx_H)) : rx_K := o_ld rx_isR 0 (o_callV 0 9 FX9_now (o_const 1120 (o_c2 rx_eq (vX9_behindUnit_89 g) (vX9_behindUnit_110 g))))
set_option maxRecDepth 20000 in
theorem wX9_behindUnit_79 {dn : Nat} {g : Nat → List Nat → rx_H → Option (Nat × rx_H)} (hZ : zO b e D A X) (hg : ∀ i y M, vl6[i]? = some (y, M) → rx_Met (zV b e D A X) dn y M (g i)) (hd : 2 ≤ dn) : rx_OK (zV b e D A X) mX9_behindUnit (dn + 1) 79 (vX9_behindUnit_79 g) := by
  unfold vX9_behindUnit_79
  refine s_aload_n hZ.1 dX9_behindUnit_79 rfl ?_
  refine s_callV hZ.1 (Met_X9_now hZ) (Nat.succ_le_succ (Nat.le_trans (Nat.le_of_ble_eq_true rfl) hd)) vy_X9_now zcl9 zw1746 zw12 (Or.inl zw1744) dX9_behindUnit_80 ?_
  refine s_sipush dX9_behindUnit_83 (by decide +kernel) ?_
  exact s_icmp_ne dX9_behindUnit_86 (by decide) (wX9_behindUnit_110 hZ hg hd) (wX9_behindUnit_89 hZ hg hd)
noncomputable def vX9_behindUnit_75 (g : Nat → List Nat → rx_H → Option (Nat × rx_H)) : rx_K := o_ld rx_isI 2 (o_c1 rx_eq (vX9_behindUnit_79 g) (vX9_behindUnit_110 g))
set_option maxRecDepth 20000 in
theorem wX9_behindUnit_75 {dn : Nat} {g : Nat → List Nat → rx_H → Option (Nat × rx_H)} (hZ : zO b e D A X) (hg : ∀ i y M, vl6[i]? = some (y, M) → rx_Met (zV b e D A X) dn y M (g i)) (hd : 2 ≤ dn) : rx_OK (zV b e D A X) mX9_behindUnit (dn + 1) 75 (vX9_behindUnit_75 g) := by
  unfold vX9_behindUnit_75
  refine s_iload_n hZ.1 dX9_behindUnit_75 rfl ?_
  exact s_if_ne dX9_behindUnit_76 (by decide) (wX9_behindUnit_110 hZ hg hd) (wX9_behindUnit_79 hZ hg hd)
noncomputable def vX9_behindUnit_73 (g : Nat → List Nat → rx_H → Option (Nat × rx_H)) : rx_K := o_const 3 (o_ret1 rx_isR)
set_option maxRecDepth 20000 in
theorem wX9_behindUnit_73 {dn : Nat} {g : Nat → List Nat → rx_H → Option (Nat × rx_H)} (hZ : zO b e D A X) (hg : ∀ i y M, vl6[i]? = some (y, M) → rx_Met (zV b e D A X) dn y M (g i)) (hd : 2 ≤ dn) : rx_OK (zV b e D A X) mX9_behindUnit (dn + 1) 73 (vX9_behindUnit_73 g) := by
  unfold vX9_behindUnit_73
  refine s_null dX9_behindUnit_73 ?_
  exact s_aret hZ.1 rfl (Or.inl ⟨_, rfl⟩) dX9_behindUnit_74
noncomputable def vX9_behindUnit_67 (g : Nat → List Nat → rx_H → Option (Nat × rx_H)) : rx_K := o_callV 1 9 FX9_need (o_c1 rx_eq (vX9_behindUnit_73 g) (vX9_behindUnit_75 g))
set_option maxRecDepth 20000 in
theorem wX9_behindUnit_67 {dn : Nat} {g : Nat → List Nat → rx_H → Option (Nat × rx_H)} (hZ : zO b e D A X) (hg : ∀ i y M, vl6[i]? = some (y, M) → rx_Met (zV b e D A X) dn y M (g i)) (hd : 2 ≤ dn) : rx_OK (zV b e D A X) mX9_behindUnit (dn + 1) 67 (vX9_behindUnit_67 g) := by
  unfold vX9_behindUnit_67
  refine s_callV hZ.1 (Met_X9_need hZ) (Nat.succ_le_succ (Nat.le_trans (Nat.le_of_ble_eq_true rfl) hd)) vy_X9_need zcl9 zw1779 zw19 (Or.inl zw1777) dX9_behindUnit_67 ?_
  exact s_if_ne dX9_behindUnit_70 (by decide) (wX9_behindUnit_75 hZ hg hd) (wX9_behindUnit_73 hZ hg hd)
noncomputable def vX9_behindUnit_66 (g : Nat → List Nat → rx_H → Option (Nat × rx_H)) : rx_K := o_const 24 ((vX9_behindUnit_67 g))
set_option maxRecDepth 20000 in
theorem wX9_behindUnit_66 {dn : Nat} {g : Nat → List Nat → rx_H → Option (Nat × rx_H)} (hZ : zO b e D A X) (hg : ∀ i y M, vl6[i]? = some (y, M) → rx_Met (zV b e D A X) dn y M (g i)) (hd : 2 ≤ dn) : rx_OK (zV b e D A X) mX9_behindUnit (dn + 1) 66 (vX9_behindUnit_66 g) := by
  unfold vX9_behindUnit_66
  refine s_iconst dX9_behindUnit_66 (by decide +kernel) ?_
  exact (wX9_behindUnit_67 hZ hg hd)
noncomputable def vX9_behindUnit_62 (g : Nat → List Nat → rx_H → Option (Nat × rx_H)) : rx_K := o_const 16 ((vX9_behindUnit_67 g))
set_option maxRecDepth 20000 in
theorem wX9_behindUnit_62 {dn : Nat} {g : Nat → List Nat → rx_H → Option (Nat × rx_H)} (hZ : zO b e D A X) (hg : ∀ i y M, vl6[i]? = some (y, M) → rx_Met (zV b e D A X) dn y M (g i)) (hd : 2 ≤ dn) : rx_OK (zV b e D A X) mX9_behindUnit (dn + 1) 62 (vX9_behindUnit_62 g) := by
  unfold vX9_behindUnit_62
  refine s_iconst dX9_behindUnit_62 (by decide +kernel) ?_
  exact s_goto dX9_behindUnit_63 (by decide) (wX9_behindUnit_67 hZ hg hd)
noncomputable def vX9_behindUnit_36 (g : Nat → List Nat → rx_H → Option (Nat × rx_H)) : rx_K := o_ld rx_isR 0 (o_getf 9 8 (o_callV 2 9 FX9_node (o_st rx_isR 3 (o_ld rx_isR 3 (o_ld rx_isR 0 (o_getf 9 4 (o_ld rx_isR 0 (o_getf 9 8 (o_ald 1 (o_putf rx_isL 8 10 (o_ld rx_isR 0 (o_ld rx_isI 2 (o_c1 rx_eq (vX9_behindUnit_66 g) (vX9_behindUnit_62 g))))))))))))))
set_option maxRecDepth 20000 in
theorem wX9_behindUnit_36 {dn : Nat} {g : Nat → List Nat → rx_H → Option (Nat × rx_H)} (hZ : zO b e D A X) (hg : ∀ i y M, vl6[i]? = some (y, M) → rx_Met (zV b e D A X) dn y M (g i)) (hd : 2 ≤ dn) : rx_OK (zV b e D A X) mX9_behindUnit (dn + 1) 36 (vX9_behindUnit_36 g) := by
  unfold vX9_behindUnit_36
  refine s_aload_n hZ.1 dX9_behindUnit_36 rfl ?_
  refine yg9_8 dX9_behindUnit_37 zw592 ?_
  refine s_callV hZ.1 (Met_X9_node hZ) (Nat.succ_le_succ (Nat.le_trans (Nat.le_of_ble_eq_true rfl) hd)) vy_X9_node zcl9 zw1811 zw25 (Or.inl zw1809) dX9_behindUnit_40 ?_
  refine s_astore_n hZ.1 dX9_behindUnit_43 rfl (Nat.le_of_ble_eq_true rfl) ?_
  refine s_aload_n hZ.1 dX9_behindUnit_44 rfl ?_
  refine s_aload_n hZ.1 dX9_behindUnit_45 rfl ?_
  refine yg9_4 dX9_behindUnit_46 zw586 ?_
  refine s_aload_n hZ.1 dX9_behindUnit_49 rfl ?_
  refine yg9_8 dX9_behindUnit_50 zw592 ?_
  refine s_lald (tt := 1) rfl dX9_behindUnit_53 ?_
  refine yp8_10 hZ.1 dX9_behindUnit_54 zw497 ?_
  refine s_aload_n hZ.1 dX9_behindUnit_57 rfl ?_
  refine s_iload_n hZ.1 dX9_behindUnit_58 rfl ?_
  exact s_if_eq dX9_behindUnit_59 (by decide) (wX9_behindUnit_66 hZ hg hd) (wX9_behindUnit_62 hZ hg hd)
noncomputable def vX9_behindUnit_34 (g : Nat → List Nat → rx_H → Option (Nat × rx_H)) : rx_K := o_const 112 ((vX9_behindUnit_36 g))
set_option maxRecDepth 20000 in
theorem wX9_behindUnit_34 {dn : Nat} {g : Nat → List Nat → rx_H → Option (Nat × rx_H)} (hZ : zO b e D A X) (hg : ∀ i y M, vl6[i]? = some (y, M) → rx_Met (zV b e D A X) dn y M (g i)) (hd : 2 ≤ dn) : rx_OK (zV b e D A X) mX9_behindUnit (dn + 1) 34 (vX9_behindUnit_34 g) := by
  unfold vX9_behindUnit_34
  refine s_bipush dX9_behindUnit_34 (by decide +kernel) ?_
  exact (wX9_behindUnit_36 hZ hg hd)
noncomputable def vX9_behindUnit_29 (g : Nat → List Nat → rx_H → Option (Nat × rx_H)) : rx_K := o_const 128 ((vX9_behindUnit_36 g))
set_option maxRecDepth 20000 in
theorem wX9_behindUnit_29 {dn : Nat} {g : Nat → List Nat → rx_H → Option (Nat × rx_H)} (hZ : zO b e D A X) (hg : ∀ i y M, vl6[i]? = some (y, M) → rx_Met (zV b e D A X) dn y M (g i)) (hd : 2 ≤ dn) : rx_OK (zV b e D A X) mX9_behindUnit (dn + 1) 29 (vX9_behindUnit_29 g) := by
  unfold vX9_behindUnit_29
  refine s_bipush dX9_behindUnit_29 (by decide +kernel) ?_
  exact s_goto dX9_behindUnit_31 (by decide) (wX9_behindUnit_36 hZ hg hd)
noncomputable def vX9_behindUnit_24 (g : Nat → List Nat → rx_H → Option (Nat × rx_H)) : rx_K := o_ld rx_isR 0 (o_ld rx_isI 2 (o_c1 rx_eq (vX9_behindUnit_34 g) (vX9_behindUnit_29 g)))
set_option maxRecDepth 20000 in
theorem wX9_behindUnit_24 {dn : Nat} {g : Nat → List Nat → rx_H → Option (Nat × rx_H)} (hZ : zO b e D A X) (hg : ∀ i y M, vl6[i]? = some (y, M) → rx_Met (zV b e D A X) dn y M (g i)) (hd : 2 ≤ dn) : rx_OK (zV b e D A X) mX9_behindUnit (dn + 1) 24 (vX9_behindUnit_24 g) := by
  unfold vX9_behindUnit_24
  refine s_aload_n hZ.1 dX9_behindUnit_24 rfl ?_
  refine s_iload_n hZ.1 dX9_behindUnit_25 rfl ?_
  exact s_if_eq dX9_behindUnit_26 (by decide) (wX9_behindUnit_34 hZ hg hd) (wX9_behindUnit_29 hZ hg hd)
noncomputable def vX9_behindUnit_22 (g : Nat → List Nat → rx_H → Option (Nat × rx_H)) : rx_K := o_const 3 (o_ret1 rx_isR)
set_option maxRecDepth 20000 in
theorem wX9_behindUnit_22 {dn : Nat} {g : Nat → List Nat → rx_H → Option (Nat × rx_H)} (hZ : zO b e D A X) (hg : ∀ i y M, vl6[i]? = some (y, M) → rx_Met (zV b e D A X) dn y M (g i)) (hd : 2 ≤ dn) : rx_OK (zV b e D A X) mX9_behindUnit (dn + 1) 22 (vX9_behindUnit_22 g) := by
  unfold vX9_behindUnit_22
  refine s_null dX9_behindUnit_22 ?_
  exact s_aret hZ.1 rfl (Or.inl ⟨_, rfl⟩) dX9_behindUnit_23
noncomputable def vX9_behindUnit_14 (g : Nat → List Nat → rx_H → Option (Nat × rx_H)) : rx_K := o_st rx_isI 2 (o_ld rx_isR 0 (o_callV 0 9 FX9_take (o_c1 rx_eq (vX9_behindUnit_22 g) (vX9_behindUnit_24 g))))
set_option maxRecDepth 20000 in
theorem wX9_behindUnit_14 {dn : Nat} {g : Nat → List Nat → rx_H → Option (Nat × rx_H)} (hZ : zO b e D A X) (hg : ∀ i y M, vl6[i]? = some (y, M) → rx_Met (zV b e D A X) dn y M (g i)) (hd : 2 ≤ dn) : rx_OK (zV b e D A X) mX9_behindUnit (dn + 1) 14 (vX9_behindUnit_14 g) := by
  unfold vX9_behindUnit_14
  refine s_istore_n hZ.1 dX9_behindUnit_14 rfl (Nat.le_of_ble_eq_true rfl) ?_
  refine s_aload_n hZ.1 dX9_behindUnit_15 rfl ?_
  refine s_callV hZ.1 (Met_X9_take hZ) (Nat.succ_le_succ (Nat.le_trans (Nat.le_of_ble_eq_true rfl) hd)) vy_X9_take zcl9 zw1754 zw14 (Or.inl zw1752) dX9_behindUnit_16 ?_
  exact s_if_ne dX9_behindUnit_19 (by decide) (wX9_behindUnit_24 hZ hg hd) (wX9_behindUnit_22 hZ hg hd)
noncomputable def vX9_behindUnit_13 (g : Nat → List Nat → rx_H → Option (Nat × rx_H)) : rx_K := o_const 0 ((vX9_behindUnit_14 g))
set_option maxRecDepth 20000 in
theorem wX9_behindUnit_13 {dn : Nat} {g : Nat → List Nat → rx_H → Option (Nat × rx_H)} (hZ : zO b e D A X) (hg : ∀ i y M, vl6[i]? = some (y, M) → rx_Met (zV b e D A X) dn y M (g i)) (hd : 2 ≤ dn) : rx_OK (zV b e D A X) mX9_behindUnit (dn + 1) 13 (vX9_behindUnit_13 g) := by
  unfold vX9_behindUnit_13
  refine s_iconst dX9_behindUnit_13 (by decide +kernel) ?_
  exact (wX9_behindUnit_14 hZ hg hd)
noncomputable def vX9_behindUnit_9 (g : Nat → List Nat → rx_H → Option (Nat × rx_H)) : rx_K := o_const 8 ((vX9_behindUnit_14 g))
set_option maxRecDepth 20000 in
theorem wX9_behindUnit_9 {dn : Nat} {g : Nat → List Nat → rx_H → Option (Nat × rx_H)} (hZ : zO b e D A X) (hg : ∀ i y M, vl6[i]? = some (y, M) → rx_Met (zV b e D A X) dn y M (g i)) (hd : 2 ≤ dn) : rx_OK (zV b e D A X) mX9_behindUnit (dn + 1) 9 (vX9_behindUnit_9 g) := by
  unfold vX9_behindUnit_9
  refine s_iconst dX9_behindUnit_9 (by decide +kernel) ?_
  exact s_goto dX9_behindUnit_10 (by decide) (wX9_behindUnit_14 hZ hg hd)
noncomputable def vX9_behindUnit_0 (g : Nat → List Nat → rx_H → Option (Nat × rx_H)) : rx_K := o_ld rx_isR 0 (o_callV 0 9 FX9_now (o_const 312 (o_c2 rx_eq (vX9_behindUnit_9 g) (vX9_behindUnit_13 g))))
set_option maxRecDepth 20000 in
theorem wX9_behindUnit_0 {dn : Nat} {g : Nat → List Nat → rx_H → Option (Nat × rx_H)} (hZ : zO b e D A X) (hg : ∀ i y M, vl6[i]? = some (y, M) → rx_Met (zV b e D A X) dn y M (g i)) (hd : 2 ≤ dn) : rx_OK (zV b e D A X) mX9_behindUnit (dn + 1) 0 (vX9_behindUnit_0 g) := by
  unfold vX9_behindUnit_0
  refine s_aload_n hZ.1 dX9_behindUnit_0 rfl ?_
  refine s_callV hZ.1 (Met_X9_now hZ) (Nat.succ_le_succ (Nat.le_trans (Nat.le_of_ble_eq_true rfl) hd)) vy_X9_now zcl9 zw1746 zw12 (Or.inl zw1744) dX9_behindUnit_1 ?_
  refine s_bipush dX9_behindUnit_4 (by decide +kernel) ?_
  exact s_icmp_ne dX9_behindUnit_6 (by decide) (wX9_behindUnit_13 hZ hg hd) (wX9_behindUnit_9 hZ hg hd)
noncomputable def FX9_behindUnit (g : Nat → List Nat → rx_H → Option (Nat × rx_H)) : List Nat → rx_H → Option (Nat × rx_H) := rx_ent 4 (vX9_behindUnit_0 g)
theorem Met_X9_behindUnit {dn : Nat} {g : Nat → List Nat → rx_H → Option (Nat × rx_H)} (hZ : zO b e D A X) (hg : ∀ i y M, vl6[i]? = some (y, M) → rx_Met (zV b e D A X) dn y M (g i)) (hd : 2 ≤ dn) : rx_Met (zV b e D A X) (dn + 1) yX9_behindUnit mX9_behindUnit (FX9_behindUnit g) := rx_entry hZ.1 (wX9_behindUnit_0 hZ hg hd) (by decide +kernel) rfl (fun h => by cases h)
noncomputable def vX9_chain_146 (g : Nat → List Nat → rx_H → Option (Nat × rx_H)) (j : Nat → rx_K) : rx_K := o_ret1 rx_isR
set_option maxRecDepth 20000 in
theorem wX9_chain_146 {dn : Nat} {g : Nat → List Nat → rx_H → Option (Nat × rx_H)} (hZ : zO b e D A X) (hg : ∀ i y M, vl6[i]? = some (y, M) → rx_Met (zV b e D A X) dn y M (g i)) (hd : 2 ≤ dn) (j : Nat → rx_K) (hj : ∀ k pc, [25][k]? = some pc → rx_OK (zV b e D A X) mX9_chain (dn + 1) pc (j k)) : rx_OK (zV b e D A X) mX9_chain (dn + 1) 146 (vX9_chain_146 g j) := by
  unfold vX9_chain_146
  exact s_aret hZ.1 rfl (Or.inl ⟨_, rfl⟩) dX9_chain_146
noncomputable def vX9_chain_144 (g : Nat → List Nat → rx_H → Option (Nat × rx_H)) (j : Nat → rx_K) : rx_K := o_ld rx_isR 4 ((vX9_chain_146 g j))
set_option maxRecDepth 20000 in
theorem wX9_chain_144 {dn : Nat} {g : Nat → List Nat → rx_H → Option (Nat × rx_H)} (hZ : zO b e D A X) (hg : ∀ i y M, vl6[i]? = some (y, M) → rx_Met (zV b e D A X) dn y M (g i)) (hd : 2 ≤ dn) (j : Nat → rx_K) (hj : ∀ k pc, [25][k]? = some pc → rx_OK (zV b e D A X) mX9_chain (dn + 1) pc (j k)) : rx_OK (zV b e D A X) mX9_chain (dn + 1) 144 (vX9_chain_144 g j) := by
  unfold vX9_chain_144
  refine s_aload hZ.1 dX9_chain_144 ?_
  exact (wX9_chain_146 hZ hg hd j hj)
noncomputable def vX9_chain_140 (g : Nat → List Nat → rx_H → Option (Nat × rx_H)) (j : Nat → rx_K) : rx_K := o_const 3 ((vX9_chain_146 g j))
set_option maxRecDepth 20000 in
theorem wX9_chain_140 {dn : Nat} {g : Nat → List Nat → rx_H → Option (Nat × rx_H)} (hZ : zO b e D A X) (hg : ∀ i y M, vl6[i]? = some (y, M) → rx_Met (zV b e D A X) dn y M (g i)) (hd : 2 ≤ dn) (j : Nat → rx_K) (hj : ∀ k pc, [25][k]? = some pc → rx_OK (zV b e D A X) mX9_chain (dn + 1) pc (j k)) : rx_OK (zV b e D A X) mX9_chain (dn + 1) 140 (vX9_chain_140 g j) := by
  unfold vX9_chain_140
  refine s_null dX9_chain_140 ?_
  exact s_goto dX9_chain_141 (by decide) (wX9_chain_146 hZ hg hd j hj)
noncomputable def vX9_chain_136 (g : Nat → List Nat → rx_H → Option (Nat × rx_H)) (j : Nat → rx_K) : rx_K := o_ld rx_isR 3 (o_nul (vX9_chain_140 g j) (vX9_chain_144 g j))
set_option maxRecDepth 20000 in
theorem wX9_chain_136 {dn : Nat} {g : Nat → List Nat → rx_H → Option (Nat × rx_H)} (hZ : zO b e D A X) (hg : ∀ i y M, vl6[i]? = some (y, M) → rx_Met (zV b e D A X) dn y M (g i)) (hd : 2 ≤ dn) (j : Nat → rx_K) (hj : ∀ k pc, [25][k]? = some pc → rx_OK (zV b e D A X) mX9_chain (dn + 1) pc (j k)) : rx_OK (zV b e D A X) mX9_chain (dn + 1) 136 (vX9_chain_136 g j) := by
  unfold vX9_chain_136
  refine s_aload_n hZ.1 dX9_chain_136 rfl ?_
  exact s_ifnonnull dX9_chain_137 (by decide) (wX9_chain_144 hZ hg hd j hj) (wX9_chain_140 hZ hg hd j hj)
noncomputable def vX9_chain_121 (g : Nat → List Nat → rx_H → Option (Nat × rx_H)) (j : Nat → rx_K) : rx_K := o_ld rx_isR 3 (o_ld rx_isR 7 (o_putf rx_isR 8 8 (o_ld rx_isR 7 (o_st rx_isR 3 (o_inc 5 (1) ((j 0)))))))
set_option maxRecDepth 20000 in
theorem wX9_chain_121 {dn : Nat} {g : Nat → List Nat → rx_H → Option (Nat × rx_H)} (hZ : zO b e D A X) (hg : ∀ i y M, vl6[i]? = some (y, M) → rx_Met (zV b e D A X) dn y M (g i)) (hd : 2 ≤ dn) (j : Nat → rx_K) (hj : ∀ k pc, [25][k]? = some pc → rx_OK (zV b e D A X) mX9_chain (dn + 1) pc (j k)) : rx_OK (zV b e D A X) mX9_chain (dn + 1) 121 (vX9_chain_121 g j) := by
  unfold vX9_chain_121
  refine s_aload_n hZ.1 dX9_chain_121 rfl ?_
  refine s_aload hZ.1 dX9_chain_122 ?_
  refine yp8_8 hZ.1 dX9_chain_124 zw489 ?_
  refine s_aload hZ.1 dX9_chain_127 ?_
  refine s_astore_n hZ.1 dX9_chain_129 rfl (Nat.le_of_ble_eq_true rfl) ?_
  refine s_iinc hZ.1 dX9_chain_130 (Nat.le_of_ble_eq_true rfl) ?_
  exact s_goto dX9_chain_133 (by decide) (hj 0 25 rfl)
noncomputable def vX9_chain_114 (g : Nat → List Nat → rx_H → Option (Nat × rx_H)) (j : Nat → rx_K) : rx_K := o_ld rx_isR 7 (o_ld rx_isI 6 (o_putf rx_isI 8 3 ((vX9_chain_121 g j))))
set_option maxRecDepth 20000 in
theorem wX9_chain_114 {dn : Nat} {g : Nat → List Nat → rx_H → Option (Nat × rx_H)} (hZ : zO b e D A X) (hg : ∀ i y M, vl6[i]? = some (y, M) → rx_Met (zV b e D A X) dn y M (g i)) (hd : 2 ≤ dn) (j : Nat → rx_K) (hj : ∀ k pc, [25][k]? = some pc → rx_OK (zV b e D A X) mX9_chain (dn + 1) pc (j k)) : rx_OK (zV b e D A X) mX9_chain (dn + 1) 114 (vX9_chain_114 g j) := by
  unfold vX9_chain_114
  refine s_aload hZ.1 dX9_chain_114 ?_
  refine s_iload hZ.1 dX9_chain_116 ?_
  refine yp8_3 hZ.1 dX9_chain_118 zw470 ?_
  exact (wX9_chain_121 hZ hg hd j hj)
noncomputable def vX9_chain_107 (g : Nat → List Nat → rx_H → Option (Nat × rx_H)) (j : Nat → rx_K) : rx_K := o_st rx_isR 7 (o_ld rx_isR 7 (o_nul (vX9_chain_121 g j) (vX9_chain_114 g j)))
set_option maxRecDepth 20000 in
theorem wX9_chain_107 {dn : Nat} {g : Nat → List Nat → rx_H → Option (Nat × rx_H)} (hZ : zO b e D A X) (hg : ∀ i y M, vl6[i]? = some (y, M) → rx_Met (zV b e D A X) dn y M (g i)) (hd : 2 ≤ dn) (j : Nat → rx_K) (hj : ∀ k pc, [25][k]? = some pc → rx_OK (zV b e D A X) mX9_chain (dn + 1) pc (j k)) : rx_OK (zV b e D A X) mX9_chain (dn + 1) 107 (vX9_chain_107 g j) := by
  unfold vX9_chain_107
  refine s_astore hZ.1 dX9_chain_107 (Nat.le_of_ble_eq_true rfl) ?_
  refine s_aload hZ.1 dX9_chain_109 ?_
  exact s_ifnull dX9_chain_111 (by decide) (wX9_chain_121 hZ hg hd j hj) (wX9_chain_114 hZ hg hd j hj)
noncomputable def vX9_chain_102 (g : Nat → List Nat → rx_H → Option (Nat × rx_H)) (j : Nat → rx_K) : rx_K := o_ld rx_isR 0 (o_ld rx_isI 1 (o_callV 1 9 (g 8) ((vX9_chain_107 g j))))
set_option maxRecDepth 20000 in
theorem wX9_chain_102 {dn : Nat} {g : Nat → List Nat → rx_H → Option (Nat × rx_H)} (hZ : zO b e D A X) (hg : ∀ i y M, vl6[i]? = some (y, M) → rx_Met (zV b e D A X) dn y M (g i)) (hd : 2 ≤ dn) (j : Nat → rx_K) (hj : ∀ k pc, [25][k]? = some pc → rx_OK (zV b e D A X) mX9_chain (dn + 1) pc (j k)) : rx_OK (zV b e D A X) mX9_chain (dn + 1) 102 (vX9_chain_102 g j) := by
  unfold vX9_chain_102
  refine s_aload_n hZ.1 dX9_chain_102 rfl ?_
  refine s_iload_n hZ.1 dX9_chain_103 rfl ?_
  refine s_callV hZ.1 (hg 8 _ _ rfl) (Nat.le_refl _) vy_X9_unit zcl9 zw1843 zw31 (Or.inl zw1841) dX9_chain_104 ?_
  exact (wX9_chain_107 hZ hg hd j hj)
noncomputable def vX9_chain_93 (g : Nat → List Nat → rx_H → Option (Nat × rx_H)) (j : Nat → rx_K) : rx_K := o_ld rx_isR 0 (o_ld rx_isI 1 (o_const 0 (o_callV 2 9 (g 2) ((vX9_chain_107 g j)))))
set_option maxRecDepth 20000 in
theorem wX9_chain_93 {dn : Nat} {g : Nat → List Nat → rx_H → Option (Nat × rx_H)} (hZ : zO b e D A X) (hg : ∀ i y M, vl6[i]? = some (y, M) → rx_Met (zV b e D A X) dn y M (g i)) (hd : 2 ≤ dn) (j : Nat → rx_K) (hj : ∀ k pc, [25][k]? = some pc → rx_OK (zV b e D A X) mX9_chain (dn + 1) pc (j k)) : rx_OK (zV b e D A X) mX9_chain (dn + 1) 93 (vX9_chain_93 g j) := by
  unfold vX9_chain_93
  refine s_aload_n hZ.1 dX9_chain_93 rfl ?_
  refine s_iload_n hZ.1 dX9_chain_94 rfl ?_
  refine s_iconst dX9_chain_95 (by decide +kernel) ?_
  refine s_callV hZ.1 (hg 2 _ _ rfl) (Nat.le_refl _) vy_X9_chain zcl9 zw1839 zw30 (Or.inl zw1837) dX9_chain_96 ?_
  exact s_goto dX9_chain_99 (by decide) (wX9_chain_107 hZ hg hd j hj)
noncomputable def vX9_chain_89 (g : Nat → List Nat → rx_H → Option (Nat × rx_H)) (j : Nat → rx_K) : rx_K := o_ld rx_isI 2 (o_c1 rx_eq (vX9_chain_102 g j) (vX9_chain_93 g j))
set_option maxRecDepth 20000 in
theorem wX9_chain_89 {dn : Nat} {g : Nat → List Nat → rx_H → Option (Nat × rx_H)} (hZ : zO b e D A X) (hg : ∀ i y M, vl6[i]? = some (y, M) → rx_Met (zV b e D A X) dn y M (g i)) (hd : 2 ≤ dn) (j : Nat → rx_K) (hj : ∀ k pc, [25][k]? = some pc → rx_OK (zV b e D A X) mX9_chain (dn + 1) pc (j k)) : rx_OK (zV b e D A X) mX9_chain (dn + 1) 89 (vX9_chain_89 g j) := by
  unfold vX9_chain_89
  refine s_iload_n hZ.1 dX9_chain_89 rfl ?_
  exact s_if_eq dX9_chain_90 (by decide) (wX9_chain_102 hZ hg hd j hj) (wX9_chain_93 hZ hg hd j hj)
noncomputable def vX9_chain_85 (g : Nat → List Nat → rx_H → Option (Nat × rx_H)) (j : Nat → rx_K) : rx_K := o_const 3 ((vX9_chain_107 g j))
set_option maxRecDepth 20000 in
theorem wX9_chain_85 {dn : Nat} {g : Nat → List Nat → rx_H → Option (Nat × rx_H)} (hZ : zO b e D A X) (hg : ∀ i y M, vl6[i]? = some (y, M) → rx_Met (zV b e D A X) dn y M (g i)) (hd : 2 ≤ dn) (j : Nat → rx_K) (hj : ∀ k pc, [25][k]? = some pc → rx_OK (zV b e D A X) mX9_chain (dn + 1) pc (j k)) : rx_OK (zV b e D A X) mX9_chain (dn + 1) 85 (vX9_chain_85 g j) := by
  unfold vX9_chain_85
  refine s_null dX9_chain_85 ?_
  exact s_goto dX9_chain_86 (by decide) (wX9_chain_107 hZ hg hd j hj)
noncomputable def vX9_chain_72 (g : Nat → List Nat → rx_H → Option (Nat × rx_H)) (j : Nat → rx_K) : rx_K := o_ld rx_isR 0 (o_callV 0 9 FX9_now (o_st rx_isI 6 (o_ld rx_isR 0 (o_callV 0 9 FX9_take (o_c1 rx_eq (vX9_chain_85 g j) (vX9_chain_89 g j))))))
set_option maxRecDepth 20000 in
theorem wX9_chain_72 {dn : Nat} {g : Nat → List Nat → rx_H → Option (Nat × rx_H)} (hZ : zO b e D A X) (hg : ∀ i y M, vl6[i]? = some (y, M) → rx_Met (zV b e D A X) dn y M (g i)) (hd : 2 ≤ dn) (j : Nat → rx_K) (hj : ∀ k pc, [25][k]? = some pc → rx_OK (zV b e D A X) mX9_chain (dn + 1) pc (j k)) : rx_OK (zV b e D A X) mX9_chain (dn + 1) 72 (vX9_chain_72 g j) := by
  unfold vX9_chain_72
  refine s_aload_n hZ.1 dX9_chain_72 rfl ?_
  refine s_callV hZ.1 (Met_X9_now hZ) (Nat.succ_le_succ (Nat.le_trans (Nat.le_of_ble_eq_true rfl) hd)) vy_X9_now zcl9 zw1746 zw12 (Or.inl zw1744) dX9_chain_73 ?_
  refine s_istore hZ.1 dX9_chain_76 (Nat.le_of_ble_eq_true rfl) ?_
  refine s_aload_n hZ.1 dX9_chain_78 rfl ?_
  refine s_callV hZ.1 (Met_X9_take hZ) (Nat.succ_le_succ (Nat.le_trans (Nat.le_of_ble_eq_true rfl) hd)) vy_X9_take zcl9 zw1754 zw14 (Or.inl zw1752) dX9_chain_79 ?_
  exact s_if_ne dX9_chain_82 (by decide) (wX9_chain_89 hZ hg hd j hj) (wX9_chain_85 hZ hg hd j hj)
noncomputable def vX9_chain_54 (g : Nat → List Nat → rx_H → Option (Nat × rx_H)) (j : Nat → rx_K) : rx_K := o_ld rx_isR 0 (o_const 136 (o_ld rx_isR 3 (o_getf 8 1 (o_callV 2 9 FX9_node (o_st rx_isR 4 (o_ld rx_isR 4 (o_ld rx_isR 3 (o_putf rx_isR 8 5 ((vX9_chain_72 g j))))))))))
set_option maxRecDepth 20000 in
theorem wX9_chain_54 {dn : Nat} {g : Nat → List Nat → rx_H → Option (Nat × rx_H)} (hZ : zO b e D A X) (hg : ∀ i y M, vl6[i]? = some (y, M) → rx_Met (zV b e D A X) dn y M (g i)) (hd : 2 ≤ dn) (j : Nat → rx_K) (hj : ∀ k pc, [25][k]? = some pc → rx_OK (zV b e D A X) mX9_chain (dn + 1) pc (j k)) : rx_OK (zV b e D A X) mX9_chain (dn + 1) 54 (vX9_chain_54 g j) := by
  unfold vX9_chain_54
  refine s_aload_n hZ.1 dX9_chain_54 rfl ?_
  refine s_bipush dX9_chain_55 (by decide +kernel) ?_
  refine s_aload_n hZ.1 dX9_chain_57 rfl ?_
  refine yg8_1 dX9_chain_58 zw463 ?_
  refine s_callV hZ.1 (Met_X9_node hZ) (Nat.succ_le_succ (Nat.le_trans (Nat.le_of_ble_eq_true rfl) hd)) vy_X9_node zcl9 zw1811 zw25 (Or.inl zw1809) dX9_chain_61 ?_
  refine s_astore hZ.1 dX9_chain_64 (Nat.le_of_ble_eq_true rfl) ?_
  refine s_aload hZ.1 dX9_chain_66 ?_
  refine s_aload_n hZ.1 dX9_chain_68 rfl ?_
  refine yp8_5 hZ.1 dX9_chain_69 zw477 ?_
  exact (wX9_chain_72 hZ hg hd j hj)
noncomputable def vX9_chain_48 (g : Nat → List Nat → rx_H → Option (Nat × rx_H)) (j : Nat → rx_K) : rx_K := o_ld rx_isR 4 (o_ld rx_isR 3 (o_acmp (vX9_chain_54 g j) (vX9_chain_72 g j)))
set_option maxRecDepth 20000 in
theorem wX9_chain_48 {dn : Nat} {g : Nat → List Nat → rx_H → Option (Nat × rx_H)} (hZ : zO b e D A X) (hg : ∀ i y M, vl6[i]? = some (y, M) → rx_Met (zV b e D A X) dn y M (g i)) (hd : 2 ≤ dn) (j : Nat → rx_K) (hj : ∀ k pc, [25][k]? = some pc → rx_OK (zV b e D A X) mX9_chain (dn + 1) pc (j k)) : rx_OK (zV b e D A X) mX9_chain (dn + 1) 48 (vX9_chain_48 g j) := by
  unfold vX9_chain_48
  refine s_aload hZ.1 dX9_chain_48 ?_
  refine s_aload_n hZ.1 dX9_chain_50 rfl ?_
  exact s_acmp_ne hZ.1 dX9_chain_51 (by decide) (wX9_chain_72 hZ hg hd j hj) (wX9_chain_54 hZ hg hd j hj)
noncomputable def vX9_chain_37 (g : Nat → List Nat → rx_H → Option (Nat × rx_H)) (j : Nat → rx_K) : rx_K := o_ld rx_isR 0 (o_callV 0 9 FX9_now (o_ld rx_isI 2 (o_callS 2 FX9_isChained (o_c1 rx_eq (vX9_chain_136 g j) (vX9_chain_48 g j)))))
set_option maxRecDepth 20000 in
theorem wX9_chain_37 {dn : Nat} {g : Nat → List Nat → rx_H → Option (Nat × rx_H)} (hZ : zO b e D A X) (hg : ∀ i y M, vl6[i]? = some (y, M) → rx_Met (zV b e D A X) dn y M (g i)) (hd : 2 ≤ dn) (j : Nat → rx_K) (hj : ∀ k pc, [25][k]? = some pc → rx_OK (zV b e D A X) mX9_chain (dn + 1) pc (j k)) : rx_OK (zV b e D A X) mX9_chain (dn + 1) 37 (vX9_chain_37 g j) := by
  unfold vX9_chain_37
  refine s_aload_n hZ.1 dX9_chain_37 rfl ?_
  refine s_callV hZ.1 (Met_X9_now hZ) (Nat.succ_le_succ (Nat.le_trans (Nat.le_of_ble_eq_true rfl) hd)) vy_X9_now zcl9 zw1746 zw12 (Or.inl zw1744) dX9_chain_38 ?_
  refine s_iload_n hZ.1 dX9_chain_41 rfl ?_
  refine s_callS hZ.1 (Met_X9_isChained hZ) (Nat.succ_le_succ (Nat.le_trans (Nat.le_of_ble_eq_true rfl) hd)) vy_X9_isChained zw1866 (Or.inl zw1865) dX9_chain_42 ?_
  exact s_if_eq dX9_chain_45 (by decide) (wX9_chain_136 hZ hg hd j hj) (wX9_chain_48 hZ hg hd j hj)
noncomputable def vX9_chain_33 (g : Nat → List Nat → rx_H → Option (Nat × rx_H)) (j : Nat → rx_K) : rx_K := o_ld rx_isR 3 (o_nul (vX9_chain_136 g j) (vX9_chain_37 g j))
set_option maxRecDepth 20000 in
theorem wX9_chain_33 {dn : Nat} {g : Nat → List Nat → rx_H → Option (Nat × rx_H)} (hZ : zO b e D A X) (hg : ∀ i y M, vl6[i]? = some (y, M) → rx_Met (zV b e D A X) dn y M (g i)) (hd : 2 ≤ dn) (j : Nat → rx_K) (hj : ∀ k pc, [25][k]? = some pc → rx_OK (zV b e D A X) mX9_chain (dn + 1) pc (j k)) : rx_OK (zV b e D A X) mX9_chain (dn + 1) 33 (vX9_chain_33 g j) := by
  unfold vX9_chain_33
  refine s_aload_n hZ.1 dX9_chain_33 rfl ?_
  exact s_ifnull dX9_chain_34 (by decide) (wX9_chain_136 hZ hg hd j hj) (wX9_chain_37 hZ hg hd j hj)
noncomputable def vX9_chain_25 (g : Nat → List Nat → rx_H → Option (Nat × rx_H)) (j : Nat → rx_K) : rx_K := o_ld rx_isI 5 (o_const 5600 (o_c2 rx_lt (vX9_chain_33 g j) (vX9_chain_136 g j)))
set_option maxRecDepth 20000 in
theorem wX9_chain_25 {dn : Nat} {g : Nat → List Nat → rx_H → Option (Nat × rx_H)} (hZ : zO b e D A X) (hg : ∀ i y M, vl6[i]? = some (y, M) → rx_Met (zV b e D A X) dn y M (g i)) (hd : 2 ≤ dn) (j : Nat → rx_K) (hj : ∀ k pc, [25][k]? = some pc → rx_OK (zV b e D A X) mX9_chain (dn + 1) pc (j k)) : rx_OK (zV b e D A X) mX9_chain (dn + 1) 25 (vX9_chain_25 g j) := by
  unfold vX9_chain_25
  refine s_iload hZ.1 dX9_chain_25 ?_
  refine s_sipush dX9_chain_27 (by decide +kernel) ?_
  exact s_icmp_ge dX9_chain_30 (by decide) (wX9_chain_136 hZ hg hd j hj) (wX9_chain_33 hZ hg hd j hj)
noncomputable def vX9_chain_18 (g : Nat → List Nat → rx_H → Option (Nat × rx_H)) (j : Nat → rx_K) : rx_K := o_st rx_isR 3 (o_ld rx_isR 3 (o_st rx_isR 4 (o_const 0 (o_st rx_isI 5 ((vX9_chain_25 g j))))))
set_option maxRecDepth 20000 in
theorem wX9_chain_18 {dn : Nat} {g : Nat → List Nat → rx_H → Option (Nat × rx_H)} (hZ : zO b e D A X) (hg : ∀ i y M, vl6[i]? = some (y, M) → rx_Met (zV b e D A X) dn y M (g i)) (hd : 2 ≤ dn) (j : Nat → rx_K) (hj : ∀ k pc, [25][k]? = some pc → rx_OK (zV b e D A X) mX9_chain (dn + 1) pc (j k)) : rx_OK (zV b e D A X) mX9_chain (dn + 1) 18 (vX9_chain_18 g j) := by
  unfold vX9_chain_18
  refine s_astore_n hZ.1 dX9_chain_18 rfl (Nat.le_of_ble_eq_true rfl) ?_
  refine s_aload_n hZ.1 dX9_chain_19 rfl ?_
  refine s_astore hZ.1 dX9_chain_20 (Nat.le_of_ble_eq_true rfl) ?_
  refine s_iconst dX9_chain_22 (by decide +kernel) ?_
  refine s_istore hZ.1 dX9_chain_23 (Nat.le_of_ble_eq_true rfl) ?_
  exact (wX9_chain_25 hZ hg hd j hj)
noncomputable def vX9_chain_13 (g : Nat → List Nat → rx_H → Option (Nat × rx_H)) (j : Nat → rx_K) : rx_K := o_ld rx_isR 0 (o_ld rx_isI 1 (o_callV 1 9 (g 8) ((vX9_chain_18 g j))))
set_option maxRecDepth 20000 in
theorem wX9_chain_13 {dn : Nat} {g : Nat → List Nat → rx_H → Option (Nat × rx_H)} (hZ : zO b e D A X) (hg : ∀ i y M, vl6[i]? = some (y, M) → rx_Met (zV b e D A X) dn y M (g i)) (hd : 2 ≤ dn) (j : Nat → rx_K) (hj : ∀ k pc, [25][k]? = some pc → rx_OK (zV b e D A X) mX9_chain (dn + 1) pc (j k)) : rx_OK (zV b e D A X) mX9_chain (dn + 1) 13 (vX9_chain_13 g j) := by
  unfold vX9_chain_13
  refine s_aload_n hZ.1 dX9_chain_13 rfl ?_
  refine s_iload_n hZ.1 dX9_chain_14 rfl ?_
  refine s_callV hZ.1 (hg 8 _ _ rfl) (Nat.le_refl _) vy_X9_unit zcl9 zw1843 zw31 (Or.inl zw1841) dX9_chain_15 ?_
  exact (wX9_chain_18 hZ hg hd j hj)
noncomputable def vX9_chain_4 (g : Nat → List Nat → rx_H → Option (Nat × rx_H)) (j : Nat → rx_K) : rx_K := o_ld rx_isR 0 (o_ld rx_isI 1 (o_const 0 (o_callV 2 9 (g 2) ((vX9_chain_18 g j)))))
set_option maxRecDepth 20000 in
theorem wX9_chain_4 {dn : Nat} {g : Nat → List Nat → rx_H → Option (Nat × rx_H)} (hZ : zO b e D A X) (hg : ∀ i y M, vl6[i]? = some (y, M) → rx_Met (zV b e D A X) dn y M (g i)) (hd : 2 ≤ dn) (j : Nat → rx_K) (hj : ∀ k pc, [25][k]? = some pc → rx_OK (zV b e D A X) mX9_chain (dn + 1) pc (j k)) : rx_OK (zV b e D A X) mX9_chain (dn + 1) 4 (vX9_chain_4 g j) := by
  unfold vX9_chain_4
  refine s_aload_n hZ.1 dX9_chain_4 rfl ?_
  refine s_iload_n hZ.1 dX9_chain_5 rfl ?_
  refine s_iconst dX9_chain_6 (by decide +kernel) ?_
  refine s_callV hZ.1 (hg 2 _ _ rfl) (Nat.le_refl _) vy_X9_chain zcl9 zw1839 zw30 (Or.inl zw1837) dX9_chain_7 ?_
  exact s_goto dX9_chain_10 (by decide) (wX9_chain_18 hZ hg hd j hj)
noncomputable def vX9_chain_0 (g : Nat → List Nat → rx_H → Option (Nat × rx_H)) (j : Nat → rx_K) : rx_K := o_ld rx_isI 2 (o_c1 rx_eq (vX9_chain_13 g j) (vX9_chain_4 g j))
set_option maxRecDepth 20000 in
theorem wX9_chain_0 {dn : Nat} {g : Nat → List Nat → rx_H → Option (Nat × rx_H)} (hZ : zO b e D A X) (hg : ∀ i y M, vl6[i]? = some (y, M) → rx_Met (zV b e D A X) dn y M (g i)) (hd : 2 ≤ dn) (j : Nat → rx_K) (hj : ∀ k pc, [25][k]? = some pc → rx_OK (zV b e D A X) mX9_chain (dn + 1) pc (j k)) : rx_OK (zV b e D A X) mX9_chain (dn + 1) 0 (vX9_chain_0 g j) := by
  unfold vX9_chain_0
  refine s_iload_n hZ.1 dX9_chain_0 rfl ?_
  exact s_if_eq dX9_chain_1 (by decide) (wX9_chain_13 hZ hg hd j hj) (wX9_chain_4 hZ hg hd j hj)
noncomputable def vhX9_chain (g : Nat → List Nat → rx_H → Option (Nat × rx_H)) (j : Nat → rx_K) : List rx_K := [vX9_chain_25 g j]
theorem vlX9_chain {dn : Nat} {g : Nat → List Nat → rx_H → Option (Nat × rx_H)} (hZ : zO b e D A X) (hg : ∀ i y M, vl6[i]? = some (y, M) → rx_Met (zV b e D A X) dn y M (g i)) (hd : 2 ≤ dn) : ∀ n k pc, [25][k]? = some pc → rx_OK (zV b e D A X) mX9_chain (dn + 1) pc (rx_J (vhX9_chain g) n k) := rx_loop fun j hj k pc h => by
  match k, h with
  | 0, h =>
    have e9 := Option.some.inj (show some 25 = some pc from h)
    subst e9
    exact wX9_chain_25 hZ hg hd j hj
  | _ + 1, h => exact absurd h (by simp)
noncomputable def FX9_chain (g : Nat → List Nat → rx_H → Option (Nat × rx_H)) : List Nat → rx_H → Option (Nat × rx_H) := rx_ent 8 (vX9_chain_0 g (rx_J (vhX9_chain g) 4000000000))
theorem Met_X9_chain {dn : Nat} {g : Nat → List Nat → rx_H → Option (Nat × rx_H)} (hZ : zO b e D A X) (hg : ∀ i y M, vl6[i]? = some (y, M) → rx_Met (zV b e D A X) dn y M (g i)) (hd : 2 ≤ dn) : rx_Met (zV b e D A X) (dn + 1) yX9_chain mX9_chain (FX9_chain g) := rx_entry hZ.1 (wX9_chain_0 hZ hg hd _ (vlX9_chain hZ hg hd 4000000000)) (by decide +kernel) rfl (fun h => by cases h)
noncomputable def vX9_expr_124 (g : Nat → List Nat → rx_H → Option (Nat × rx_H)) : rx_K := o_ret1 rx_isR
set_option maxRecDepth 20000 in
theorem wX9_expr_124 {dn : Nat} {g : Nat → List Nat → rx_H → Option (Nat × rx_H)} (hZ : zO b e D A X) (hg : ∀ i y M, vl6[i]? = some (y, M) → rx_Met (zV b e D A X) dn y M (g i)) (hd : 2 ≤ dn) : rx_OK (zV b e D A X) mX9_expr (dn + 1) 124 (vX9_expr_124 g) := by
  unfold vX9_expr_124
  exact s_aret hZ.1 rfl (Or.inl ⟨_, rfl⟩) dX9_expr_124
noncomputable def vX9_expr_123 (g : Nat → List Nat → rx_H → Option (Nat × rx_H)) : rx_K := o_ld rx_isR 3 ((vX9_expr_124 g))
set_option maxRecDepth 20000 in
theorem wX9_expr_123 {dn : Nat} {g : Nat → List Nat → rx_H → Option (Nat × rx_H)} (hZ : zO b e D A X) (hg : ∀ i y M, vl6[i]? = some (y, M) → rx_Met (zV b e D A X) dn y M (g i)) (hd : 2 ≤ dn) : rx_OK (zV b e D A X) mX9_expr (dn + 1) 123 (vX9_expr_123 g) := by
  unfold vX9_expr_123
  refine s_aload_n hZ.1 dX9_expr_123 rfl ?_
  exact (wX9_expr_124 hZ hg hd)
noncomputable def vX9_expr_119 (g : Nat → List Nat → rx_H → Option (Nat × rx_H)) : rx_K := o_const 3 ((vX9_expr_124 g))
set_option maxRecDepth 20000 in
theorem wX9_expr_119 {dn : Nat} {g : Nat → List Nat → rx_H → Option (Nat × rx_H)} (hZ : zO b e D A X) (hg : ∀ i y M, vl6[i]? = some (y, M) → rx_Met (zV b e D A X) dn y M (g i)) (hd : 2 ≤ dn) : rx_OK (zV b e D A X) mX9_expr (dn + 1) 119 (vX9_expr_119 g) := by
  unfold vX9_expr_119
  refine s_null dX9_expr_119 ?_
  exact s_goto dX9_expr_120 (by decide) (wX9_expr_124 hZ hg hd)
noncomputable def vX9_expr_109 (g : Nat → List Nat → rx_H → Option (Nat × rx_H)) : rx_K := o_putf rx_isR 8 6 (o_ld rx_isR 3 (o_getf 8 6 (o_nul (vX9_expr_119 g) (vX9_expr_123 g))))
set_option maxRecDepth 20000 in
theorem wX9_expr_109 {dn : Nat} {g : Nat → List Nat → rx_H → Option (Nat × rx_H)} (hZ : zO b e D A X) (hg : ∀ i y M, vl6[i]? = some (y, M) → rx_Met (zV b e D A X) dn y M (g i)) (hd : 2 ≤ dn) : rx_OK (zV b e D A X) mX9_expr (dn + 1) 109 (vX9_expr_109 g) := by
  unfold vX9_expr_109
  refine yp8_6 hZ.1 dX9_expr_109 zw481 ?_
  refine s_aload_n hZ.1 dX9_expr_112 rfl ?_
  refine yg8_6 dX9_expr_113 zw481 ?_
  exact s_ifnonnull dX9_expr_116 (by decide) (wX9_expr_123 hZ hg hd) (wX9_expr_119 hZ hg hd)
noncomputable def vX9_expr_108 (g : Nat → List Nat → rx_H → Option (Nat × rx_H)) : rx_K := o_const 3 ((vX9_expr_109 g))
set_option maxRecDepth 20000 in
theorem wX9_expr_108 {dn : Nat} {g : Nat → List Nat → rx_H → Option (Nat × rx_H)} (hZ : zO b e D A X) (hg : ∀ i y M, vl6[i]? = some (y, M) → rx_Met (zV b e D A X) dn y M (g i)) (hd : 2 ≤ dn) : rx_OK (zV b e D A X) mX9_expr (dn + 1) 108 (vX9_expr_108 g) := by
  unfold vX9_expr_108
  refine s_null dX9_expr_108 ?_
  exact (wX9_expr_109 hZ hg hd)
noncomputable def vX9_expr_97 (g : Nat → List Nat → rx_H → Option (Nat × rx_H)) : rx_K := o_ld rx_isR 0 (o_ld rx_isI 1 (o_const 8 (o_bi (fun x y => x + y) (o_const 8 (o_callV 2 9 (g 2) ((vX9_expr_109 g)))))))
set_option maxRecDepth 20000 in
theorem wX9_expr_97 {dn : Nat} {g : Nat → List Nat → rx_H → Option (Nat × rx_H)} (hZ : zO b e D A X) (hg : ∀ i y M, vl6[i]? = some (y, M) → rx_Met (zV b e D A X) dn y M (g i)) (hd : 2 ≤ dn) : rx_OK (zV b e D A X) mX9_expr (dn + 1) 97 (vX9_expr_97 g) := by
  unfold vX9_expr_97
  refine s_aload_n hZ.1 dX9_expr_97 rfl ?_
  refine s_iload_n hZ.1 dX9_expr_98 rfl ?_
  refine s_iconst dX9_expr_99 (by decide +kernel) ?_
  refine s_iadd dX9_expr_100 ?_
  refine s_iconst dX9_expr_101 (by decide +kernel) ?_
  refine s_callV hZ.1 (hg 2 _ _ rfl) (Nat.le_refl _) vy_X9_chain zcl9 zw1839 zw30 (Or.inl zw1837) dX9_expr_102 ?_
  exact s_goto dX9_expr_105 (by decide) (wX9_expr_109 hZ hg hd)
noncomputable def vX9_expr_65 (g : Nat → List Nat → rx_H → Option (Nat × rx_H)) : rx_K := o_ld rx_isR 0 (o_const 144 (o_ld rx_isR 2 (o_getf 8 1 (o_callV 2 9 FX9_node (o_st rx_isR 3 (o_ld rx_isR 3 (o_ld rx_isR 0 (o_callV 0 9 FX9_now (o_putf rx_isI 8 3 (o_ld rx_isR 3 (o_ld rx_isR 2 (o_putf rx_isR 8 5 (o_ld rx_isR 3 (o_ld rx_isR 0 (o_callV 0 9 FX9_take (o_c1 rx_eq (vX9_expr_108 g) (vX9_expr_97 g)))))))))))))))))
set_option maxRecDepth 20000 in
theorem wX9_expr_65 {dn : Nat} {g : Nat → List Nat → rx_H → Option (Nat × rx_H)} (hZ : zO b e D A X) (hg : ∀ i y M, vl6[i]? = some (y, M) → rx_Met (zV b e D A X) dn y M (g i)) (hd : 2 ≤ dn) : rx_OK (zV b e D A X) mX9_expr (dn + 1) 65 (vX9_expr_65 g) := by
  unfold vX9_expr_65
  refine s_aload_n hZ.1 dX9_expr_65 rfl ?_
  refine s_bipush dX9_expr_66 (by decide +kernel) ?_
  refine s_aload_n hZ.1 dX9_expr_68 rfl ?_
  refine yg8_1 dX9_expr_69 zw463 ?_
  refine s_callV hZ.1 (Met_X9_node hZ) (Nat.succ_le_succ (Nat.le_trans (Nat.le_of_ble_eq_true rfl) hd)) vy_X9_node zcl9 zw1811 zw25 (Or.inl zw1809) dX9_expr_72 ?_
  refine s_astore_n hZ.1 dX9_expr_75 rfl (Nat.le_of_ble_eq_true rfl) ?_
  refine s_aload_n hZ.1 dX9_expr_76 rfl ?_
  refine s_aload_n hZ.1 dX9_expr_77 rfl ?_
  refine s_callV hZ.1 (Met_X9_now hZ) (Nat.succ_le_succ (Nat.le_trans (Nat.le_of_ble_eq_true rfl) hd)) vy_X9_now zcl9 zw1746 zw12 (Or.inl zw1744) dX9_expr_78 ?_
  refine yp8_3 hZ.1 dX9_expr_81 zw470 ?_
  refine s_aload_n hZ.1 dX9_expr_84 rfl ?_
  refine s_aload_n hZ.1 dX9_expr_85 rfl ?_
  refine yp8_5 hZ.1 dX9_expr_86 zw477 ?_
  refine s_aload_n hZ.1 dX9_expr_89 rfl ?_
  refine s_aload_n hZ.1 dX9_expr_90 rfl ?_
  refine s_callV hZ.1 (Met_X9_take hZ) (Nat.succ_le_succ (Nat.le_trans (Nat.le_of_ble_eq_true rfl) hd)) vy_X9_take zcl9 zw1754 zw14 (Or.inl zw1752) dX9_expr_91 ?_
  exact s_if_eq dX9_expr_94 (by decide) (wX9_expr_108 hZ hg hd) (wX9_expr_97 hZ hg hd)
noncomputable def vX9_expr_63 (g : Nat → List Nat → rx_H → Option (Nat × rx_H)) : rx_K := o_ld rx_isR 2 (o_ret1 rx_isR)
set_option maxRecDepth 20000 in
theorem wX9_expr_63 {dn : Nat} {g : Nat → List Nat → rx_H → Option (Nat × rx_H)} (hZ : zO b e D A X) (hg : ∀ i y M, vl6[i]? = some (y, M) → rx_Met (zV b e D A X) dn y M (g i)) (hd : 2 ≤ dn) : rx_OK (zV b e D A X) mX9_expr (dn + 1) 63 (vX9_expr_63 g) := by
  unfold vX9_expr_63
  refine s_aload_n hZ.1 dX9_expr_63 rfl ?_
  exact s_aret hZ.1 rfl (Or.inl ⟨_, rfl⟩) dX9_expr_64
noncomputable def vX9_expr_54 (g : Nat → List Nat → rx_H → Option (Nat × rx_H)) : rx_K := o_ld rx_isR 0 (o_callV 0 9 FX9_now (o_const 792 (o_c2 rx_eq (vX9_expr_65 g) (vX9_expr_63 g))))
set_option maxRecDepth 20000 in
theorem wX9_expr_54 {dn : Nat} {g : Nat → List Nat → rx_H → Option (Nat × rx_H)} (hZ : zO b e D A X) (hg : ∀ i y M, vl6[i]? = some (y, M) → rx_Met (zV b e D A X) dn y M (g i)) (hd : 2 ≤ dn) : rx_OK (zV b e D A X) mX9_expr (dn + 1) 54 (vX9_expr_54 g) := by
  unfold vX9_expr_54
  refine s_aload_n hZ.1 dX9_expr_54 rfl ?_
  refine s_callV hZ.1 (Met_X9_now hZ) (Nat.succ_le_succ (Nat.le_trans (Nat.le_of_ble_eq_true rfl) hd)) vy_X9_now zcl9 zw1746 zw12 (Or.inl zw1744) dX9_expr_55 ?_
  refine s_bipush dX9_expr_58 (by decide +kernel) ?_
  exact s_icmp_eq dX9_expr_60 (by decide) (wX9_expr_65 hZ hg hd) (wX9_expr_63 hZ hg hd)
noncomputable def vX9_expr_44 (g : Nat → List Nat → rx_H → Option (Nat × rx_H)) : rx_K := o_ld rx_isR 0 (o_callV 0 9 FX9_now (o_const 1280 (o_c2 rx_eq (vX9_expr_65 g) (vX9_expr_54 g))))
set_option maxRecDepth 20000 in
theorem wX9_expr_44 {dn : Nat} {g : Nat → List Nat → rx_H → Option (Nat × rx_H)} (hZ : zO b e D A X) (hg : ∀ i y M, vl6[i]? = some (y, M) → rx_Met (zV b e D A X) dn y M (g i)) (hd : 2 ≤ dn) : rx_OK (zV b e D A X) mX9_expr (dn + 1) 44 (vX9_expr_44 g) := by
  unfold vX9_expr_44
  refine s_aload_n hZ.1 dX9_expr_44 rfl ?_
  refine s_callV hZ.1 (Met_X9_now hZ) (Nat.succ_le_succ (Nat.le_trans (Nat.le_of_ble_eq_true rfl) hd)) vy_X9_now zcl9 zw1746 zw12 (Or.inl zw1744) dX9_expr_45 ?_
  refine s_sipush dX9_expr_48 (by decide +kernel) ?_
  exact s_icmp_eq dX9_expr_51 (by decide) (wX9_expr_65 hZ hg hd) (wX9_expr_54 hZ hg hd)
noncomputable def vX9_expr_31 (g : Nat → List Nat → rx_H → Option (Nat × rx_H)) : rx_K := o_ld rx_isR 0 (o_ld rx_isI 1 (o_const 8 (o_bi (fun x y => x + y) (o_const 8 (o_callV 2 9 (g 2) (o_st rx_isR 2 (o_ld rx_isR 2 (o_nul (vX9_expr_63 g) (vX9_expr_44 g)))))))))
set_option maxRecDepth 20000 in
theorem wX9_expr_31 {dn : Nat} {g : Nat → List Nat → rx_H → Option (Nat × rx_H)} (hZ : zO b e D A X) (hg : ∀ i y M, vl6[i]? = some (y, M) → rx_Met (zV b e D A X) dn y M (g i)) (hd : 2 ≤ dn) : rx_OK (zV b e D A X) mX9_expr (dn + 1) 31 (vX9_expr_31 g) := by
  unfold vX9_expr_31
  refine s_aload_n hZ.1 dX9_expr_31 rfl ?_
  refine s_iload_n hZ.1 dX9_expr_32 rfl ?_
  refine s_iconst dX9_expr_33 (by decide +kernel) ?_
  refine s_iadd dX9_expr_34 ?_
  refine s_iconst dX9_expr_35 (by decide +kernel) ?_
  refine s_callV hZ.1 (hg 2 _ _ rfl) (Nat.le_refl _) vy_X9_chain zcl9 zw1839 zw30 (Or.inl zw1837) dX9_expr_36 ?_
  refine s_astore_n hZ.1 dX9_expr_39 rfl (Nat.le_of_ble_eq_true rfl) ?_
  refine s_aload_n hZ.1 dX9_expr_40 rfl ?_
  exact s_ifnull dX9_expr_41 (by decide) (wX9_expr_63 hZ hg hd) (wX9_expr_44 hZ hg hd)
noncomputable def vX9_expr_23 (g : Nat → List Nat → rx_H → Option (Nat × rx_H)) : rx_K := o_ld rx_isR 0 (o_const 24 (o_callV 1 9 FX9_stop (o_pop (o_const 3 (o_ret1 rx_isR)))))
set_option maxRecDepth 20000 in
theorem wX9_expr_23 {dn : Nat} {g : Nat → List Nat → rx_H → Option (Nat × rx_H)} (hZ : zO b e D A X) (hg : ∀ i y M, vl6[i]? = some (y, M) → rx_Met (zV b e D A X) dn y M (g i)) (hd : 2 ≤ dn) : rx_OK (zV b e D A X) mX9_expr (dn + 1) 23 (vX9_expr_23 g) := by
  unfold vX9_expr_23
  refine s_aload_n hZ.1 dX9_expr_23 rfl ?_
  refine s_iconst dX9_expr_24 (by decide +kernel) ?_
  refine s_callV hZ.1 (Met_X9_stop hZ) (Nat.succ_le_succ (Nat.le_trans (Nat.le_of_ble_eq_true rfl) hd)) vy_X9_stop zcl9 zw1758 zw15 (Or.inl zw1756) dX9_expr_25 ?_
  refine s_pop hZ.1 dX9_expr_28 ?_
  refine s_null dX9_expr_29 ?_
  exact s_aret hZ.1 rfl (Or.inl ⟨_, rfl⟩) dX9_expr_30
noncomputable def vX9_expr_17 (g : Nat → List Nat → rx_H → Option (Nat × rx_H)) : rx_K := o_ld rx_isI 1 (o_const 96 (o_c2 rx_lt (vX9_expr_31 g) (vX9_expr_23 g)))
set_option maxRecDepth 20000 in
theorem wX9_expr_17 {dn : Nat} {g : Nat → List Nat → rx_H → Option (Nat × rx_H)} (hZ : zO b e D A X) (hg : ∀ i y M, vl6[i]? = some (y, M) → rx_Met (zV b e D A X) dn y M (g i)) (hd : 2 ≤ dn) : rx_OK (zV b e D A X) mX9_expr (dn + 1) 17 (vX9_expr_17 g) := by
  unfold vX9_expr_17
  refine s_iload_n hZ.1 dX9_expr_17 rfl ?_
  refine s_bipush dX9_expr_18 (by decide +kernel) ?_
  exact s_icmp_lt dX9_expr_20 (by decide) (wX9_expr_31 hZ hg hd) (wX9_expr_23 hZ hg hd)
noncomputable def vX9_expr_10 (g : Nat → List Nat → rx_H → Option (Nat × rx_H)) : rx_K := o_ld rx_isR 0 (o_callV 0 9 FX9_miss (o_pop (o_const 3 (o_ret1 rx_isR))))
set_option maxRecDepth 20000 in
theorem wX9_expr_10 {dn : Nat} {g : Nat → List Nat → rx_H → Option (Nat × rx_H)} (hZ : zO b e D A X) (hg : ∀ i y M, vl6[i]? = some (y, M) → rx_Met (zV b e D A X) dn y M (g i)) (hd : 2 ≤ dn) : rx_OK (zV b e D A X) mX9_expr (dn + 1) 10 (vX9_expr_10 g) := by
  unfold vX9_expr_10
  refine s_aload_n hZ.1 dX9_expr_10 rfl ?_
  refine s_callV hZ.1 (Met_X9_miss hZ) (Nat.succ_le_succ (Nat.le_trans (Nat.le_of_ble_eq_true rfl) hd)) vy_X9_miss zcl9 zw1762 zw16 (Or.inl zw1760) dX9_expr_11 ?_
  refine s_pop hZ.1 dX9_expr_14 ?_
  refine s_null dX9_expr_15 ?_
  exact s_aret hZ.1 rfl (Or.inl ⟨_, rfl⟩) dX9_expr_16
noncomputable def vX9_expr_0 (g : Nat → List Nat → rx_H → Option (Nat × rx_H)) : rx_K := o_ld rx_isR 0 (o_callV 0 9 FX9_now (o_callS 1 FX9_beginsE (o_c1 rx_eq (vX9_expr_10 g) (vX9_expr_17 g))))
set_option maxRecDepth 20000 in
theorem wX9_expr_0 {dn : Nat} {g : Nat → List Nat → rx_H → Option (Nat × rx_H)} (hZ : zO b e D A X) (hg : ∀ i y M, vl6[i]? = some (y, M) → rx_Met (zV b e D A X) dn y M (g i)) (hd : 2 ≤ dn) : rx_OK (zV b e D A X) mX9_expr (dn + 1) 0 (vX9_expr_0 g) := by
  unfold vX9_expr_0
  refine s_aload_n hZ.1 dX9_expr_0 rfl ?_
  refine s_callV hZ.1 (Met_X9_now hZ) (Nat.succ_le_succ (Nat.le_trans (Nat.le_of_ble_eq_true rfl) hd)) vy_X9_now zcl9 zw1746 zw12 (Or.inl zw1744) dX9_expr_1 ?_
  refine s_callS hZ.1 (Met_X9_beginsE hZ) (Nat.succ_le_succ (Nat.le_trans (Nat.le_of_ble_eq_true rfl) hd)) vy_X9_beginsE zw1823 (Or.inl zw1822) dX9_expr_4 ?_
  exact s_if_ne dX9_expr_7 (by decide) (wX9_expr_17 hZ hg hd) (wX9_expr_10 hZ hg hd)
noncomputable def FX9_expr (g : Nat → List Nat → rx_H → Option (Nat × rx_H)) : List Nat → rx_H → Option (Nat × rx_H) := rx_ent 4 (vX9_expr_0 g)
theorem Met_X9_expr {dn : Nat} {g : Nat → List Nat → rx_H → Option (Nat × rx_H)} (hZ : zO b e D A X) (hg : ∀ i y M, vl6[i]? = some (y, M) → rx_Met (zV b e D A X) dn y M (g i)) (hd : 2 ≤ dn) : rx_Met (zV b e D A X) (dn + 1) yX9_expr mX9_expr (FX9_expr g) := rx_entry hZ.1 (wX9_expr_0 hZ hg hd) (by decide +kernel) rfl (fun h => by cases h)
noncomputable def vX9_front_256 (g : Nat → List Nat → rx_H → Option (Nat × rx_H)) : rx_K := o_ld rx_isR 0 (o_ld rx_isR 3 (o_ld rx_isI 1 (o_callV 2 9 (g 6) (o_ret1 rx_isR))))
set_option maxRecDepth 20000 in
theorem wX9_front_256 {dn : Nat} {g : Nat → List Nat → rx_H → Option (Nat × rx_H)} (hZ : zO b e D A X) (hg : ∀ i y M, vl6[i]? = some (y, M) → rx_Met (zV b e D A X) dn y M (g i)) (hd : 2 ≤ dn) : rx_OK (zV b e D A X) mX9_front (dn + 1) 256 (vX9_front_256 g) := by
  unfold vX9_front_256
  refine s_aload_n hZ.1 dX9_front_256 rfl ?_
  refine s_aload_n hZ.1 dX9_front_257 rfl ?_
  refine s_iload_n hZ.1 dX9_front_258 rfl ?_
  refine s_callV hZ.1 (hg 6 _ _ rfl) (Nat.le_refl _) vy_X9_round zcl9 zw1859 zw35 (Or.inl zw1857) dX9_front_259 ?_
  exact s_aret hZ.1 rfl (Or.inl ⟨_, rfl⟩) dX9_front_262
noncomputable def vX9_front_255 (g : Nat → List Nat → rx_H → Option (Nat × rx_H)) : rx_K := o_ret1 rx_isR
set_option maxRecDepth 20000 in
theorem wX9_front_255 {dn : Nat} {g : Nat → List Nat → rx_H → Option (Nat × rx_H)} (hZ : zO b e D A X) (hg : ∀ i y M, vl6[i]? = some (y, M) → rx_Met (zV b e D A X) dn y M (g i)) (hd : 2 ≤ dn) : rx_OK (zV b e D A X) mX9_front (dn + 1) 255 (vX9_front_255 g) := by
  unfold vX9_front_255
  exact s_aret hZ.1 rfl (Or.inl ⟨_, rfl⟩) dX9_front_255
noncomputable def vX9_front_254 (g : Nat → List Nat → rx_H → Option (Nat × rx_H)) : rx_K := o_const 3 ((vX9_front_255 g))
set_option maxRecDepth 20000 in
theorem wX9_front_254 {dn : Nat} {g : Nat → List Nat → rx_H → Option (Nat × rx_H)} (hZ : zO b e D A X) (hg : ∀ i y M, vl6[i]? = some (y, M) → rx_Met (zV b e D A X) dn y M (g i)) (hd : 2 ≤ dn) : rx_OK (zV b e D A X) mX9_front (dn + 1) 254 (vX9_front_254 g) := by
  unfold vX9_front_254
  refine s_null dX9_front_254 ?_
  exact (wX9_front_255 hZ hg hd)
noncomputable def vX9_front_250 (g : Nat → List Nat → rx_H → Option (Nat × rx_H)) : rx_K := o_ld rx_isR 3 ((vX9_front_255 g))
set_option maxRecDepth 20000 in
theorem wX9_front_250 {dn : Nat} {g : Nat → List Nat → rx_H → Option (Nat × rx_H)} (hZ : zO b e D A X) (hg : ∀ i y M, vl6[i]? = some (y, M) → rx_Met (zV b e D A X) dn y M (g i)) (hd : 2 ≤ dn) : rx_OK (zV b e D A X) mX9_front (dn + 1) 250 (vX9_front_250 g) := by
  unfold vX9_front_250
  refine s_aload_n hZ.1 dX9_front_250 rfl ?_
  exact s_goto dX9_front_251 (by decide) (wX9_front_255 hZ hg hd)
noncomputable def vX9_front_241 (g : Nat → List Nat → rx_H → Option (Nat × rx_H)) : rx_K := o_ld rx_isR 0 (o_ld rx_isR 3 (o_ld rx_isI 1 (o_callV 2 9 (g 0) (o_c1 rx_eq (vX9_front_254 g) (vX9_front_250 g)))))
set_option maxRecDepth 20000 in
theorem wX9_front_241 {dn : Nat} {g : Nat → List Nat → rx_H → Option (Nat × rx_H)} (hZ : zO b e D A X) (hg : ∀ i y M, vl6[i]? = some (y, M) → rx_Met (zV b e D A X) dn y M (g i)) (hd : 2 ≤ dn) : rx_OK (zV b e D A X) mX9_front (dn + 1) 241 (vX9_front_241 g) := by
  unfold vX9_front_241
  refine s_aload_n hZ.1 dX9_front_241 rfl ?_
  refine s_aload_n hZ.1 dX9_front_242 rfl ?_
  refine s_iload_n hZ.1 dX9_front_243 rfl ?_
  refine s_callV hZ.1 (hg 0 _ _ rfl) (Nat.le_refl _) vy_X9_args zcl9 zw1831 zw28 (Or.inl zw1829) dX9_front_244 ?_
  exact s_if_eq dX9_front_247 (by decide) (wX9_front_254 hZ hg hd) (wX9_front_250 hZ hg hd)
noncomputable def vX9_front_206 (g : Nat → List Nat → rx_H → Option (Nat × rx_H)) : rx_K := o_ld rx_isR 3 (o_const 80 (o_putf rx_isI 8 0 (o_ld rx_isR 3 (o_ld rx_isR 0 (o_getf 9 8 (o_putf rx_isI 8 2 (o_ld rx_isR 3 (o_ld rx_isR 0 (o_getf 9 4 (o_ld rx_isR 0 (o_getf 9 8 (o_ald 1 (o_putf rx_isL 8 10 (o_ld rx_isR 0 (o_const 16 (o_callV 1 9 FX9_need (o_c1 rx_eq (vX9_front_254 g) (vX9_front_241 g))))))))))))))))))
set_option maxRecDepth 20000 in
theorem wX9_front_206 {dn : Nat} {g : Nat → List Nat → rx_H → Option (Nat × rx_H)} (hZ : zO b e D A X) (hg : ∀ i y M, vl6[i]? = some (y, M) → rx_Met (zV b e D A X) dn y M (g i)) (hd : 2 ≤ dn) : rx_OK (zV b e D A X) mX9_front (dn + 1) 206 (vX9_front_206 g) := by
  unfold vX9_front_206
  refine s_aload_n hZ.1 dX9_front_206 rfl ?_
  refine s_bipush dX9_front_207 (by decide +kernel) ?_
  refine yp8_0 hZ.1 dX9_front_209 zw460 ?_
  refine s_aload_n hZ.1 dX9_front_212 rfl ?_
  refine s_aload_n hZ.1 dX9_front_213 rfl ?_
  refine yg9_8 dX9_front_214 zw592 ?_
  refine yp8_2 hZ.1 dX9_front_217 zw466 ?_
  refine s_aload_n hZ.1 dX9_front_220 rfl ?_
  refine s_aload_n hZ.1 dX9_front_221 rfl ?_
  refine yg9_4 dX9_front_222 zw586 ?_
  refine s_aload_n hZ.1 dX9_front_225 rfl ?_
  refine yg9_8 dX9_front_226 zw592 ?_
  refine s_lald (tt := 1) rfl dX9_front_229 ?_
  refine yp8_10 hZ.1 dX9_front_230 zw497 ?_
  refine s_aload_n hZ.1 dX9_front_233 rfl ?_
  refine s_iconst dX9_front_234 (by decide +kernel) ?_
  refine s_callV hZ.1 (Met_X9_need hZ) (Nat.succ_le_succ (Nat.le_trans (Nat.le_of_ble_eq_true rfl) hd)) vy_X9_need zcl9 zw1779 zw19 (Or.inl zw1777) dX9_front_235 ?_
  exact s_if_eq dX9_front_238 (by decide) (wX9_front_254 hZ hg hd) (wX9_front_241 hZ hg hd)
noncomputable def vX9_front_205 (g : Nat → List Nat → rx_H → Option (Nat × rx_H)) : rx_K := o_ret1 rx_isR
set_option maxRecDepth 20000 in
theorem wX9_front_205 {dn : Nat} {g : Nat → List Nat → rx_H → Option (Nat × rx_H)} (hZ : zO b e D A X) (hg : ∀ i y M, vl6[i]? = some (y, M) → rx_Met (zV b e D A X) dn y M (g i)) (hd : 2 ≤ dn) : rx_OK (zV b e D A X) mX9_front (dn + 1) 205 (vX9_front_205 g) := by
  unfold vX9_front_205
  exact s_aret hZ.1 rfl (Or.inl ⟨_, rfl⟩) dX9_front_205
noncomputable def vX9_front_204 (g : Nat → List Nat → rx_H → Option (Nat × rx_H)) : rx_K := o_const 3 ((vX9_front_205 g))
set_option maxRecDepth 20000 in
theorem wX9_front_204 {dn : Nat} {g : Nat → List Nat → rx_H → Option (Nat × rx_H)} (hZ : zO b e D A X) (hg : ∀ i y M, vl6[i]? = some (y, M) → rx_Met (zV b e D A X) dn y M (g i)) (hd : 2 ≤ dn) : rx_OK (zV b e D A X) mX9_front (dn + 1) 204 (vX9_front_204 g) := by
  unfold vX9_front_204
  refine s_null dX9_front_204 ?_
  exact (wX9_front_205 hZ hg hd)
noncomputable def vX9_front_200 (g : Nat → List Nat → rx_H → Option (Nat × rx_H)) : rx_K := o_ld rx_isR 3 ((vX9_front_205 g))
set_option maxRecDepth 20000 in
theorem wX9_front_200 {dn : Nat} {g : Nat → List Nat → rx_H → Option (Nat × rx_H)} (hZ : zO b e D A X) (hg : ∀ i y M, vl6[i]? = some (y, M) → rx_Met (zV b e D A X) dn y M (g i)) (hd : 2 ≤ dn) : rx_OK (zV b e D A X) mX9_front (dn + 1) 200 (vX9_front_200 g) := by
  unfold vX9_front_200
  refine s_aload_n hZ.1 dX9_front_200 rfl ?_
  exact s_goto dX9_front_201 (by decide) (wX9_front_205 hZ hg hd)
noncomputable def vX9_front_185 (g : Nat → List Nat → rx_H → Option (Nat × rx_H)) : rx_K := o_ld rx_isR 3 (o_const 72 (o_putf rx_isI 8 0 (o_ld rx_isR 0 (o_ld rx_isR 3 (o_ld rx_isI 1 (o_callV 2 9 (g 7) (o_c1 rx_eq (vX9_front_204 g) (vX9_front_200 g))))))))
set_option maxRecDepth 20000 in
theorem wX9_front_185 {dn : Nat} {g : Nat → List Nat → rx_H → Option (Nat × rx_H)} (hZ : zO b e D A X) (hg : ∀ i y M, vl6[i]? = some (y, M) → rx_Met (zV b e D A X) dn y M (g i)) (hd : 2 ≤ dn) : rx_OK (zV b e D A X) mX9_front (dn + 1) 185 (vX9_front_185 g) := by
  unfold vX9_front_185
  refine s_aload_n hZ.1 dX9_front_185 rfl ?_
  refine s_bipush dX9_front_186 (by decide +kernel) ?_
  refine yp8_0 hZ.1 dX9_front_188 zw460 ?_
  refine s_aload_n hZ.1 dX9_front_191 rfl ?_
  refine s_aload_n hZ.1 dX9_front_192 rfl ?_
  refine s_iload_n hZ.1 dX9_front_193 rfl ?_
  refine s_callV hZ.1 (hg 7 _ _ rfl) (Nat.le_refl _) vy_X9_superCall zcl9 zw1855 zw34 (Or.inl zw1853) dX9_front_194 ?_
  exact s_if_eq dX9_front_197 (by decide) (wX9_front_204 hZ hg hd) (wX9_front_200 hZ hg hd)
noncomputable def vX9_front_178 (g : Nat → List Nat → rx_H → Option (Nat × rx_H)) : rx_K := o_ld rx_isR 0 (o_ld rx_isR 3 (o_ld rx_isI 1 (o_callV 2 9 (g 5) (o_ret1 rx_isR))))
set_option maxRecDepth 20000 in
theorem wX9_front_178 {dn : Nat} {g : Nat → List Nat → rx_H → Option (Nat × rx_H)} (hZ : zO b e D A X) (hg : ∀ i y M, vl6[i]? = some (y, M) → rx_Met (zV b e D A X) dn y M (g i)) (hd : 2 ≤ dn) : rx_OK (zV b e D A X) mX9_front (dn + 1) 178 (vX9_front_178 g) := by
  unfold vX9_front_178
  refine s_aload_n hZ.1 dX9_front_178 rfl ?_
  refine s_aload_n hZ.1 dX9_front_179 rfl ?_
  refine s_iload_n hZ.1 dX9_front_180 rfl ?_
  refine s_callV hZ.1 (hg 5 _ _ rfl) (Nat.le_refl _) vy_X9_ofClass zcl9 zw1851 zw33 (Or.inl zw1849) dX9_front_181 ?_
  exact s_aret hZ.1 rfl (Or.inl ⟨_, rfl⟩) dX9_front_184
noncomputable def vX9_front_177 (g : Nat → List Nat → rx_H → Option (Nat × rx_H)) : rx_K := o_ret1 rx_isR
set_option maxRecDepth 20000 in
theorem wX9_front_177 {dn : Nat} {g : Nat → List Nat → rx_H → Option (Nat × rx_H)} (hZ : zO b e D A X) (hg : ∀ i y M, vl6[i]? = some (y, M) → rx_Met (zV b e D A X) dn y M (g i)) (hd : 2 ≤ dn) : rx_OK (zV b e D A X) mX9_front (dn + 1) 177 (vX9_front_177 g) := by
  unfold vX9_front_177
  exact s_aret hZ.1 rfl (Or.inl ⟨_, rfl⟩) dX9_front_177
noncomputable def vX9_front_176 (g : Nat → List Nat → rx_H → Option (Nat × rx_H)) : rx_K := o_const 3 ((vX9_front_177 g))
set_option maxRecDepth 20000 in
theorem wX9_front_176 {dn : Nat} {g : Nat → List Nat → rx_H → Option (Nat × rx_H)} (hZ : zO b e D A X) (hg : ∀ i y M, vl6[i]? = some (y, M) → rx_Met (zV b e D A X) dn y M (g i)) (hd : 2 ≤ dn) : rx_OK (zV b e D A X) mX9_front (dn + 1) 176 (vX9_front_176 g) := by
  unfold vX9_front_176
  refine s_null dX9_front_176 ?_
  exact (wX9_front_177 hZ hg hd)
noncomputable def vX9_front_172 (g : Nat → List Nat → rx_H → Option (Nat × rx_H)) : rx_K := o_ld rx_isR 3 ((vX9_front_177 g))
set_option maxRecDepth 20000 in
theorem wX9_front_172 {dn : Nat} {g : Nat → List Nat → rx_H → Option (Nat × rx_H)} (hZ : zO b e D A X) (hg : ∀ i y M, vl6[i]? = some (y, M) → rx_Met (zV b e D A X) dn y M (g i)) (hd : 2 ≤ dn) : rx_OK (zV b e D A X) mX9_front (dn + 1) 172 (vX9_front_172 g) := by
  unfold vX9_front_172
  refine s_aload_n hZ.1 dX9_front_172 rfl ?_
  exact s_goto dX9_front_173 (by decide) (wX9_front_177 hZ hg hd)
noncomputable def vX9_front_163 (g : Nat → List Nat → rx_H → Option (Nat × rx_H)) : rx_K := o_ld rx_isR 0 (o_ld rx_isR 3 (o_ld rx_isI 1 (o_callV 2 9 (g 0) (o_c1 rx_eq (vX9_front_176 g) (vX9_front_172 g)))))
set_option maxRecDepth 20000 in
theorem wX9_front_163 {dn : Nat} {g : Nat → List Nat → rx_H → Option (Nat × rx_H)} (hZ : zO b e D A X) (hg : ∀ i y M, vl6[i]? = some (y, M) → rx_Met (zV b e D A X) dn y M (g i)) (hd : 2 ≤ dn) : rx_OK (zV b e D A X) mX9_front (dn + 1) 163 (vX9_front_163 g) := by
  unfold vX9_front_163
  refine s_aload_n hZ.1 dX9_front_163 rfl ?_
  refine s_aload_n hZ.1 dX9_front_164 rfl ?_
  refine s_iload_n hZ.1 dX9_front_165 rfl ?_
  refine s_callV hZ.1 (hg 0 _ _ rfl) (Nat.le_refl _) vy_X9_args zcl9 zw1831 zw28 (Or.inl zw1829) dX9_front_166 ?_
  exact s_if_eq dX9_front_169 (by decide) (wX9_front_176 hZ hg hd) (wX9_front_172 hZ hg hd)
noncomputable def vX9_front_152 (g : Nat → List Nat → rx_H → Option (Nat × rx_H)) : rx_K := o_putf rx_isI 8 0 (o_ld rx_isR 3 (o_getf 8 0 (o_const 32 (o_c2 rx_eq (vX9_front_172 g) (vX9_front_163 g)))))
set_option maxRecDepth 20000 in
theorem wX9_front_152 {dn : Nat} {g : Nat → List Nat → rx_H → Option (Nat × rx_H)} (hZ : zO b e D A X) (hg : ∀ i y M, vl6[i]? = some (y, M) → rx_Met (zV b e D A X) dn y M (g i)) (hd : 2 ≤ dn) : rx_OK (zV b e D A X) mX9_front (dn + 1) 152 (vX9_front_152 g) := by
  unfold vX9_front_152
  refine yp8_0 hZ.1 dX9_front_152 zw460 ?_
  refine s_aload_n hZ.1 dX9_front_155 rfl ?_
  refine yg8_0 dX9_front_156 zw460 ?_
  refine s_iconst dX9_front_159 (by decide +kernel) ?_
  exact s_icmp_eq dX9_front_160 (by decide) (wX9_front_172 hZ hg hd) (wX9_front_163 hZ hg hd)
noncomputable def vX9_front_151 (g : Nat → List Nat → rx_H → Option (Nat × rx_H)) : rx_K := o_const 32 ((vX9_front_152 g))
set_option maxRecDepth 20000 in
theorem wX9_front_151 {dn : Nat} {g : Nat → List Nat → rx_H → Option (Nat × rx_H)} (hZ : zO b e D A X) (hg : ∀ i y M, vl6[i]? = some (y, M) → rx_Met (zV b e D A X) dn y M (g i)) (hd : 2 ≤ dn) : rx_OK (zV b e D A X) mX9_front (dn + 1) 151 (vX9_front_151 g) := by
  unfold vX9_front_151
  refine s_iconst dX9_front_151 (by decide +kernel) ?_
  exact (wX9_front_152 hZ hg hd)
noncomputable def vX9_front_147 (g : Nat → List Nat → rx_H → Option (Nat × rx_H)) : rx_K := o_const 40 ((vX9_front_152 g))
set_option maxRecDepth 20000 in
theorem wX9_front_147 {dn : Nat} {g : Nat → List Nat → rx_H → Option (Nat × rx_H)} (hZ : zO b e D A X) (hg : ∀ i y M, vl6[i]? = some (y, M) → rx_Met (zV b e D A X) dn y M (g i)) (hd : 2 ≤ dn) : rx_OK (zV b e D A X) mX9_front (dn + 1) 147 (vX9_front_147 g) := by
  unfold vX9_front_147
  refine s_iconst dX9_front_147 (by decide +kernel) ?_
  exact s_goto dX9_front_148 (by decide) (wX9_front_152 hZ hg hd)
noncomputable def vX9_front_136 (g : Nat → List Nat → rx_H → Option (Nat × rx_H)) : rx_K := o_ld rx_isR 3 (o_ld rx_isR 0 (o_callV 0 9 FX9_now (o_const 1120 (o_c2 rx_eq (vX9_front_147 g) (vX9_front_151 g)))))
set_option maxRecDepth 20000 in
theorem wX9_front_136 {dn : Nat} {g : Nat → List Nat → rx_H → Option (Nat × rx_H)} (hZ : zO b e D A X) (hg : ∀ i y M, vl6[i]? = some (y, M) → rx_Met (zV b e D A X) dn y M (g i)) (hd : 2 ≤ dn) : rx_OK (zV b e D A X) mX9_front (dn + 1) 136 (vX9_front_136 g) := by
  unfold vX9_front_136
  refine s_aload_n hZ.1 dX9_front_136 rfl ?_
  refine s_aload_n hZ.1 dX9_front_137 rfl ?_
  refine s_callV hZ.1 (Met_X9_now hZ) (Nat.succ_le_succ (Nat.le_trans (Nat.le_of_ble_eq_true rfl) hd)) vy_X9_now zcl9 zw1746 zw12 (Or.inl zw1744) dX9_front_138 ?_
  refine s_sipush dX9_front_141 (by decide +kernel) ?_
  exact s_icmp_ne dX9_front_144 (by decide) (wX9_front_151 hZ hg hd) (wX9_front_147 hZ hg hd)
noncomputable def vX9_front_129 (g : Nat → List Nat → rx_H → Option (Nat × rx_H)) : rx_K := o_ld rx_isR 3 (o_const 24 (o_putf rx_isI 8 0 (o_ld rx_isR 3 (o_ret1 rx_isR))))
set_option maxRecDepth 20000 in
theorem wX9_front_129 {dn : Nat} {g : Nat → List Nat → rx_H → Option (Nat × rx_H)} (hZ : zO b e D A X) (hg : ∀ i y M, vl6[i]? = some (y, M) → rx_Met (zV b e D A X) dn y M (g i)) (hd : 2 ≤ dn) : rx_OK (zV b e D A X) mX9_front (dn + 1) 129 (vX9_front_129 g) := by
  unfold vX9_front_129
  refine s_aload_n hZ.1 dX9_front_129 rfl ?_
  refine s_iconst dX9_front_130 (by decide +kernel) ?_
  refine yp8_0 hZ.1 dX9_front_131 zw460 ?_
  refine s_aload_n hZ.1 dX9_front_134 rfl ?_
  exact s_aret hZ.1 rfl (Or.inl ⟨_, rfl⟩) dX9_front_135
noncomputable def vX9_front_122 (g : Nat → List Nat → rx_H → Option (Nat × rx_H)) : rx_K := o_ld rx_isR 3 (o_const 16 (o_putf rx_isI 8 0 (o_ld rx_isR 3 (o_ret1 rx_isR))))
set_option maxRecDepth 20000 in
theorem wX9_front_122 {dn : Nat} {g : Nat → List Nat → rx_H → Option (Nat × rx_H)} (hZ : zO b e D A X) (hg : ∀ i y M, vl6[i]? = some (y, M) → rx_Met (zV b e D A X) dn y M (g i)) (hd : 2 ≤ dn) : rx_OK (zV b e D A X) mX9_front (dn + 1) 122 (vX9_front_122 g) := by
  unfold vX9_front_122
  refine s_aload_n hZ.1 dX9_front_122 rfl ?_
  refine s_iconst dX9_front_123 (by decide +kernel) ?_
  refine yp8_0 hZ.1 dX9_front_124 zw460 ?_
  refine s_aload_n hZ.1 dX9_front_127 rfl ?_
  exact s_aret hZ.1 rfl (Or.inl ⟨_, rfl⟩) dX9_front_128
noncomputable def vX9_front_120 (g : Nat → List Nat → rx_H → Option (Nat × rx_H)) : rx_K := o_ld rx_isR 3 (o_ret1 rx_isR)
set_option maxRecDepth 20000 in
theorem wX9_front_120 {dn : Nat} {g : Nat → List Nat → rx_H → Option (Nat × rx_H)} (hZ : zO b e D A X) (hg : ∀ i y M, vl6[i]? = some (y, M) → rx_Met (zV b e D A X) dn y M (g i)) (hd : 2 ≤ dn) : rx_OK (zV b e D A X) mX9_front (dn + 1) 120 (vX9_front_120 g) := by
  unfold vX9_front_120
  refine s_aload_n hZ.1 dX9_front_120 rfl ?_
  exact s_aret hZ.1 rfl (Or.inl ⟨_, rfl⟩) dX9_front_121
noncomputable def vX9_front_51 (g : Nat → List Nat → rx_H → Option (Nat × rx_H)) : rx_K := o_ld rx_isI 2 (o_lsw [(2, 178), (3, 136), (4, 120), (25, 206), (36, 122), (37, 129), (38, 185)] 256 (rx_pk [(120, (vX9_front_120 g)), (122, (vX9_front_122 g)), (129, (vX9_front_129 g)), (136, (vX9_front_136 g)), (178, (vX9_front_178 g)), (185, (vX9_front_185 g)), (206, (vX9_front_206 g)), (256, (vX9_front_256 g))]))
set_option maxRecDepth 20000 in
theorem wX9_front_51 {dn : Nat} {g : Nat → List Nat → rx_H → Option (Nat × rx_H)} (hZ : zO b e D A X) (hg : ∀ i y M, vl6[i]? = some (y, M) → rx_Met (zV b e D A X) dn y M (g i)) (hd : 2 ≤ dn) : rx_OK (zV b e D A X) mX9_front (dn + 1) 51 (vX9_front_51 g) := by
  unfold vX9_front_51
  refine s_iload_n hZ.1 dX9_front_51 rfl ?_
  exact s_lsw dX9_front_52 (by decide) (by decide) (fun b => (rx_pk_ok (List.forall_mem_cons.mpr ⟨(wX9_front_120 hZ hg hd), List.forall_mem_cons.mpr ⟨(wX9_front_122 hZ hg hd), List.forall_mem_cons.mpr ⟨(wX9_front_129 hZ hg hd), List.forall_mem_cons.mpr ⟨(wX9_front_136 hZ hg hd), List.forall_mem_cons.mpr ⟨(wX9_front_178 hZ hg hd), List.forall_mem_cons.mpr ⟨(wX9_front_185 hZ hg hd), List.forall_mem_cons.mpr ⟨(wX9_front_206 hZ hg hd), List.forall_mem_cons.mpr ⟨(wX9_front_256 hZ hg hd), fun _ h => absurd h List.not_mem_nil⟩⟩⟩⟩⟩⟩⟩⟩)) b)
noncomputable def vX9_front_49 (g : Nat → List Nat → rx_H → Option (Nat × rx_H)) : rx_K := o_const 3 (o_ret1 rx_isR)
set_option maxRecDepth 20000 in
theorem wX9_front_49 {dn : Nat} {g : Nat → List Nat → rx_H → Option (Nat × rx_H)} (hZ : zO b e D A X) (hg : ∀ i y M, vl6[i]? = some (y, M) → rx_Met (zV b e D A X) dn y M (g i)) (hd : 2 ≤ dn) : rx_OK (zV b e D A X) mX9_front (dn + 1) 49 (vX9_front_49 g) := by
  unfold vX9_front_49
  refine s_null dX9_front_49 ?_
  exact s_aret hZ.1 rfl (Or.inl ⟨_, rfl⟩) dX9_front_50
noncomputable def vX9_front_19 (g : Nat → List Nat → rx_H → Option (Nat × rx_H)) : rx_K := o_ld rx_isR 0 (o_const 8 (o_ld rx_isR 0 (o_getf 9 8 (o_callV 2 9 FX9_node (o_st rx_isR 3 (o_ld rx_isR 3 (o_ld rx_isR 0 (o_getf 9 4 (o_ld rx_isR 0 (o_getf 9 8 (o_ald 1 (o_putf rx_isL 8 10 (o_ld rx_isR 0 (o_callV 0 9 FX9_take (o_c1 rx_eq (vX9_front_49 g) (vX9_front_51 g))))))))))))))))
set_option maxRecDepth 20000 in
theorem wX9_front_19 {dn : Nat} {g : Nat → List Nat → rx_H → Option (Nat × rx_H)} (hZ : zO b e D A X) (hg : ∀ i y M, vl6[i]? = some (y, M) → rx_Met (zV b e D A X) dn y M (g i)) (hd : 2 ≤ dn) : rx_OK (zV b e D A X) mX9_front (dn + 1) 19 (vX9_front_19 g) := by
  unfold vX9_front_19
  refine s_aload_n hZ.1 dX9_front_19 rfl ?_
  refine s_iconst dX9_front_20 (by decide +kernel) ?_
  refine s_aload_n hZ.1 dX9_front_21 rfl ?_
  refine yg9_8 dX9_front_22 zw592 ?_
  refine s_callV hZ.1 (Met_X9_node hZ) (Nat.succ_le_succ (Nat.le_trans (Nat.le_of_ble_eq_true rfl) hd)) vy_X9_node zcl9 zw1811 zw25 (Or.inl zw1809) dX9_front_25 ?_
  refine s_astore_n hZ.1 dX9_front_28 rfl (Nat.le_of_ble_eq_true rfl) ?_
  refine s_aload_n hZ.1 dX9_front_29 rfl ?_
  refine s_aload_n hZ.1 dX9_front_30 rfl ?_
  refine yg9_4 dX9_front_31 zw586 ?_
  refine s_aload_n hZ.1 dX9_front_34 rfl ?_
  refine yg9_8 dX9_front_35 zw592 ?_
  refine s_lald (tt := 1) rfl dX9_front_38 ?_
  refine yp8_10 hZ.1 dX9_front_39 zw497 ?_
  refine s_aload_n hZ.1 dX9_front_42 rfl ?_
  refine s_callV hZ.1 (Met_X9_take hZ) (Nat.succ_le_succ (Nat.le_trans (Nat.le_of_ble_eq_true rfl) hd)) vy_X9_take zcl9 zw1754 zw14 (Or.inl zw1752) dX9_front_43 ?_
  exact s_if_ne dX9_front_46 (by decide) (wX9_front_51 hZ hg hd) (wX9_front_49 hZ hg hd)
noncomputable def vX9_front_12 (g : Nat → List Nat → rx_H → Option (Nat × rx_H)) : rx_K := o_ld rx_isR 0 (o_callV 0 9 FX9_miss (o_pop (o_const 3 (o_ret1 rx_isR))))
set_option maxRecDepth 20000 in
theorem wX9_front_12 {dn : Nat} {g : Nat → List Nat → rx_H → Option (Nat × rx_H)} (hZ : zO b e D A X) (hg : ∀ i y M, vl6[i]? = some (y, M) → rx_Met (zV b e D A X) dn y M (g i)) (hd : 2 ≤ dn) : rx_OK (zV b e D A X) mX9_front (dn + 1) 12 (vX9_front_12 g) := by
  unfold vX9_front_12
  refine s_aload_n hZ.1 dX9_front_12 rfl ?_
  refine s_callV hZ.1 (Met_X9_miss hZ) (Nat.succ_le_succ (Nat.le_trans (Nat.le_of_ble_eq_true rfl) hd)) vy_X9_miss zcl9 zw1762 zw16 (Or.inl zw1760) dX9_front_13 ?_
  refine s_pop hZ.1 dX9_front_16 ?_
  refine s_null dX9_front_17 ?_
  exact s_aret hZ.1 rfl (Or.inl ⟨_, rfl⟩) dX9_front_18
noncomputable def vX9_front_0 (g : Nat → List Nat → rx_H → Option (Nat × rx_H)) : rx_K := o_ld rx_isR 0 (o_callV 0 9 FX9_now (o_st rx_isI 2 (o_ld rx_isI 2 (o_callS 1 FX9_beginsE (o_c1 rx_eq (vX9_front_12 g) (vX9_front_19 g))))))
set_option maxRecDepth 20000 in
theorem wX9_front_0 {dn : Nat} {g : Nat → List Nat → rx_H → Option (Nat × rx_H)} (hZ : zO b e D A X) (hg : ∀ i y M, vl6[i]? = some (y, M) → rx_Met (zV b e D A X) dn y M (g i)) (hd : 2 ≤ dn) : rx_OK (zV b e D A X) mX9_front (dn + 1) 0 (vX9_front_0 g) := by
  unfold vX9_front_0
  refine s_aload_n hZ.1 dX9_front_0 rfl ?_
  refine s_callV hZ.1 (Met_X9_now hZ) (Nat.succ_le_succ (Nat.le_trans (Nat.le_of_ble_eq_true rfl) hd)) vy_X9_now zcl9 zw1746 zw12 (Or.inl zw1744) dX9_front_1 ?_
  refine s_istore_n hZ.1 dX9_front_4 rfl (Nat.le_of_ble_eq_true rfl) ?_
  refine s_iload_n hZ.1 dX9_front_5 rfl ?_
  refine s_callS hZ.1 (Met_X9_beginsE hZ) (Nat.succ_le_succ (Nat.le_trans (Nat.le_of_ble_eq_true rfl) hd)) vy_X9_beginsE zw1823 (Or.inl zw1822) dX9_front_6 ?_
  exact s_if_ne dX9_front_9 (by decide) (wX9_front_19 hZ hg hd) (wX9_front_12 hZ hg hd)
noncomputable def FX9_front (g : Nat → List Nat → rx_H → Option (Nat × rx_H)) : List Nat → rx_H → Option (Nat × rx_H) := rx_ent 4 (vX9_front_0 g)
theorem Met_X9_front {dn : Nat} {g : Nat → List Nat → rx_H → Option (Nat × rx_H)} (hZ : zO b e D A X) (hg : ∀ i y M, vl6[i]? = some (y, M) → rx_Met (zV b e D A X) dn y M (g i)) (hd : 2 ≤ dn) : rx_Met (zV b e D A X) (dn + 1) yX9_front mX9_front (FX9_front g) := rx_entry hZ.1 (wX9_front_0 hZ hg hd) (by decide +kernel) rfl (fun h => by cases h)
end ZM24

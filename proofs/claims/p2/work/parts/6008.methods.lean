section ZM8
variable {b : Nat} {e : Nat → Value} {D : va_G} {A : Nat → ClassId} {X : State → Prop}
abbrev mX2_heads : rx_M := (RX2, cX2_heads, 4, (some .int), false)
theorem vy_X2_heads : rx_Y (zV b e D A X) yX2_heads mX2_heads 2 := ⟨zw2618, zw429, by decide, by decide +kernel, by decide +kernel, by decide +kernel⟩
noncomputable def vX2_heads_102 : rx_K := o_bi (fun x y => x + y) (o_ret1 rx_isI)
set_option maxRecDepth 20000 in
theorem wX2_heads_102 (hZ : zO b e D A X) : rx_OK (zV b e D A X) mX2_heads 3 102 vX2_heads_102 := by
  unfold vX2_heads_102
  refine s_iadd dX2_heads_102 ?_
  exact s_iret hZ.1 rfl dX2_heads_103
noncomputable def vX2_heads_101 : rx_K := o_const 0 (vX2_heads_102)
set_option maxRecDepth 20000 in
theorem wX2_heads_101 (hZ : zO b e D A X) : rx_OK (zV b e D A X) mX2_heads 3 101 vX2_heads_101 := by
  unfold vX2_heads_101
  refine s_iconst dX2_heads_101 (by decide +kernel) ?_
  exact (wX2_heads_102 hZ)
noncomputable def vX2_heads_88 : rx_K := o_ld rx_isR 0 (o_const 72 (o_const 34359738352 (o_const 34359738352 (o_callV 3 2 FX2_note (vX2_heads_102)))))
set_option maxRecDepth 20000 in
theorem wX2_heads_88 (hZ : zO b e D A X) : rx_OK (zV b e D A X) mX2_heads 3 88 vX2_heads_88 := by
  unfold vX2_heads_88
  refine s_aload_n hZ.1 dX2_heads_88 rfl ?_
  refine s_bipush dX2_heads_89 (by decide +kernel) ?_
  refine s_bipush dX2_heads_91 (by decide +kernel) ?_
  refine s_bipush dX2_heads_93 (by decide +kernel) ?_
  refine s_callV hZ.1 (Met_X2_note hZ) (Nat.le_of_ble_eq_true rfl) vy_X2_note zcl2 zw2609 zw140 (Or.inl zw2607) dX2_heads_95 ?_
  exact s_goto dX2_heads_98 (by decide) (wX2_heads_102 hZ)
noncomputable def vX2_heads_66 : rx_K := o_const 34359738352 (o_const 34359738352 (o_callV 5 2 FX2_turned (o_bi (fun x y => x + y) (o_st rx_isI 3 (o_ld rx_isI 3 (o_ld rx_isR 1 (o_getf 10 8 (o_ld rx_isR 2 (o_getf 10 8 (o_bc (fun x y => lg_cmp x y) (o_c1 rx_eq vX2_heads_101 vX2_heads_88)))))))))))
set_option maxRecDepth 20000 in
theorem wX2_heads_66 (hZ : zO b e D A X) : rx_OK (zV b e D A X) mX2_heads 3 66 vX2_heads_66 := by
  unfold vX2_heads_66
  refine s_bipush dX2_heads_66 (by decide +kernel) ?_
  refine s_bipush dX2_heads_68 (by decide +kernel) ?_
  refine s_callV hZ.1 (Met_X2_turned hZ) (Nat.le_of_ble_eq_true rfl) vy_X2_turned zcl2 zw2621 zw142 (Or.inl zw2619) dX2_heads_70 ?_
  refine s_iadd dX2_heads_73 ?_
  refine s_istore_n hZ.1 dX2_heads_74 rfl (Nat.le_of_ble_eq_true rfl) ?_
  refine s_iload_n hZ.1 dX2_heads_75 rfl ?_
  refine s_aload_n hZ.1 dX2_heads_76 rfl ?_
  refine yg10_8 dX2_heads_77 zw825 ?_
  refine s_aload_n hZ.1 dX2_heads_80 rfl ?_
  refine yg10_8 dX2_heads_81 zw825 ?_
  refine s_lcmp dX2_heads_84 ?_
  exact s_if_eq dX2_heads_85 (by decide) (wX2_heads_101 hZ) (wX2_heads_88 hZ)
noncomputable def vX2_heads_25 : rx_K := o_const 24 (o_const 34359738352 (o_const 34359738352 (o_callV 5 2 FX2_turned (o_st rx_isI 3 (o_ld rx_isI 3 (o_ld rx_isR 0 (o_ld rx_isR 1 (o_getf 10 5 (o_ld rx_isR 2 (o_getf 10 5 (o_const 40 (o_const 34359738352 (o_const 34359738352 (o_callV 5 2 FX2_turned (o_bi (fun x y => x + y) (o_st rx_isI 3 (o_ld rx_isI 3 (o_ld rx_isR 0 (o_ld rx_isR 1 (o_getf 10 6 (o_ld rx_isR 2 (o_getf 10 6 (o_const 56 (vX2_heads_66))))))))))))))))))))))))
set_option maxRecDepth 20000 in
theorem wX2_heads_25 (hZ : zO b e D A X) : rx_OK (zV b e D A X) mX2_heads 3 25 vX2_heads_25 := by
  unfold vX2_heads_25
  refine s_iconst dX2_heads_25 (by decide +kernel) ?_
  refine s_bipush dX2_heads_26 (by decide +kernel) ?_
  refine s_bipush dX2_heads_28 (by decide +kernel) ?_
  refine s_callV hZ.1 (Met_X2_turned hZ) (Nat.le_of_ble_eq_true rfl) vy_X2_turned zcl2 zw2621 zw142 (Or.inl zw2619) dX2_heads_30 ?_
  refine s_istore_n hZ.1 dX2_heads_33 rfl (Nat.le_of_ble_eq_true rfl) ?_
  refine s_iload_n hZ.1 dX2_heads_34 rfl ?_
  refine s_aload_n hZ.1 dX2_heads_35 rfl ?_
  refine s_aload_n hZ.1 dX2_heads_36 rfl ?_
  refine yg10_5 dX2_heads_37 zw802 ?_
  refine s_aload_n hZ.1 dX2_heads_40 rfl ?_
  refine yg10_5 dX2_heads_41 zw802 ?_
  refine s_iconst dX2_heads_44 (by decide +kernel) ?_
  refine s_bipush dX2_heads_45 (by decide +kernel) ?_
  refine s_bipush dX2_heads_47 (by decide +kernel) ?_
  refine s_callV hZ.1 (Met_X2_turned hZ) (Nat.le_of_ble_eq_true rfl) vy_X2_turned zcl2 zw2621 zw142 (Or.inl zw2619) dX2_heads_49 ?_
  refine s_iadd dX2_heads_52 ?_
  refine s_istore_n hZ.1 dX2_heads_53 rfl (Nat.le_of_ble_eq_true rfl) ?_
  refine s_iload_n hZ.1 dX2_heads_54 rfl ?_
  refine s_aload_n hZ.1 dX2_heads_55 rfl ?_
  refine s_aload_n hZ.1 dX2_heads_56 rfl ?_
  refine yg10_6 dX2_heads_57 zw808 ?_
  refine s_aload_n hZ.1 dX2_heads_60 rfl ?_
  refine yg10_6 dX2_heads_61 zw808 ?_
  refine s_bipush dX2_heads_64 (by decide +kernel) ?_
  exact (wX2_heads_66 hZ)
noncomputable def vX2_heads_24 : rx_K := o_const 0 (vX2_heads_25)
set_option maxRecDepth 20000 in
theorem wX2_heads_24 (hZ : zO b e D A X) : rx_OK (zV b e D A X) mX2_heads 3 24 vX2_heads_24 := by
  unfold vX2_heads_24
  refine s_iconst dX2_heads_24 (by decide +kernel) ?_
  exact (wX2_heads_25 hZ)
noncomputable def vX2_heads_20 : rx_K := o_const 8 (vX2_heads_25)
set_option maxRecDepth 20000 in
theorem wX2_heads_20 (hZ : zO b e D A X) : rx_OK (zV b e D A X) mX2_heads 3 20 vX2_heads_20 := by
  unfold vX2_heads_20
  refine s_iconst dX2_heads_20 (by decide +kernel) ?_
  exact s_goto dX2_heads_21 (by decide) (wX2_heads_25 hZ)
noncomputable def vX2_heads_13 : rx_K := o_ld rx_isR 2 (o_getf 10 3 (o_c1 rx_eq vX2_heads_20 vX2_heads_24))
set_option maxRecDepth 20000 in
theorem wX2_heads_13 (hZ : zO b e D A X) : rx_OK (zV b e D A X) mX2_heads 3 13 vX2_heads_13 := by
  unfold vX2_heads_13
  refine s_aload_n hZ.1 dX2_heads_13 rfl ?_
  refine yg10_3 dX2_heads_14 zw786 ?_
  exact s_if_ne dX2_heads_17 (by decide) (wX2_heads_24 hZ) (wX2_heads_20 hZ)
noncomputable def vX2_heads_12 : rx_K := o_const 0 (vX2_heads_13)
set_option maxRecDepth 20000 in
theorem wX2_heads_12 (hZ : zO b e D A X) : rx_OK (zV b e D A X) mX2_heads 3 12 vX2_heads_12 := by
  unfold vX2_heads_12
  refine s_iconst dX2_heads_12 (by decide +kernel) ?_
  exact (wX2_heads_13 hZ)
noncomputable def vX2_heads_8 : rx_K := o_const 8 (vX2_heads_13)
set_option maxRecDepth 20000 in
theorem wX2_heads_8 (hZ : zO b e D A X) : rx_OK (zV b e D A X) mX2_heads 3 8 vX2_heads_8 := by
  unfold vX2_heads_8
  refine s_iconst dX2_heads_8 (by decide +kernel) ?_
  exact s_goto dX2_heads_9 (by decide) (wX2_heads_13 hZ)
noncomputable def vX2_heads_0 : rx_K := o_ld rx_isR 0 (o_ld rx_isR 1 (o_getf 10 3 (o_c1 rx_eq vX2_heads_8 vX2_heads_12)))
set_option maxRecDepth 20000 in
theorem wX2_heads_0 (hZ : zO b e D A X) : rx_OK (zV b e D A X) mX2_heads 3 0 vX2_heads_0 := by
  unfold vX2_heads_0
  refine s_aload_n hZ.1 dX2_heads_0 rfl ?_
  refine s_aload_n hZ.1 dX2_heads_1 rfl ?_
  refine yg10_3 dX2_heads_2 zw786 ?_
  exact s_if_ne dX2_heads_5 (by decide) (wX2_heads_12 hZ) (wX2_heads_8 hZ)
noncomputable def FX2_heads : List Nat → rx_H → Option (Nat × rx_H) := rx_ent 4 vX2_heads_0
theorem Met_X2_heads (hZ : zO b e D A X) : rx_Met (zV b e D A X) 3 yX2_heads mX2_heads (FX2_heads) := rx_entry hZ.1 (wX2_heads_0 hZ) (by decide +kernel) rfl (fun h => by cases h)
abbrev mX2_range : rx_M := (RX2, cX2_range, 5, (some .int), false)
theorem vy_X2_range : rx_Y (zV b e D A X) yX2_range mX2_range 3 := ⟨zw2665, zw429, by decide, by decide +kernel, by decide +kernel, by decide +kernel⟩
noncomputable def vX2_range_37 (j : Nat → rx_K) : rx_K := o_ld rx_isI 3 (o_ret1 rx_isI)
set_option maxRecDepth 20000 in
theorem wX2_range_37 (hZ : zO b e D A X) (j : Nat → rx_K) (hj : ∀ k pc, [8][k]? = some pc → rx_OK (zV b e D A X) mX2_range 0 pc (j k)) : rx_OK (zV b e D A X) mX2_range 0 37 (vX2_range_37 j) := by
  unfold vX2_range_37
  refine s_iload_n hZ.1 dX2_range_37 rfl ?_
  exact s_iret hZ.1 rfl dX2_range_38
noncomputable def vX2_range_23 (j : Nat → rx_K) : rx_K := o_ld rx_isR 1 (o_ld rx_isI 3 (o_ld rx_isI 4 (o_ast 0 (fun v => v) rx_isI (o_inc 3 (1) (o_inc 4 (1) ((j 0)))))))
set_option maxRecDepth 20000 in
theorem wX2_range_23 (hZ : zO b e D A X) (j : Nat → rx_K) (hj : ∀ k pc, [8][k]? = some pc → rx_OK (zV b e D A X) mX2_range 0 pc (j k)) : rx_OK (zV b e D A X) mX2_range 0 23 (vX2_range_23 j) := by
  unfold vX2_range_23
  refine s_aload_n hZ.1 dX2_range_23 rfl ?_
  refine s_iload_n hZ.1 dX2_range_24 rfl ?_
  refine s_iload hZ.1 dX2_range_25 ?_
  refine s_iast hZ.1 (tt := 0) rfl dX2_range_27 ?_
  refine s_iinc hZ.1 dX2_range_28 (Nat.le_of_ble_eq_true rfl) ?_
  refine s_iinc hZ.1 dX2_range_31 (Nat.le_of_ble_eq_true rfl) ?_
  exact s_goto dX2_range_34 (by decide) (hj 0 8 rfl)
noncomputable def vX2_range_17 (j : Nat → rx_K) : rx_K := o_ld rx_isI 3 (o_ld rx_isR 1 (o_alen 0 (o_c2 rx_lt (vX2_range_23 j) (vX2_range_37 j))))
set_option maxRecDepth 20000 in
theorem wX2_range_17 (hZ : zO b e D A X) (j : Nat → rx_K) (hj : ∀ k pc, [8][k]? = some pc → rx_OK (zV b e D A X) mX2_range 0 pc (j k)) : rx_OK (zV b e D A X) mX2_range 0 17 (vX2_range_17 j) := by
  unfold vX2_range_17
  refine s_iload_n hZ.1 dX2_range_17 rfl ?_
  refine s_aload_n hZ.1 dX2_range_18 rfl ?_
  refine s_alen (tt := 0) rfl dX2_range_19 ?_
  exact s_icmp_ge dX2_range_20 (by decide) (wX2_range_37 hZ j hj) (wX2_range_23 hZ j hj)
noncomputable def vX2_range_8 (j : Nat → rx_K) : rx_K := o_ld rx_isI 4 (o_ld rx_isR 0 (o_getf 7 13 (o_c2 rx_lt (vX2_range_17 j) (vX2_range_37 j))))
set_option maxRecDepth 20000 in
theorem wX2_range_8 (hZ : zO b e D A X) (j : Nat → rx_K) (hj : ∀ k pc, [8][k]? = some pc → rx_OK (zV b e D A X) mX2_range 0 pc (j k)) : rx_OK (zV b e D A X) mX2_range 0 8 (vX2_range_8 j) := by
  unfold vX2_range_8
  refine s_iload hZ.1 dX2_range_8 ?_
  refine s_aload_n hZ.1 dX2_range_10 rfl ?_
  refine yg7_13 dX2_range_11 zw1044 ?_
  exact s_icmp_ge dX2_range_14 (by decide) (wX2_range_37 hZ j hj) (wX2_range_17 hZ j hj)
noncomputable def vX2_range_0 (j : Nat → rx_K) : rx_K := o_ld rx_isI 2 (o_st rx_isI 3 (o_ld rx_isR 0 (o_getf 7 12 (o_st rx_isI 4 ((vX2_range_8 j))))))
set_option maxRecDepth 20000 in
theorem wX2_range_0 (hZ : zO b e D A X) (j : Nat → rx_K) (hj : ∀ k pc, [8][k]? = some pc → rx_OK (zV b e D A X) mX2_range 0 pc (j k)) : rx_OK (zV b e D A X) mX2_range 0 0 (vX2_range_0 j) := by
  unfold vX2_range_0
  refine s_iload_n hZ.1 dX2_range_0 rfl ?_
  refine s_istore_n hZ.1 dX2_range_1 rfl (Nat.le_of_ble_eq_true rfl) ?_
  refine s_aload_n hZ.1 dX2_range_2 rfl ?_
  refine yg7_12 dX2_range_3 zw1041 ?_
  refine s_istore hZ.1 dX2_range_6 (Nat.le_of_ble_eq_true rfl) ?_
  exact (wX2_range_8 hZ j hj)
noncomputable def vhX2_range (j : Nat → rx_K) : List rx_K := [vX2_range_8 j]
theorem vlX2_range (hZ : zO b e D A X) : ∀ n k pc, [8][k]? = some pc → rx_OK (zV b e D A X) mX2_range 0 pc (rx_J (vhX2_range) n k) := rx_loop fun j hj k pc h => by
  match k, h with
  | 0, h =>
    have e9 := Option.some.inj (show some 8 = some pc from h)
    subst e9
    exact wX2_range_8 hZ j hj
  | _ + 1, h => exact absurd h (by simp)
noncomputable def FX2_range : List Nat → rx_H → Option (Nat × rx_H) := rx_ent 5 (vX2_range_0 (rx_J (vhX2_range) 4000000000))
theorem Met_X2_range (hZ : zO b e D A X) : rx_Met (zV b e D A X) 0 yX2_range mX2_range (FX2_range) := rx_entry hZ.1 (wX2_range_0 hZ _ (vlX2_range hZ 4000000000)) (by decide +kernel) rfl (fun h => by cases h)
abbrev mX2_sameTokens : rx_M := (RX2, cX2_sameTokens, 7, (some .boolean), false)
theorem vy_X2_sameTokens : rx_Y (zV b e D A X) yX2_sameTokens mX2_sameTokens 1 := ⟨zw2669, zw429, by decide, by decide +kernel, by decide +kernel, by decide +kernel⟩
noncomputable def vX2_sameTokens_132 (j : Nat → rx_K) : rx_K := o_const 8 (o_ret1 rx_isZ)
set_option maxRecDepth 20000 in
theorem wX2_sameTokens_132 (hZ : zO b e D A X) (j : Nat → rx_K) (hj : ∀ k pc, [2, 83][k]? = some pc → rx_OK (zV b e D A X) mX2_sameTokens 0 pc (j k)) : rx_OK (zV b e D A X) mX2_sameTokens 0 132 (vX2_sameTokens_132 j) := by
  unfold vX2_sameTokens_132
  refine s_iconst dX2_sameTokens_132 (by decide +kernel) ?_
  exact s_zret rx_z_ok rfl dX2_sameTokens_133
noncomputable def vX2_sameTokens_126 (j : Nat → rx_K) : rx_K := o_inc 2 (1) ((j 0))
set_option maxRecDepth 20000 in
theorem wX2_sameTokens_126 (hZ : zO b e D A X) (j : Nat → rx_K) (hj : ∀ k pc, [2, 83][k]? = some pc → rx_OK (zV b e D A X) mX2_sameTokens 0 pc (j k)) : rx_OK (zV b e D A X) mX2_sameTokens 0 126 (vX2_sameTokens_126 j) := by
  unfold vX2_sameTokens_126
  refine s_iinc hZ.1 dX2_sameTokens_126 (Nat.le_of_ble_eq_true rfl) ?_
  exact s_goto dX2_sameTokens_129 (by decide) (hj 0 2 rfl)
noncomputable def vX2_sameTokens_120 (j : Nat → rx_K) : rx_K := o_inc 6 (1) ((j 1))
set_option maxRecDepth 20000 in
theorem wX2_sameTokens_120 (hZ : zO b e D A X) (j : Nat → rx_K) (hj : ∀ k pc, [2, 83][k]? = some pc → rx_OK (zV b e D A X) mX2_sameTokens 0 pc (j k)) : rx_OK (zV b e D A X) mX2_sameTokens 0 120 (vX2_sameTokens_120 j) := by
  unfold vX2_sameTokens_120
  refine s_iinc hZ.1 dX2_sameTokens_120 (Nat.le_of_ble_eq_true rfl) ?_
  exact s_goto dX2_sameTokens_123 (by decide) (hj 1 83 rfl)
noncomputable def vX2_sameTokens_118 (j : Nat → rx_K) : rx_K := o_const 0 (o_ret1 rx_isZ)
set_option maxRecDepth 20000 in
theorem wX2_sameTokens_118 (hZ : zO b e D A X) (j : Nat → rx_K) (hj : ∀ k pc, [2, 83][k]? = some pc → rx_OK (zV b e D A X) mX2_sameTokens 0 pc (j k)) : rx_OK (zV b e D A X) mX2_sameTokens 0 118 (vX2_sameTokens_118 j) := by
  unfold vX2_sameTokens_118
  refine s_iconst dX2_sameTokens_118 (by decide +kernel) ?_
  exact s_zret rx_z_ok rfl dX2_sameTokens_119
noncomputable def vX2_sameTokens_90 (j : Nat → rx_K) : rx_K := o_ld rx_isR 0 (o_getf 2 0 (o_getf 1 6 (o_ld rx_isI 3 (o_ld rx_isI 6 (o_bi (fun x y => x + y) (o_ald 2 (o_ld rx_isR 0 (o_getf 2 1 (o_getf 1 6 (o_ld rx_isI 5 (o_ld rx_isI 6 (o_bi (fun x y => x + y) (o_ald 2 (o_c2 rx_eq (vX2_sameTokens_120 j) (vX2_sameTokens_118 j)))))))))))))))
set_option maxRecDepth 20000 in
theorem wX2_sameTokens_90 (hZ : zO b e D A X) (j : Nat → rx_K) (hj : ∀ k pc, [2, 83][k]? = some pc → rx_OK (zV b e D A X) mX2_sameTokens 0 pc (j k)) : rx_OK (zV b e D A X) mX2_sameTokens 0 90 (vX2_sameTokens_90 j) := by
  unfold vX2_sameTokens_90
  refine s_aload_n hZ.1 dX2_sameTokens_90 rfl ?_
  refine yg2_0 dX2_sameTokens_91 zw1429 ?_
  refine yg1_6 dX2_sameTokens_94 zw1132 ?_
  refine s_iload_n hZ.1 dX2_sameTokens_97 rfl ?_
  refine s_iload hZ.1 dX2_sameTokens_98 ?_
  refine s_iadd dX2_sameTokens_100 ?_
  refine s_bald (tt := 2) rfl dX2_sameTokens_101 ?_
  refine s_aload_n hZ.1 dX2_sameTokens_102 rfl ?_
  refine yg2_1 dX2_sameTokens_103 zw1430 ?_
  refine yg1_6 dX2_sameTokens_106 zw1132 ?_
  refine s_iload hZ.1 dX2_sameTokens_109 ?_
  refine s_iload hZ.1 dX2_sameTokens_111 ?_
  refine s_iadd dX2_sameTokens_113 ?_
  refine s_bald (tt := 2) rfl dX2_sameTokens_114 ?_
  exact s_icmp_eq dX2_sameTokens_115 (by decide) (wX2_sameTokens_120 hZ j hj) (wX2_sameTokens_118 hZ j hj)
noncomputable def vX2_sameTokens_83 (j : Nat → rx_K) : rx_K := o_ld rx_isI 6 (o_ld rx_isI 4 (o_c2 rx_lt (vX2_sameTokens_90 j) (vX2_sameTokens_126 j)))
set_option maxRecDepth 20000 in
theorem wX2_sameTokens_83 (hZ : zO b e D A X) (j : Nat → rx_K) (hj : ∀ k pc, [2, 83][k]? = some pc → rx_OK (zV b e D A X) mX2_sameTokens 0 pc (j k)) : rx_OK (zV b e D A X) mX2_sameTokens 0 83 (vX2_sameTokens_83 j) := by
  unfold vX2_sameTokens_83
  refine s_iload hZ.1 dX2_sameTokens_83 ?_
  refine s_iload hZ.1 dX2_sameTokens_85 ?_
  exact s_icmp_ge dX2_sameTokens_87 (by decide) (wX2_sameTokens_126 hZ j hj) (wX2_sameTokens_90 hZ j hj)
noncomputable def vX2_sameTokens_80 (j : Nat → rx_K) : rx_K := o_const 0 (o_st rx_isI 6 ((vX2_sameTokens_83 j)))
set_option maxRecDepth 20000 in
theorem wX2_sameTokens_80 (hZ : zO b e D A X) (j : Nat → rx_K) (hj : ∀ k pc, [2, 83][k]? = some pc → rx_OK (zV b e D A X) mX2_sameTokens 0 pc (j k)) : rx_OK (zV b e D A X) mX2_sameTokens 0 80 (vX2_sameTokens_80 j) := by
  unfold vX2_sameTokens_80
  refine s_iconst dX2_sameTokens_80 (by decide +kernel) ?_
  refine s_istore hZ.1 dX2_sameTokens_81 (Nat.le_of_ble_eq_true rfl) ?_
  exact (wX2_sameTokens_83 hZ j hj)
noncomputable def vX2_sameTokens_78 (j : Nat → rx_K) : rx_K := o_const 0 (o_ret1 rx_isZ)
set_option maxRecDepth 20000 in
theorem wX2_sameTokens_78 (hZ : zO b e D A X) (j : Nat → rx_K) (hj : ∀ k pc, [2, 83][k]? = some pc → rx_OK (zV b e D A X) mX2_sameTokens 0 pc (j k)) : rx_OK (zV b e D A X) mX2_sameTokens 0 78 (vX2_sameTokens_78 j) := by
  unfold vX2_sameTokens_78
  refine s_iconst dX2_sameTokens_78 (by decide +kernel) ?_
  exact s_zret rx_z_ok rfl dX2_sameTokens_79
noncomputable def vX2_sameTokens_48 (j : Nat → rx_K) : rx_K := o_getf 2 9 (o_ld rx_isI 2 (o_ald 0 (o_ald 0 (o_st rx_isI 5 (o_ld rx_isR 0 (o_getf 2 1 (o_getf 1 9 (o_ld rx_isR 0 (o_getf 2 9 (o_ld rx_isI 2 (o_ald 0 (o_ald 0 (o_ld rx_isI 5 (o_bi (fun x y => x - y) (o_ld rx_isI 4 (o_c2 rx_eq (vX2_sameTokens_80 j) (vX2_sameTokens_78 j)))))))))))))))))
set_option maxRecDepth 20000 in
theorem wX2_sameTokens_48 (hZ : zO b e D A X) (j : Nat → rx_K) (hj : ∀ k pc, [2, 83][k]? = some pc → rx_OK (zV b e D A X) mX2_sameTokens 0 pc (j k)) : rx_OK (zV b e D A X) mX2_sameTokens 0 48 (vX2_sameTokens_48 j) := by
  unfold vX2_sameTokens_48
  refine yg2_9 dX2_sameTokens_48 zw1441 ?_
  refine s_iload_n hZ.1 dX2_sameTokens_51 rfl ?_
  refine s_iald (tt := 0) rfl dX2_sameTokens_52 ?_
  refine s_iald (tt := 0) rfl dX2_sameTokens_53 ?_
  refine s_istore hZ.1 dX2_sameTokens_54 (Nat.le_of_ble_eq_true rfl) ?_
  refine s_aload_n hZ.1 dX2_sameTokens_56 rfl ?_
  refine yg2_1 dX2_sameTokens_57 zw1430 ?_
  refine yg1_9 dX2_sameTokens_60 zw1142 ?_
  refine s_aload_n hZ.1 dX2_sameTokens_63 rfl ?_
  refine yg2_9 dX2_sameTokens_64 zw1441 ?_
  refine s_iload_n hZ.1 dX2_sameTokens_67 rfl ?_
  refine s_iald (tt := 0) rfl dX2_sameTokens_68 ?_
  refine s_iald (tt := 0) rfl dX2_sameTokens_69 ?_
  refine s_iload hZ.1 dX2_sameTokens_70 ?_
  refine s_isub dX2_sameTokens_72 ?_
  refine s_iload hZ.1 dX2_sameTokens_73 ?_
  exact s_icmp_eq dX2_sameTokens_75 (by decide) (wX2_sameTokens_80 hZ j hj) (wX2_sameTokens_78 hZ j hj)
noncomputable def vX2_sameTokens_7 (j : Nat → rx_K) : rx_K := o_ld rx_isR 0 (o_getf 2 0 (o_getf 1 8 (o_ld rx_isR 0 (o_getf 2 8 (o_ld rx_isI 2 (o_ald 0 (o_ald 0 (o_st rx_isI 3 (o_ld rx_isR 0 (o_getf 2 0 (o_getf 1 9 (o_ld rx_isR 0 (o_getf 2 8 (o_ld rx_isI 2 (o_ald 0 (o_ald 0 (o_ld rx_isI 3 (o_bi (fun x y => x - y) (o_st rx_isI 4 (o_ld rx_isR 0 (o_getf 2 1 (o_getf 1 8 (o_ld rx_isR 0 ((vX2_sameTokens_48 j)))))))))))))))))))))))))
set_option maxRecDepth 20000 in
theorem wX2_sameTokens_7 (hZ : zO b e D A X) (j : Nat → rx_K) (hj : ∀ k pc, [2, 83][k]? = some pc → rx_OK (zV b e D A X) mX2_sameTokens 0 pc (j k)) : rx_OK (zV b e D A X) mX2_sameTokens 0 7 (vX2_sameTokens_7 j) := by
  unfold vX2_sameTokens_7
  refine s_aload_n hZ.1 dX2_sameTokens_7 rfl ?_
  refine yg2_0 dX2_sameTokens_8 zw1429 ?_
  refine yg1_8 dX2_sameTokens_11 zw1138 ?_
  refine s_aload_n hZ.1 dX2_sameTokens_14 rfl ?_
  refine yg2_8 dX2_sameTokens_15 zw1440 ?_
  refine s_iload_n hZ.1 dX2_sameTokens_18 rfl ?_
  refine s_iald (tt := 0) rfl dX2_sameTokens_19 ?_
  refine s_iald (tt := 0) rfl dX2_sameTokens_20 ?_
  refine s_istore_n hZ.1 dX2_sameTokens_21 rfl (Nat.le_of_ble_eq_true rfl) ?_
  refine s_aload_n hZ.1 dX2_sameTokens_22 rfl ?_
  refine yg2_0 dX2_sameTokens_23 zw1429 ?_
  refine yg1_9 dX2_sameTokens_26 zw1142 ?_
  refine s_aload_n hZ.1 dX2_sameTokens_29 rfl ?_
  refine yg2_8 dX2_sameTokens_30 zw1440 ?_
  refine s_iload_n hZ.1 dX2_sameTokens_33 rfl ?_
  refine s_iald (tt := 0) rfl dX2_sameTokens_34 ?_
  refine s_iald (tt := 0) rfl dX2_sameTokens_35 ?_
  refine s_iload_n hZ.1 dX2_sameTokens_36 rfl ?_
  refine s_isub dX2_sameTokens_37 ?_
  refine s_istore hZ.1 dX2_sameTokens_38 (Nat.le_of_ble_eq_true rfl) ?_
  refine s_aload_n hZ.1 dX2_sameTokens_40 rfl ?_
  refine yg2_1 dX2_sameTokens_41 zw1430 ?_
  refine yg1_8 dX2_sameTokens_44 zw1138 ?_
  refine s_aload_n hZ.1 dX2_sameTokens_47 rfl ?_
  exact (wX2_sameTokens_48 hZ j hj)
noncomputable def vX2_sameTokens_2 (j : Nat → rx_K) : rx_K := o_ld rx_isI 2 (o_ld rx_isI 1 (o_c2 rx_lt (vX2_sameTokens_7 j) (vX2_sameTokens_132 j)))
set_option maxRecDepth 20000 in
theorem wX2_sameTokens_2 (hZ : zO b e D A X) (j : Nat → rx_K) (hj : ∀ k pc, [2, 83][k]? = some pc → rx_OK (zV b e D A X) mX2_sameTokens 0 pc (j k)) : rx_OK (zV b e D A X) mX2_sameTokens 0 2 (vX2_sameTokens_2 j) := by
  unfold vX2_sameTokens_2
  refine s_iload_n hZ.1 dX2_sameTokens_2 rfl ?_
  refine s_iload_n hZ.1 dX2_sameTokens_3 rfl ?_
  exact s_icmp_ge dX2_sameTokens_4 (by decide) (wX2_sameTokens_132 hZ j hj) (wX2_sameTokens_7 hZ j hj)
noncomputable def vX2_sameTokens_0 (j : Nat → rx_K) : rx_K := o_const 0 (o_st rx_isI 2 ((vX2_sameTokens_2 j)))
set_option maxRecDepth 20000 in
theorem wX2_sameTokens_0 (hZ : zO b e D A X) (j : Nat → rx_K) (hj : ∀ k pc, [2, 83][k]? = some pc → rx_OK (zV b e D A X) mX2_sameTokens 0 pc (j k)) : rx_OK (zV b e D A X) mX2_sameTokens 0 0 (vX2_sameTokens_0 j) := by
  unfold vX2_sameTokens_0
  refine s_iconst dX2_sameTokens_0 (by decide +kernel) ?_
  refine s_istore_n hZ.1 dX2_sameTokens_1 rfl (Nat.le_of_ble_eq_true rfl) ?_
  exact (wX2_sameTokens_2 hZ j hj)
noncomputable def vhX2_sameTokens (j : Nat → rx_K) : List rx_K := [vX2_sameTokens_2 j, vX2_sameTokens_83 j]
theorem vlX2_sameTokens (hZ : zO b e D A X) : ∀ n k pc, [2, 83][k]? = some pc → rx_OK (zV b e D A X) mX2_sameTokens 0 pc (rx_J (vhX2_sameTokens) n k) := rx_loop fun j hj k pc h => by
  match k, h with
  | 0, h =>
    have e9 := Option.some.inj (show some 2 = some pc from h)
    subst e9
    exact wX2_sameTokens_2 hZ j hj
  | 1, h =>
    have e9 := Option.some.inj (show some 83 = some pc from h)
    subst e9
    exact wX2_sameTokens_83 hZ j hj
  | _ + 2, h => exact absurd h (by simp)
noncomputable def FX2_sameTokens : List Nat → rx_H → Option (Nat × rx_H) := rx_ent 7 (vX2_sameTokens_0 (rx_J (vhX2_sameTokens) 4000000000))
theorem Met_X2_sameTokens (hZ : zO b e D A X) : rx_Met (zV b e D A X) 0 yX2_sameTokens mX2_sameTokens (FX2_sameTokens) := rx_entry hZ.1 (wX2_sameTokens_0 hZ _ (vlX2_sameTokens hZ 4000000000)) (by decide +kernel) rfl (fun h => by cases h)
abbrev mX2_sameBlocks : rx_M := (RX2, cX2_sameBlocks, 4, (some .boolean), false)
theorem vy_X2_sameBlocks : rx_Y (zV b e D A X) yX2_sameBlocks mX2_sameBlocks 2 := ⟨zw2662, zw429, by decide, by decide +kernel, by decide +kernel, by decide +kernel⟩
noncomputable def vX2_sameBlocks_96 : rx_K := o_ret1 rx_isZ
set_option maxRecDepth 20000 in
theorem wX2_sameBlocks_96 (hZ : zO b e D A X) : rx_OK (zV b e D A X) mX2_sameBlocks 1 96 vX2_sameBlocks_96 := by
  unfold vX2_sameBlocks_96
  exact s_zret rx_z_ok rfl dX2_sameBlocks_96
noncomputable def vX2_sameBlocks_95 : rx_K := o_const 0 (vX2_sameBlocks_96)
set_option maxRecDepth 20000 in
theorem wX2_sameBlocks_95 (hZ : zO b e D A X) : rx_OK (zV b e D A X) mX2_sameBlocks 1 95 vX2_sameBlocks_95 := by
  unfold vX2_sameBlocks_95
  refine s_iconst dX2_sameBlocks_95 (by decide +kernel) ?_
  exact (wX2_sameBlocks_96 hZ)
noncomputable def vX2_sameBlocks_91 : rx_K := o_const 8 (vX2_sameBlocks_96)
set_option maxRecDepth 20000 in
theorem wX2_sameBlocks_91 (hZ : zO b e D A X) : rx_OK (zV b e D A X) mX2_sameBlocks 1 91 vX2_sameBlocks_91 := by
  unfold vX2_sameBlocks_91
  refine s_iconst dX2_sameBlocks_91 (by decide +kernel) ?_
  exact s_goto dX2_sameBlocks_92 (by decide) (wX2_sameBlocks_96 hZ)
noncomputable def vX2_sameBlocks_83 : rx_K := o_ld rx_isR 0 (o_ld rx_isI 3 (o_callV 1 2 FX2_sameTokens (o_c1 rx_eq vX2_sameBlocks_95 vX2_sameBlocks_91)))
set_option maxRecDepth 20000 in
theorem wX2_sameBlocks_83 (hZ : zO b e D A X) : rx_OK (zV b e D A X) mX2_sameBlocks 1 83 vX2_sameBlocks_83 := by
  unfold vX2_sameBlocks_83
  refine s_aload_n hZ.1 dX2_sameBlocks_83 rfl ?_
  refine s_iload_n hZ.1 dX2_sameBlocks_84 rfl ?_
  refine s_callV hZ.1 (Met_X2_sameTokens hZ) (Nat.le_of_ble_eq_true rfl) vy_X2_sameTokens zcl2 zw2668 zw151 (Or.inl zw2666) dX2_sameBlocks_85 ?_
  exact s_if_eq dX2_sameBlocks_88 (by decide) (wX2_sameBlocks_95 hZ) (wX2_sameBlocks_91 hZ)
noncomputable def vX2_sameBlocks_60 : rx_K := o_ld rx_isR 1 (o_ld rx_isR 0 (o_getf 2 8 (o_const 0 (o_callS 3 FX2_range (o_st rx_isI 3 (o_ld rx_isI 3 (o_ld rx_isR 2 (o_ld rx_isR 0 (o_getf 2 9 (o_const 0 (o_callS 3 FX2_range (o_c2 rx_eq vX2_sameBlocks_83 vX2_sameBlocks_95))))))))))))
set_option maxRecDepth 20000 in
theorem wX2_sameBlocks_60 (hZ : zO b e D A X) : rx_OK (zV b e D A X) mX2_sameBlocks 1 60 vX2_sameBlocks_60 := by
  unfold vX2_sameBlocks_60
  refine s_aload_n hZ.1 dX2_sameBlocks_60 rfl ?_
  refine s_aload_n hZ.1 dX2_sameBlocks_61 rfl ?_
  refine yg2_8 dX2_sameBlocks_62 zw1440 ?_
  refine s_iconst dX2_sameBlocks_65 (by decide +kernel) ?_
  refine s_callS hZ.1 (Met_X2_range hZ) (Nat.le_of_ble_eq_true rfl) vy_X2_range zw2664 (Or.inl zw2663) dX2_sameBlocks_66 ?_
  refine s_istore_n hZ.1 dX2_sameBlocks_69 rfl (Nat.le_of_ble_eq_true rfl) ?_
  refine s_iload_n hZ.1 dX2_sameBlocks_70 rfl ?_
  refine s_aload_n hZ.1 dX2_sameBlocks_71 rfl ?_
  refine s_aload_n hZ.1 dX2_sameBlocks_72 rfl ?_
  refine yg2_9 dX2_sameBlocks_73 zw1441 ?_
  refine s_iconst dX2_sameBlocks_76 (by decide +kernel) ?_
  refine s_callS hZ.1 (Met_X2_range hZ) (Nat.le_of_ble_eq_true rfl) vy_X2_range zw2664 (Or.inl zw2663) dX2_sameBlocks_77 ?_
  exact s_icmp_ne dX2_sameBlocks_80 (by decide) (wX2_sameBlocks_95 hZ) (wX2_sameBlocks_83 hZ)
noncomputable def vX2_sameBlocks_59 : rx_K := o_ret1 rx_isZ
set_option maxRecDepth 20000 in
theorem wX2_sameBlocks_59 (hZ : zO b e D A X) : rx_OK (zV b e D A X) mX2_sameBlocks 1 59 vX2_sameBlocks_59 := by
  unfold vX2_sameBlocks_59
  exact s_zret rx_z_ok rfl dX2_sameBlocks_59
noncomputable def vX2_sameBlocks_58 : rx_K := o_const 0 (vX2_sameBlocks_59)
set_option maxRecDepth 20000 in
theorem wX2_sameBlocks_58 (hZ : zO b e D A X) : rx_OK (zV b e D A X) mX2_sameBlocks 1 58 vX2_sameBlocks_58 := by
  unfold vX2_sameBlocks_58
  refine s_iconst dX2_sameBlocks_58 (by decide +kernel) ?_
  exact (wX2_sameBlocks_59 hZ)
noncomputable def vX2_sameBlocks_54 : rx_K := o_const 8 (vX2_sameBlocks_59)
set_option maxRecDepth 20000 in
theorem wX2_sameBlocks_54 (hZ : zO b e D A X) : rx_OK (zV b e D A X) mX2_sameBlocks 1 54 vX2_sameBlocks_54 := by
  unfold vX2_sameBlocks_54
  refine s_iconst dX2_sameBlocks_54 (by decide +kernel) ?_
  exact s_goto dX2_sameBlocks_55 (by decide) (wX2_sameBlocks_59 hZ)
noncomputable def vX2_sameBlocks_41 : rx_K := o_ld rx_isR 2 (o_getf 7 13 (o_ld rx_isR 2 (o_getf 7 12 (o_bi (fun x y => x - y) (o_const 16 (o_c2 rx_eq vX2_sameBlocks_54 vX2_sameBlocks_58))))))
set_option maxRecDepth 20000 in
theorem wX2_sameBlocks_41 (hZ : zO b e D A X) : rx_OK (zV b e D A X) mX2_sameBlocks 1 41 vX2_sameBlocks_41 := by
  unfold vX2_sameBlocks_41
  refine s_aload_n hZ.1 dX2_sameBlocks_41 rfl ?_
  refine yg7_13 dX2_sameBlocks_42 zw1044 ?_
  refine s_aload_n hZ.1 dX2_sameBlocks_45 rfl ?_
  refine yg7_12 dX2_sameBlocks_46 zw1041 ?_
  refine s_isub dX2_sameBlocks_49 ?_
  refine s_iconst dX2_sameBlocks_50 (by decide +kernel) ?_
  exact s_icmp_ne dX2_sameBlocks_51 (by decide) (wX2_sameBlocks_58 hZ) (wX2_sameBlocks_54 hZ)
noncomputable def vX2_sameBlocks_34 : rx_K := o_ld rx_isR 2 (o_getf 7 6 (o_c1 rx_eq vX2_sameBlocks_54 vX2_sameBlocks_41))
set_option maxRecDepth 20000 in
theorem wX2_sameBlocks_34 (hZ : zO b e D A X) : rx_OK (zV b e D A X) mX2_sameBlocks 1 34 vX2_sameBlocks_34 := by
  unfold vX2_sameBlocks_34
  refine s_aload_n hZ.1 dX2_sameBlocks_34 rfl ?_
  refine yg7_6 dX2_sameBlocks_35 zw999 ?_
  exact s_if_eq dX2_sameBlocks_38 (by decide) (wX2_sameBlocks_54 hZ) (wX2_sameBlocks_41 hZ)
noncomputable def vX2_sameBlocks_21 : rx_K := o_ld rx_isR 1 (o_getf 7 13 (o_ld rx_isR 1 (o_getf 7 12 (o_bi (fun x y => x - y) (o_const 16 (o_c2 rx_eq vX2_sameBlocks_34 vX2_sameBlocks_58))))))
set_option maxRecDepth 20000 in
theorem wX2_sameBlocks_21 (hZ : zO b e D A X) : rx_OK (zV b e D A X) mX2_sameBlocks 1 21 vX2_sameBlocks_21 := by
  unfold vX2_sameBlocks_21
  refine s_aload_n hZ.1 dX2_sameBlocks_21 rfl ?_
  refine yg7_13 dX2_sameBlocks_22 zw1044 ?_
  refine s_aload_n hZ.1 dX2_sameBlocks_25 rfl ?_
  refine yg7_12 dX2_sameBlocks_26 zw1041 ?_
  refine s_isub dX2_sameBlocks_29 ?_
  refine s_iconst dX2_sameBlocks_30 (by decide +kernel) ?_
  exact s_icmp_ne dX2_sameBlocks_31 (by decide) (wX2_sameBlocks_58 hZ) (wX2_sameBlocks_34 hZ)
noncomputable def vX2_sameBlocks_14 : rx_K := o_ld rx_isR 1 (o_getf 7 6 (o_c1 rx_eq vX2_sameBlocks_34 vX2_sameBlocks_21))
set_option maxRecDepth 20000 in
theorem wX2_sameBlocks_14 (hZ : zO b e D A X) : rx_OK (zV b e D A X) mX2_sameBlocks 1 14 vX2_sameBlocks_14 := by
  unfold vX2_sameBlocks_14
  refine s_aload_n hZ.1 dX2_sameBlocks_14 rfl ?_
  refine yg7_6 dX2_sameBlocks_15 zw999 ?_
  exact s_if_eq dX2_sameBlocks_18 (by decide) (wX2_sameBlocks_34 hZ) (wX2_sameBlocks_21 hZ)
noncomputable def vX2_sameBlocks_7 : rx_K := o_ld rx_isR 2 (o_getf 7 6 (o_c1 rx_eq vX2_sameBlocks_14 vX2_sameBlocks_60))
set_option maxRecDepth 20000 in
theorem wX2_sameBlocks_7 (hZ : zO b e D A X) : rx_OK (zV b e D A X) mX2_sameBlocks 1 7 vX2_sameBlocks_7 := by
  unfold vX2_sameBlocks_7
  refine s_aload_n hZ.1 dX2_sameBlocks_7 rfl ?_
  refine yg7_6 dX2_sameBlocks_8 zw999 ?_
  exact s_if_ne dX2_sameBlocks_11 (by decide) (wX2_sameBlocks_60 hZ) (wX2_sameBlocks_14 hZ)
noncomputable def vX2_sameBlocks_0 : rx_K := o_ld rx_isR 1 (o_getf 7 6 (o_c1 rx_eq vX2_sameBlocks_14 vX2_sameBlocks_7))
set_option maxRecDepth 20000 in
theorem wX2_sameBlocks_0 (hZ : zO b e D A X) : rx_OK (zV b e D A X) mX2_sameBlocks 1 0 vX2_sameBlocks_0 := by
  unfold vX2_sameBlocks_0
  refine s_aload_n hZ.1 dX2_sameBlocks_0 rfl ?_
  refine yg7_6 dX2_sameBlocks_1 zw999 ?_
  exact s_if_eq dX2_sameBlocks_4 (by decide) (wX2_sameBlocks_14 hZ) (wX2_sameBlocks_7 hZ)
noncomputable def FX2_sameBlocks : List Nat → rx_H → Option (Nat × rx_H) := rx_ent 4 vX2_sameBlocks_0
theorem Met_X2_sameBlocks (hZ : zO b e D A X) : rx_Met (zV b e D A X) 1 yX2_sameBlocks mX2_sameBlocks (FX2_sameBlocks) := rx_entry hZ.1 (wX2_sameBlocks_0 hZ) (by decide +kernel) rfl (fun h => by cases h)
abbrev mX10_maker : rx_M := (RX10, cX10_maker, 4, (some (.object "LinkHouse$Member")), false)
theorem vy_X10_maker : rx_Y (zV b e D A X) yX10_maker mX10_maker 1 := ⟨zw2522, zw425, by decide, by decide +kernel, by decide +kernel, by decide +kernel⟩
noncomputable def vX10_maker_41 (j : Nat → rx_K) : rx_K := o_const 3 (o_ret1 rx_isR)
set_option maxRecDepth 20000 in
theorem wX10_maker_41 (hZ : zO b e D A X) (j : Nat → rx_K) (hj : ∀ k pc, [2][k]? = some pc → rx_OK (zV b e D A X) mX10_maker 1 pc (j k)) : rx_OK (zV b e D A X) mX10_maker 1 41 (vX10_maker_41 j) := by
  unfold vX10_maker_41
  refine s_null dX10_maker_41 ?_
  exact s_aret hZ.1 rfl (Or.inl ⟨_, rfl⟩) dX10_maker_42
noncomputable def vX10_maker_35 (j : Nat → rx_K) : rx_K := o_inc 2 (1) ((j 0))
set_option maxRecDepth 20000 in
theorem wX10_maker_35 (hZ : zO b e D A X) (j : Nat → rx_K) (hj : ∀ k pc, [2][k]? = some pc → rx_OK (zV b e D A X) mX10_maker 1 pc (j k)) : rx_OK (zV b e D A X) mX10_maker 1 35 (vX10_maker_35 j) := by
  unfold vX10_maker_35
  refine s_iinc hZ.1 dX10_maker_35 (Nat.le_of_ble_eq_true rfl) ?_
  exact s_goto dX10_maker_38 (by decide) (hj 0 2 rfl)
noncomputable def vX10_maker_33 (j : Nat → rx_K) : rx_K := o_ld rx_isR 3 (o_ret1 rx_isR)
set_option maxRecDepth 20000 in
theorem wX10_maker_33 (hZ : zO b e D A X) (j : Nat → rx_K) (hj : ∀ k pc, [2][k]? = some pc → rx_OK (zV b e D A X) mX10_maker 1 pc (j k)) : rx_OK (zV b e D A X) mX10_maker 1 33 (vX10_maker_33 j) := by
  unfold vX10_maker_33
  refine s_aload_n hZ.1 dX10_maker_33 rfl ?_
  exact s_aret hZ.1 rfl (Or.inl ⟨_, rfl⟩) dX10_maker_34
noncomputable def vX10_maker_25 (j : Nat → rx_K) : rx_K := o_ld rx_isR 3 (o_ld rx_isR 1 (o_callV 1 7 FX7_sameParams (o_c1 rx_eq (vX10_maker_35 j) (vX10_maker_33 j))))
set_option maxRecDepth 20000 in
theorem wX10_maker_25 (hZ : zO b e D A X) (j : Nat → rx_K) (hj : ∀ k pc, [2][k]? = some pc → rx_OK (zV b e D A X) mX10_maker 1 pc (j k)) : rx_OK (zV b e D A X) mX10_maker 1 25 (vX10_maker_25 j) := by
  unfold vX10_maker_25
  refine s_aload_n hZ.1 dX10_maker_25 rfl ?_
  refine s_aload_n hZ.1 dX10_maker_26 rfl ?_
  refine s_callV hZ.1 (Met_X7_sameParams hZ) (Nat.le_of_ble_eq_true rfl) vy_X7_sameParams zcl7 zw1953 zw1954 (Or.inl zw1968) dX10_maker_27 ?_
  exact s_if_eq dX10_maker_30 (by decide) (wX10_maker_35 hZ j hj) (wX10_maker_33 hZ j hj)
noncomputable def vX10_maker_10 (j : Nat → rx_K) : rx_K := o_ld rx_isR 0 (o_getf 10 14 (o_ld rx_isI 2 (o_ald 5 (o_st rx_isR 3 (o_ld rx_isR 3 (o_getf 7 0 (o_const 16 (o_c2 rx_eq (vX10_maker_25 j) (vX10_maker_35 j)))))))))
set_option maxRecDepth 20000 in
theorem wX10_maker_10 (hZ : zO b e D A X) (j : Nat → rx_K) (hj : ∀ k pc, [2][k]? = some pc → rx_OK (zV b e D A X) mX10_maker 1 pc (j k)) : rx_OK (zV b e D A X) mX10_maker 1 10 (vX10_maker_10 j) := by
  unfold vX10_maker_10
  refine s_aload_n hZ.1 dX10_maker_10 rfl ?_
  refine yg10_14 dX10_maker_11 zw858 ?_
  refine s_iload_n hZ.1 dX10_maker_14 rfl ?_
  refine s_aald (tt := 5) rfl rfl dX10_maker_15 ?_
  refine s_astore_n hZ.1 dX10_maker_16 rfl (Nat.le_of_ble_eq_true rfl) ?_
  refine s_aload_n hZ.1 dX10_maker_17 rfl ?_
  refine yg7_0 dX10_maker_18 zw947 ?_
  refine s_iconst dX10_maker_21 (by decide +kernel) ?_
  exact s_icmp_ne dX10_maker_22 (by decide) (wX10_maker_35 hZ j hj) (wX10_maker_25 hZ j hj)
noncomputable def vX10_maker_2 (j : Nat → rx_K) : rx_K := o_ld rx_isI 2 (o_ld rx_isR 0 (o_getf 10 15 (o_c2 rx_lt (vX10_maker_10 j) (vX10_maker_41 j))))
set_option maxRecDepth 20000 in
theorem wX10_maker_2 (hZ : zO b e D A X) (j : Nat → rx_K) (hj : ∀ k pc, [2][k]? = some pc → rx_OK (zV b e D A X) mX10_maker 1 pc (j k)) : rx_OK (zV b e D A X) mX10_maker 1 2 (vX10_maker_2 j) := by
  unfold vX10_maker_2
  refine s_iload_n hZ.1 dX10_maker_2 rfl ?_
  refine s_aload_n hZ.1 dX10_maker_3 rfl ?_
  refine yg10_15 dX10_maker_4 zw866 ?_
  exact s_icmp_ge dX10_maker_7 (by decide) (wX10_maker_41 hZ j hj) (wX10_maker_10 hZ j hj)
noncomputable def vX10_maker_0 (j : Nat → rx_K) : rx_K := o_const 0 (o_st rx_isI 2 ((vX10_maker_2 j)))
set_option maxRecDepth 20000 in
theorem wX10_maker_0 (hZ : zO b e D A X) (j : Nat → rx_K) (hj : ∀ k pc, [2][k]? = some pc → rx_OK (zV b e D A X) mX10_maker 1 pc (j k)) : rx_OK (zV b e D A X) mX10_maker 1 0 (vX10_maker_0 j) := by
  unfold vX10_maker_0
  refine s_iconst dX10_maker_0 (by decide +kernel) ?_
  refine s_istore_n hZ.1 dX10_maker_1 rfl (Nat.le_of_ble_eq_true rfl) ?_
  exact (wX10_maker_2 hZ j hj)
noncomputable def vhX10_maker (j : Nat → rx_K) : List rx_K := [vX10_maker_2 j]
theorem vlX10_maker (hZ : zO b e D A X) : ∀ n k pc, [2][k]? = some pc → rx_OK (zV b e D A X) mX10_maker 1 pc (rx_J (vhX10_maker) n k) := rx_loop fun j hj k pc h => by
  match k, h with
  | 0, h =>
    have e9 := Option.some.inj (show some 2 = some pc from h)
    subst e9
    exact wX10_maker_2 hZ j hj
  | _ + 1, h => exact absurd h (by simp)
noncomputable def FX10_maker : List Nat → rx_H → Option (Nat × rx_H) := rx_ent 4 (vX10_maker_0 (rx_J (vhX10_maker) 4000000000))
theorem Met_X10_maker (hZ : zO b e D A X) : rx_Met (zV b e D A X) 1 yX10_maker mX10_maker (FX10_maker) := rx_entry hZ.1 (wX10_maker_0 hZ _ (vlX10_maker hZ 4000000000)) (by decide +kernel) rfl (fun h => by cases h)
abbrev mX2_makers : rx_M := (RX2, cX2_makers, 8, (some .int), false)
theorem vy_X2_makers : rx_Y (zV b e D A X) yX2_makers mX2_makers 2 := ⟨zw2673, zw429, by decide, by decide +kernel, by decide +kernel, by decide +kernel⟩
noncomputable def vX2_makers_206 (j : Nat → rx_K) : rx_K := o_ld rx_isI 3 (o_ret1 rx_isI)
set_option maxRecDepth 20000 in
theorem wX2_makers_206 (hZ : zO b e D A X) (j : Nat → rx_K) (hj : ∀ k pc, [5, 147][k]? = some pc → rx_OK (zV b e D A X) mX2_makers 3 pc (j k)) : rx_OK (zV b e D A X) mX2_makers 3 206 (vX2_makers_206 j) := by
  unfold vX2_makers_206
  refine s_iload_n hZ.1 dX2_makers_206 rfl ?_
  exact s_iret hZ.1 rfl dX2_makers_207
noncomputable def vX2_makers_198 (j : Nat → rx_K) : rx_K := o_bi (fun x y => x + y) (o_st rx_isI 3 (o_inc 4 (1) ((j 1))))
set_option maxRecDepth 20000 in
theorem wX2_makers_198 (hZ : zO b e D A X) (j : Nat → rx_K) (hj : ∀ k pc, [5, 147][k]? = some pc → rx_OK (zV b e D A X) mX2_makers 3 pc (j k)) : rx_OK (zV b e D A X) mX2_makers 3 198 (vX2_makers_198 j) := by
  unfold vX2_makers_198
  refine s_iadd dX2_makers_198 ?_
  refine s_istore_n hZ.1 dX2_makers_199 rfl (Nat.le_of_ble_eq_true rfl) ?_
  refine s_iinc hZ.1 dX2_makers_200 (Nat.le_of_ble_eq_true rfl) ?_
  exact s_goto dX2_makers_203 (by decide) (hj 1 147 rfl)
noncomputable def vX2_makers_197 (j : Nat → rx_K) : rx_K := o_const 0 ((vX2_makers_198 j))
set_option maxRecDepth 20000 in
theorem wX2_makers_197 (hZ : zO b e D A X) (j : Nat → rx_K) (hj : ∀ k pc, [5, 147][k]? = some pc → rx_OK (zV b e D A X) mX2_makers 3 pc (j k)) : rx_OK (zV b e D A X) mX2_makers 3 197 (vX2_makers_197 j) := by
  unfold vX2_makers_197
  refine s_iconst dX2_makers_197 (by decide +kernel) ?_
  exact (wX2_makers_198 hZ j hj)
noncomputable def vX2_makers_184 (j : Nat → rx_K) : rx_K := o_ld rx_isR 0 (o_const 432 (o_const 34359738352 (o_ld rx_isI 4 (o_callV 3 2 FX2_note ((vX2_makers_198 j))))))
set_option maxRecDepth 20000 in
theorem wX2_makers_184 (hZ : zO b e D A X) (j : Nat → rx_K) (hj : ∀ k pc, [5, 147][k]? = some pc → rx_OK (zV b e D A X) mX2_makers 3 pc (j k)) : rx_OK (zV b e D A X) mX2_makers 3 184 (vX2_makers_184 j) := by
  unfold vX2_makers_184
  refine s_aload_n hZ.1 dX2_makers_184 rfl ?_
  refine s_bipush dX2_makers_185 (by decide +kernel) ?_
  refine s_bipush dX2_makers_187 (by decide +kernel) ?_
  refine s_iload hZ.1 dX2_makers_189 ?_
  refine s_callV hZ.1 (Met_X2_note hZ) (Nat.le_of_ble_eq_true rfl) vy_X2_note zcl2 zw2609 zw140 (Or.inl zw2607) dX2_makers_191 ?_
  exact s_goto dX2_makers_194 (by decide) (wX2_makers_198 hZ j hj)
noncomputable def vX2_makers_175 (j : Nat → rx_K) : rx_K := o_ld rx_isR 1 (o_ld rx_isR 5 (o_callV 1 10 FX10_maker (o_nul (vX2_makers_184 j) (vX2_makers_197 j))))
set_option maxRecDepth 20000 in
theorem wX2_makers_175 (hZ : zO b e D A X) (j : Nat → rx_K) (hj : ∀ k pc, [5, 147][k]? = some pc → rx_OK (zV b e D A X) mX2_makers 3 pc (j k)) : rx_OK (zV b e D A X) mX2_makers 3 175 (vX2_makers_175 j) := by
  unfold vX2_makers_175
  refine s_aload_n hZ.1 dX2_makers_175 rfl ?_
  refine s_aload hZ.1 dX2_makers_176 ?_
  refine s_callV hZ.1 (Met_X10_maker hZ) (Nat.le_of_ble_eq_true rfl) vy_X10_maker zcl10 zw2520 zw2521 (Or.inl zw2674) dX2_makers_178 ?_
  exact s_ifnonnull dX2_makers_181 (by decide) (wX2_makers_197 hZ j hj) (wX2_makers_184 hZ j hj)
noncomputable def vX2_makers_156 (j : Nat → rx_K) : rx_K := o_ld rx_isR 2 (o_getf 10 14 (o_ld rx_isI 4 (o_ald 5 (o_st rx_isR 5 (o_ld rx_isI 3 (o_ld rx_isR 5 (o_getf 7 0 (o_const 16 (o_c2 rx_eq (vX2_makers_175 j) (vX2_makers_197 j))))))))))
set_option maxRecDepth 20000 in
theorem wX2_makers_156 (hZ : zO b e D A X) (j : Nat → rx_K) (hj : ∀ k pc, [5, 147][k]? = some pc → rx_OK (zV b e D A X) mX2_makers 3 pc (j k)) : rx_OK (zV b e D A X) mX2_makers 3 156 (vX2_makers_156 j) := by
  unfold vX2_makers_156
  refine s_aload_n hZ.1 dX2_makers_156 rfl ?_
  refine yg10_14 dX2_makers_157 zw861 ?_
  refine s_iload hZ.1 dX2_makers_160 ?_
  refine s_aald (tt := 5) rfl rfl dX2_makers_162 ?_
  refine s_astore hZ.1 dX2_makers_163 (Nat.le_of_ble_eq_true rfl) ?_
  refine s_iload_n hZ.1 dX2_makers_165 rfl ?_
  refine s_aload hZ.1 dX2_makers_166 ?_
  refine yg7_0 dX2_makers_168 zw948 ?_
  refine s_iconst dX2_makers_171 (by decide +kernel) ?_
  exact s_icmp_ne dX2_makers_172 (by decide) (wX2_makers_197 hZ j hj) (wX2_makers_175 hZ j hj)
noncomputable def vX2_makers_147 (j : Nat → rx_K) : rx_K := o_ld rx_isI 4 (o_ld rx_isR 2 (o_getf 10 15 (o_c2 rx_lt (vX2_makers_156 j) (vX2_makers_206 j))))
set_option maxRecDepth 20000 in
theorem wX2_makers_147 (hZ : zO b e D A X) (j : Nat → rx_K) (hj : ∀ k pc, [5, 147][k]? = some pc → rx_OK (zV b e D A X) mX2_makers 3 pc (j k)) : rx_OK (zV b e D A X) mX2_makers 3 147 (vX2_makers_147 j) := by
  unfold vX2_makers_147
  refine s_iload hZ.1 dX2_makers_147 ?_
  refine s_aload_n hZ.1 dX2_makers_149 rfl ?_
  refine yg10_15 dX2_makers_150 zw869 ?_
  exact s_icmp_ge dX2_makers_153 (by decide) (wX2_makers_206 hZ j hj) (wX2_makers_156 hZ j hj)
noncomputable def vX2_makers_144 (j : Nat → rx_K) : rx_K := o_const 0 (o_st rx_isI 4 ((vX2_makers_147 j)))
set_option maxRecDepth 20000 in
theorem wX2_makers_144 (hZ : zO b e D A X) (j : Nat → rx_K) (hj : ∀ k pc, [5, 147][k]? = some pc → rx_OK (zV b e D A X) mX2_makers 3 pc (j k)) : rx_OK (zV b e D A X) mX2_makers 3 144 (vX2_makers_144 j) := by
  unfold vX2_makers_144
  refine s_iconst dX2_makers_144 (by decide +kernel) ?_
  refine s_istore hZ.1 dX2_makers_145 (Nat.le_of_ble_eq_true rfl) ?_
  exact (wX2_makers_147 hZ j hj)
noncomputable def vX2_makers_138 (j : Nat → rx_K) : rx_K := o_inc 4 (1) ((j 0))
set_option maxRecDepth 20000 in
theorem wX2_makers_138 (hZ : zO b e D A X) (j : Nat → rx_K) (hj : ∀ k pc, [5, 147][k]? = some pc → rx_OK (zV b e D A X) mX2_makers 3 pc (j k)) : rx_OK (zV b e D A X) mX2_makers 3 138 (vX2_makers_138 j) := by
  unfold vX2_makers_138
  refine s_iinc hZ.1 dX2_makers_138 (Nat.le_of_ble_eq_true rfl) ?_
  exact s_goto dX2_makers_141 (by decide) (hj 0 5 rfl)
noncomputable def vX2_makers_136 (j : Nat → rx_K) : rx_K := o_bi (fun x y => x + y) (o_st rx_isI 3 ((vX2_makers_138 j)))
set_option maxRecDepth 20000 in
theorem wX2_makers_136 (hZ : zO b e D A X) (j : Nat → rx_K) (hj : ∀ k pc, [5, 147][k]? = some pc → rx_OK (zV b e D A X) mX2_makers 3 pc (j k)) : rx_OK (zV b e D A X) mX2_makers 3 136 (vX2_makers_136 j) := by
  unfold vX2_makers_136
  refine s_iadd dX2_makers_136 ?_
  refine s_istore_n hZ.1 dX2_makers_137 rfl (Nat.le_of_ble_eq_true rfl) ?_
  exact (wX2_makers_138 hZ j hj)
noncomputable def vX2_makers_126 (j : Nat → rx_K) : rx_K := o_ld rx_isR 0 (o_const 424 (o_ld rx_isI 4 (o_ld rx_isI 7 (o_callV 3 2 FX2_note ((vX2_makers_136 j))))))
set_option maxRecDepth 20000 in
theorem wX2_makers_126 (hZ : zO b e D A X) (j : Nat → rx_K) (hj : ∀ k pc, [5, 147][k]? = some pc → rx_OK (zV b e D A X) mX2_makers 3 pc (j k)) : rx_OK (zV b e D A X) mX2_makers 3 126 (vX2_makers_126 j) := by
  unfold vX2_makers_126
  refine s_aload_n hZ.1 dX2_makers_126 rfl ?_
  refine s_bipush dX2_makers_127 (by decide +kernel) ?_
  refine s_iload hZ.1 dX2_makers_129 ?_
  refine s_iload hZ.1 dX2_makers_131 ?_
  refine s_callV hZ.1 (Met_X2_note hZ) (Nat.le_of_ble_eq_true rfl) vy_X2_note zcl2 zw2609 zw140 (Or.inl zw2607) dX2_makers_133 ?_
  exact (wX2_makers_136 hZ j hj)
noncomputable def vX2_makers_122 (j : Nat → rx_K) : rx_K := o_const 0 ((vX2_makers_136 j))
set_option maxRecDepth 20000 in
theorem wX2_makers_122 (hZ : zO b e D A X) (j : Nat → rx_K) (hj : ∀ k pc, [5, 147][k]? = some pc → rx_OK (zV b e D A X) mX2_makers 3 pc (j k)) : rx_OK (zV b e D A X) mX2_makers 3 122 (vX2_makers_122 j) := by
  unfold vX2_makers_122
  refine s_iconst dX2_makers_122 (by decide +kernel) ?_
  exact s_goto dX2_makers_123 (by decide) (wX2_makers_136 hZ j hj)
noncomputable def vX2_makers_79 (j : Nat → rx_K) : rx_K := o_ld rx_isR 2 (o_ld rx_isR 6 (o_callS 2 FX2_indexIn (o_st rx_isI 7 (o_ld rx_isI 3 (o_ld rx_isR 0 (o_ld rx_isR 5 (o_getf 7 1 (o_ld rx_isR 6 (o_getf 7 1 (o_const 408 (o_ld rx_isI 4 (o_ld rx_isI 7 (o_callV 5 2 FX2_access (o_bi (fun x y => x + y) (o_st rx_isI 3 (o_ld rx_isI 3 (o_ld rx_isR 0 (o_ld rx_isR 5 (o_ld rx_isR 6 (o_callV 2 2 FX2_sameBlocks (o_c1 rx_eq (vX2_makers_126 j) (vX2_makers_122 j))))))))))))))))))))))
set_option maxRecDepth 20000 in
theorem wX2_makers_79 (hZ : zO b e D A X) (j : Nat → rx_K) (hj : ∀ k pc, [5, 147][k]? = some pc → rx_OK (zV b e D A X) mX2_makers 3 pc (j k)) : rx_OK (zV b e D A X) mX2_makers 3 79 (vX2_makers_79 j) := by
  unfold vX2_makers_79
  refine s_aload_n hZ.1 dX2_makers_79 rfl ?_
  refine s_aload hZ.1 dX2_makers_80 ?_
  refine s_callS hZ.1 (Met_X2_indexIn hZ) (Nat.le_of_ble_eq_true rfl) vy_X2_indexIn zw2640 (Or.inl zw2639) dX2_makers_82 ?_
  refine s_istore hZ.1 dX2_makers_85 (Nat.le_of_ble_eq_true rfl) ?_
  refine s_iload_n hZ.1 dX2_makers_87 rfl ?_
  refine s_aload_n hZ.1 dX2_makers_88 rfl ?_
  refine s_aload hZ.1 dX2_makers_89 ?_
  refine yg7_1 dX2_makers_91 zw956 ?_
  refine s_aload hZ.1 dX2_makers_94 ?_
  refine yg7_1 dX2_makers_96 zw956 ?_
  refine s_bipush dX2_makers_99 (by decide +kernel) ?_
  refine s_iload hZ.1 dX2_makers_101 ?_
  refine s_iload hZ.1 dX2_makers_103 ?_
  refine s_callV hZ.1 (Met_X2_access hZ) (Nat.le_of_ble_eq_true rfl) vy_X2_access zcl2 zw2648 zw147 (Or.inl zw2646) dX2_makers_105 ?_
  refine s_iadd dX2_makers_108 ?_
  refine s_istore_n hZ.1 dX2_makers_109 rfl (Nat.le_of_ble_eq_true rfl) ?_
  refine s_iload_n hZ.1 dX2_makers_110 rfl ?_
  refine s_aload_n hZ.1 dX2_makers_111 rfl ?_
  refine s_aload hZ.1 dX2_makers_112 ?_
  refine s_aload hZ.1 dX2_makers_114 ?_
  refine s_callV hZ.1 (Met_X2_sameBlocks hZ) (Nat.le_of_ble_eq_true rfl) vy_X2_sameBlocks zcl2 zw2661 zw150 (Or.inl zw2659) dX2_makers_116 ?_
  exact s_if_eq dX2_makers_119 (by decide) (wX2_makers_126 hZ j hj) (wX2_makers_122 hZ j hj)
noncomputable def vX2_makers_74 (j : Nat → rx_K) : rx_K := o_ld rx_isR 6 (o_nul (vX2_makers_138 j) (vX2_makers_79 j))
set_option maxRecDepth 20000 in
theorem wX2_makers_74 (hZ : zO b e D A X) (j : Nat → rx_K) (hj : ∀ k pc, [5, 147][k]? = some pc → rx_OK (zV b e D A X) mX2_makers 3 pc (j k)) : rx_OK (zV b e D A X) mX2_makers 3 74 (vX2_makers_74 j) := by
  unfold vX2_makers_74
  refine s_aload hZ.1 dX2_makers_74 ?_
  exact s_ifnull dX2_makers_76 (by decide) (wX2_makers_138 hZ j hj) (wX2_makers_79 hZ j hj)
noncomputable def vX2_makers_58 (j : Nat → rx_K) : rx_K := o_ld rx_isI 3 (o_ld rx_isR 0 (o_const 400 (o_ld rx_isI 4 (o_const 34359738352 (o_callV 3 2 FX2_note (o_bi (fun x y => x + y) (o_st rx_isI 3 ((vX2_makers_138 j)))))))))
set_option maxRecDepth 20000 in
theorem wX2_makers_58 (hZ : zO b e D A X) (j : Nat → rx_K) (hj : ∀ k pc, [5, 147][k]? = some pc → rx_OK (zV b e D A X) mX2_makers 3 pc (j k)) : rx_OK (zV b e D A X) mX2_makers 3 58 (vX2_makers_58 j) := by
  unfold vX2_makers_58
  refine s_iload_n hZ.1 dX2_makers_58 rfl ?_
  refine s_aload_n hZ.1 dX2_makers_59 rfl ?_
  refine s_bipush dX2_makers_60 (by decide +kernel) ?_
  refine s_iload hZ.1 dX2_makers_62 ?_
  refine s_bipush dX2_makers_64 (by decide +kernel) ?_
  refine s_callV hZ.1 (Met_X2_note hZ) (Nat.le_of_ble_eq_true rfl) vy_X2_note zcl2 zw2609 zw140 (Or.inl zw2607) dX2_makers_66 ?_
  refine s_iadd dX2_makers_69 ?_
  refine s_istore_n hZ.1 dX2_makers_70 rfl (Nat.le_of_ble_eq_true rfl) ?_
  exact s_goto dX2_makers_71 (by decide) (wX2_makers_138 hZ j hj)
noncomputable def vX2_makers_53 (j : Nat → rx_K) : rx_K := o_ld rx_isR 6 (o_nul (vX2_makers_58 j) (vX2_makers_74 j))
set_option maxRecDepth 20000 in
theorem wX2_makers_53 (hZ : zO b e D A X) (j : Nat → rx_K) (hj : ∀ k pc, [5, 147][k]? = some pc → rx_OK (zV b e D A X) mX2_makers 3 pc (j k)) : rx_OK (zV b e D A X) mX2_makers 3 53 (vX2_makers_53 j) := by
  unfold vX2_makers_53
  refine s_aload hZ.1 dX2_makers_53 ?_
  exact s_ifnonnull dX2_makers_55 (by decide) (wX2_makers_74 hZ j hj) (wX2_makers_58 hZ j hj)
noncomputable def vX2_makers_42 (j : Nat → rx_K) : rx_K := o_st rx_isR 6 (o_ld rx_isR 5 (o_getf 7 0 (o_const 16 (o_c2 rx_eq (vX2_makers_53 j) (vX2_makers_74 j)))))
set_option maxRecDepth 20000 in
theorem wX2_makers_42 (hZ : zO b e D A X) (j : Nat → rx_K) (hj : ∀ k pc, [5, 147][k]? = some pc → rx_OK (zV b e D A X) mX2_makers 3 pc (j k)) : rx_OK (zV b e D A X) mX2_makers 3 42 (vX2_makers_42 j) := by
  unfold vX2_makers_42
  refine s_astore hZ.1 dX2_makers_42 (Nat.le_of_ble_eq_true rfl) ?_
  refine s_aload hZ.1 dX2_makers_44 ?_
  refine yg7_0 dX2_makers_46 zw948 ?_
  refine s_iconst dX2_makers_49 (by decide +kernel) ?_
  exact s_icmp_ne dX2_makers_50 (by decide) (wX2_makers_74 hZ j hj) (wX2_makers_53 hZ j hj)
noncomputable def vX2_makers_41 (j : Nat → rx_K) : rx_K := o_const 3 ((vX2_makers_42 j))
set_option maxRecDepth 20000 in
theorem wX2_makers_41 (hZ : zO b e D A X) (j : Nat → rx_K) (hj : ∀ k pc, [5, 147][k]? = some pc → rx_OK (zV b e D A X) mX2_makers 3 pc (j k)) : rx_OK (zV b e D A X) mX2_makers 3 41 (vX2_makers_41 j) := by
  unfold vX2_makers_41
  refine s_null dX2_makers_41 ?_
  exact (wX2_makers_42 hZ j hj)
noncomputable def vX2_makers_32 (j : Nat → rx_K) : rx_K := o_ld rx_isR 2 (o_ld rx_isR 5 (o_callV 1 10 FX10_maker ((vX2_makers_42 j))))
set_option maxRecDepth 20000 in
theorem wX2_makers_32 (hZ : zO b e D A X) (j : Nat → rx_K) (hj : ∀ k pc, [5, 147][k]? = some pc → rx_OK (zV b e D A X) mX2_makers 3 pc (j k)) : rx_OK (zV b e D A X) mX2_makers 3 32 (vX2_makers_32 j) := by
  unfold vX2_makers_32
  refine s_aload_n hZ.1 dX2_makers_32 rfl ?_
  refine s_aload hZ.1 dX2_makers_33 ?_
  refine s_callV hZ.1 (Met_X10_maker hZ) (Nat.le_of_ble_eq_true rfl) vy_X10_maker zcl10 zw2520 zw2521 (Or.inl zw2674) dX2_makers_35 ?_
  exact s_goto dX2_makers_38 (by decide) (wX2_makers_42 hZ j hj)
noncomputable def vX2_makers_14 (j : Nat → rx_K) : rx_K := o_ld rx_isR 1 (o_getf 10 14 (o_ld rx_isI 4 (o_ald 5 (o_st rx_isR 5 (o_ld rx_isR 5 (o_getf 7 0 (o_const 16 (o_c2 rx_eq (vX2_makers_32 j) (vX2_makers_41 j)))))))))
set_option maxRecDepth 20000 in
theorem wX2_makers_14 (hZ : zO b e D A X) (j : Nat → rx_K) (hj : ∀ k pc, [5, 147][k]? = some pc → rx_OK (zV b e D A X) mX2_makers 3 pc (j k)) : rx_OK (zV b e D A X) mX2_makers 3 14 (vX2_makers_14 j) := by
  unfold vX2_makers_14
  refine s_aload_n hZ.1 dX2_makers_14 rfl ?_
  refine yg10_14 dX2_makers_15 zw861 ?_
  refine s_iload hZ.1 dX2_makers_18 ?_
  refine s_aald (tt := 5) rfl rfl dX2_makers_20 ?_
  refine s_astore hZ.1 dX2_makers_21 (Nat.le_of_ble_eq_true rfl) ?_
  refine s_aload hZ.1 dX2_makers_23 ?_
  refine yg7_0 dX2_makers_25 zw948 ?_
  refine s_iconst dX2_makers_28 (by decide +kernel) ?_
  exact s_icmp_ne dX2_makers_29 (by decide) (wX2_makers_41 hZ j hj) (wX2_makers_32 hZ j hj)
noncomputable def vX2_makers_5 (j : Nat → rx_K) : rx_K := o_ld rx_isI 4 (o_ld rx_isR 1 (o_getf 10 15 (o_c2 rx_lt (vX2_makers_14 j) (vX2_makers_144 j))))
set_option maxRecDepth 20000 in
theorem wX2_makers_5 (hZ : zO b e D A X) (j : Nat → rx_K) (hj : ∀ k pc, [5, 147][k]? = some pc → rx_OK (zV b e D A X) mX2_makers 3 pc (j k)) : rx_OK (zV b e D A X) mX2_makers 3 5 (vX2_makers_5 j) := by
  unfold vX2_makers_5
  refine s_iload hZ.1 dX2_makers_5 ?_
  refine s_aload_n hZ.1 dX2_makers_7 rfl ?_
  refine yg10_15 dX2_makers_8 zw869 ?_
  exact s_icmp_ge dX2_makers_11 (by decide) (wX2_makers_144 hZ j hj) (wX2_makers_14 hZ j hj)
noncomputable def vX2_makers_0 (j : Nat → rx_K) : rx_K := o_const 0 (o_st rx_isI 3 (o_const 0 (o_st rx_isI 4 ((vX2_makers_5 j)))))
set_option maxRecDepth 20000 in
theorem wX2_makers_0 (hZ : zO b e D A X) (j : Nat → rx_K) (hj : ∀ k pc, [5, 147][k]? = some pc → rx_OK (zV b e D A X) mX2_makers 3 pc (j k)) : rx_OK (zV b e D A X) mX2_makers 3 0 (vX2_makers_0 j) := by
  unfold vX2_makers_0
  refine s_iconst dX2_makers_0 (by decide +kernel) ?_
  refine s_istore_n hZ.1 dX2_makers_1 rfl (Nat.le_of_ble_eq_true rfl) ?_
  refine s_iconst dX2_makers_2 (by decide +kernel) ?_
  refine s_istore hZ.1 dX2_makers_3 (Nat.le_of_ble_eq_true rfl) ?_
  exact (wX2_makers_5 hZ j hj)
noncomputable def vhX2_makers (j : Nat → rx_K) : List rx_K := [vX2_makers_5 j, vX2_makers_147 j]
theorem vlX2_makers (hZ : zO b e D A X) : ∀ n k pc, [5, 147][k]? = some pc → rx_OK (zV b e D A X) mX2_makers 3 pc (rx_J (vhX2_makers) n k) := rx_loop fun j hj k pc h => by
  match k, h with
  | 0, h =>
    have e9 := Option.some.inj (show some 5 = some pc from h)
    subst e9
    exact wX2_makers_5 hZ j hj
  | 1, h =>
    have e9 := Option.some.inj (show some 147 = some pc from h)
    subst e9
    exact wX2_makers_147 hZ j hj
  | _ + 2, h => exact absurd h (by simp)
noncomputable def FX2_makers : List Nat → rx_H → Option (Nat × rx_H) := rx_ent 8 (vX2_makers_0 (rx_J (vhX2_makers) 4000000000))
theorem Met_X2_makers (hZ : zO b e D A X) : rx_Met (zV b e D A X) 3 yX2_makers mX2_makers (FX2_makers) := rx_entry hZ.1 (wX2_makers_0 hZ _ (vlX2_makers hZ 4000000000)) (by decide +kernel) rfl (fun h => by cases h)
abbrev mX2_method : rx_M := (RX2, cX2_method, 6, (some .int), false)
theorem vy_X2_method : rx_Y (zV b e D A X) yX2_method mX2_method 4 := ⟨zw2658, zw429, by decide, by decide +kernel, by decide +kernel, by decide +kernel⟩
noncomputable def vX2_method_165 : rx_K := o_bi (fun x y => x + y) (o_ret1 rx_isI)
set_option maxRecDepth 20000 in
theorem wX2_method_165 (hZ : zO b e D A X) : rx_OK (zV b e D A X) mX2_method 3 165 vX2_method_165 := by
  unfold vX2_method_165
  refine s_iadd dX2_method_165 ?_
  exact s_iret hZ.1 rfl dX2_method_166
noncomputable def vX2_method_164 : rx_K := o_const 0 (vX2_method_165)
set_option maxRecDepth 20000 in
theorem wX2_method_164 (hZ : zO b e D A X) : rx_OK (zV b e D A X) mX2_method 3 164 vX2_method_164 := by
  unfold vX2_method_164
  refine s_iconst dX2_method_164 (by decide +kernel) ?_
  exact (wX2_method_165 hZ)
noncomputable def vX2_method_152 : rx_K := o_ld rx_isR 0 (o_const 312 (o_ld rx_isI 3 (o_ld rx_isI 4 (o_callV 3 2 FX2_note (vX2_method_165)))))
set_option maxRecDepth 20000 in
theorem wX2_method_152 (hZ : zO b e D A X) : rx_OK (zV b e D A X) mX2_method 3 152 vX2_method_152 := by
  unfold vX2_method_152
  refine s_aload_n hZ.1 dX2_method_152 rfl ?_
  refine s_bipush dX2_method_153 (by decide +kernel) ?_
  refine s_iload_n hZ.1 dX2_method_155 rfl ?_
  refine s_iload hZ.1 dX2_method_156 ?_
  refine s_callV hZ.1 (Met_X2_note hZ) (Nat.le_of_ble_eq_true rfl) vy_X2_note zcl2 zw2609 zw140 (Or.inl zw2607) dX2_method_158 ?_
  exact s_goto dX2_method_161 (by decide) (wX2_method_165 hZ)
noncomputable def vX2_method_143 : rx_K := o_ld rx_isR 0 (o_ld rx_isR 1 (o_ld rx_isR 2 (o_callV 2 2 FX2_sameBlocks (o_c1 rx_eq vX2_method_152 vX2_method_164))))
set_option maxRecDepth 20000 in
theorem wX2_method_143 (hZ : zO b e D A X) : rx_OK (zV b e D A X) mX2_method 3 143 vX2_method_143 := by
  unfold vX2_method_143
  refine s_aload_n hZ.1 dX2_method_143 rfl ?_
  refine s_aload_n hZ.1 dX2_method_144 rfl ?_
  refine s_aload_n hZ.1 dX2_method_145 rfl ?_
  refine s_callV hZ.1 (Met_X2_sameBlocks hZ) (Nat.le_of_ble_eq_true rfl) vy_X2_sameBlocks zcl2 zw2661 zw150 (Or.inl zw2659) dX2_method_146 ?_
  exact s_if_ne dX2_method_149 (by decide) (wX2_method_164 hZ) (wX2_method_152 hZ)
noncomputable def vX2_method_136 : rx_K := o_ld rx_isR 2 (o_getf 7 6 (o_c1 rx_eq vX2_method_164 vX2_method_143))
set_option maxRecDepth 20000 in
theorem wX2_method_136 (hZ : zO b e D A X) : rx_OK (zV b e D A X) mX2_method 3 136 vX2_method_136 := by
  unfold vX2_method_136
  refine s_aload_n hZ.1 dX2_method_136 rfl ?_
  refine yg7_6 dX2_method_137 zw999 ?_
  exact s_if_eq dX2_method_140 (by decide) (wX2_method_164 hZ) (wX2_method_143 hZ)
noncomputable def vX2_method_108 : rx_K := o_ld rx_isR 1 (o_getf 7 1 (o_ld rx_isR 2 (o_getf 7 1 (o_const 296 (o_ld rx_isI 3 (o_ld rx_isI 4 (o_callV 5 2 FX2_access (o_bi (fun x y => x + y) (o_st rx_isI 5 (o_ld rx_isI 5 (o_ld rx_isR 1 (o_getf 7 6 (o_c1 rx_eq vX2_method_164 vX2_method_136)))))))))))))
set_option maxRecDepth 20000 in
theorem wX2_method_108 (hZ : zO b e D A X) : rx_OK (zV b e D A X) mX2_method 3 108 vX2_method_108 := by
  unfold vX2_method_108
  refine s_aload_n hZ.1 dX2_method_108 rfl ?_
  refine yg7_1 dX2_method_109 zw956 ?_
  refine s_aload_n hZ.1 dX2_method_112 rfl ?_
  refine yg7_1 dX2_method_113 zw956 ?_
  refine s_bipush dX2_method_116 (by decide +kernel) ?_
  refine s_iload_n hZ.1 dX2_method_118 rfl ?_
  refine s_iload hZ.1 dX2_method_119 ?_
  refine s_callV hZ.1 (Met_X2_access hZ) (Nat.le_of_ble_eq_true rfl) vy_X2_access zcl2 zw2648 zw147 (Or.inl zw2646) dX2_method_121 ?_
  refine s_iadd dX2_method_124 ?_
  refine s_istore hZ.1 dX2_method_125 (Nat.le_of_ble_eq_true rfl) ?_
  refine s_iload hZ.1 dX2_method_127 ?_
  refine s_aload_n hZ.1 dX2_method_129 rfl ?_
  refine yg7_6 dX2_method_130 zw999 ?_
  exact s_if_eq dX2_method_133 (by decide) (wX2_method_164 hZ) (wX2_method_136 hZ)
noncomputable def vX2_method_64 : rx_K := o_ld rx_isR 0 (o_ld rx_isR 1 (o_getf 7 3 (o_ld rx_isR 2 (o_getf 7 3 (o_const 264 (o_ld rx_isI 3 (o_ld rx_isI 4 (o_callV 5 2 FX2_turned (o_st rx_isI 5 (o_ld rx_isI 5 (o_ld rx_isR 0 (o_ld rx_isR 1 (o_getf 7 4 (o_ld rx_isR 2 (o_getf 7 4 (o_const 280 (o_ld rx_isI 3 (o_ld rx_isI 4 (o_callV 5 2 FX2_turned (o_bi (fun x y => x + y) (o_st rx_isI 5 (o_ld rx_isI 5 (o_ld rx_isR 0 (vX2_method_108))))))))))))))))))))))))
set_option maxRecDepth 20000 in
theorem wX2_method_64 (hZ : zO b e D A X) : rx_OK (zV b e D A X) mX2_method 3 64 vX2_method_64 := by
  unfold vX2_method_64
  refine s_aload_n hZ.1 dX2_method_64 rfl ?_
  refine s_aload_n hZ.1 dX2_method_65 rfl ?_
  refine yg7_3 dX2_method_66 zw976 ?_
  refine s_aload_n hZ.1 dX2_method_69 rfl ?_
  refine yg7_3 dX2_method_70 zw976 ?_
  refine s_bipush dX2_method_73 (by decide +kernel) ?_
  refine s_iload_n hZ.1 dX2_method_75 rfl ?_
  refine s_iload hZ.1 dX2_method_76 ?_
  refine s_callV hZ.1 (Met_X2_turned hZ) (Nat.le_of_ble_eq_true rfl) vy_X2_turned zcl2 zw2621 zw142 (Or.inl zw2619) dX2_method_78 ?_
  refine s_istore hZ.1 dX2_method_81 (Nat.le_of_ble_eq_true rfl) ?_
  refine s_iload hZ.1 dX2_method_83 ?_
  refine s_aload_n hZ.1 dX2_method_85 rfl ?_
  refine s_aload_n hZ.1 dX2_method_86 rfl ?_
  refine yg7_4 dX2_method_87 zw981 ?_
  refine s_aload_n hZ.1 dX2_method_90 rfl ?_
  refine yg7_4 dX2_method_91 zw981 ?_
  refine s_bipush dX2_method_94 (by decide +kernel) ?_
  refine s_iload_n hZ.1 dX2_method_96 rfl ?_
  refine s_iload hZ.1 dX2_method_97 ?_
  refine s_callV hZ.1 (Met_X2_turned hZ) (Nat.le_of_ble_eq_true rfl) vy_X2_turned zcl2 zw2621 zw142 (Or.inl zw2619) dX2_method_99 ?_
  refine s_iadd dX2_method_102 ?_
  refine s_istore hZ.1 dX2_method_103 (Nat.le_of_ble_eq_true rfl) ?_
  refine s_iload hZ.1 dX2_method_105 ?_
  refine s_aload_n hZ.1 dX2_method_107 rfl ?_
  exact (wX2_method_108 hZ)
noncomputable def vX2_method_61 : rx_K := o_ld rx_isI 5 (o_ret1 rx_isI)
set_option maxRecDepth 20000 in
theorem wX2_method_61 (hZ : zO b e D A X) : rx_OK (zV b e D A X) mX2_method 3 61 vX2_method_61 := by
  unfold vX2_method_61
  refine s_iload hZ.1 dX2_method_61 ?_
  exact s_iret hZ.1 rfl dX2_method_63
noncomputable def vX2_method_53 : rx_K := o_bi (fun x y => x + y) (o_st rx_isI 5 (o_ld rx_isI 5 (o_c1 (fun h x y => rx_lt h y x) vX2_method_61 vX2_method_64)))
set_option maxRecDepth 20000 in
theorem wX2_method_53 (hZ : zO b e D A X) : rx_OK (zV b e D A X) mX2_method 3 53 vX2_method_53 := by
  unfold vX2_method_53
  refine s_iadd dX2_method_53 ?_
  refine s_istore hZ.1 dX2_method_54 (Nat.le_of_ble_eq_true rfl) ?_
  refine s_iload hZ.1 dX2_method_56 ?_
  exact s_if_le dX2_method_58 (by decide) (wX2_method_64 hZ) (wX2_method_61 hZ)
noncomputable def vX2_method_52 : rx_K := o_const 0 (vX2_method_53)
set_option maxRecDepth 20000 in
theorem wX2_method_52 (hZ : zO b e D A X) : rx_OK (zV b e D A X) mX2_method 3 52 vX2_method_52 := by
  unfold vX2_method_52
  refine s_iconst dX2_method_52 (by decide +kernel) ?_
  exact (wX2_method_53 hZ)
noncomputable def vX2_method_40 : rx_K := o_ld rx_isR 0 (o_const 256 (o_ld rx_isI 3 (o_ld rx_isI 4 (o_callV 3 2 FX2_note (vX2_method_53)))))
set_option maxRecDepth 20000 in
theorem wX2_method_40 (hZ : zO b e D A X) : rx_OK (zV b e D A X) mX2_method 3 40 vX2_method_40 := by
  unfold vX2_method_40
  refine s_aload_n hZ.1 dX2_method_40 rfl ?_
  refine s_bipush dX2_method_41 (by decide +kernel) ?_
  refine s_iload_n hZ.1 dX2_method_43 rfl ?_
  refine s_iload hZ.1 dX2_method_44 ?_
  refine s_callV hZ.1 (Met_X2_note hZ) (Nat.le_of_ble_eq_true rfl) vy_X2_note zcl2 zw2609 zw140 (Or.inl zw2607) dX2_method_46 ?_
  exact s_goto dX2_method_49 (by decide) (wX2_method_53 hZ)
noncomputable def vX2_method_25 : rx_K := o_st rx_isI 5 (o_ld rx_isI 5 (o_ld rx_isR 1 (o_getf 7 2 (o_ld rx_isR 2 (o_getf 7 2 (o_c2 rx_eq vX2_method_52 vX2_method_40))))))
set_option maxRecDepth 20000 in
theorem wX2_method_25 (hZ : zO b e D A X) : rx_OK (zV b e D A X) mX2_method 3 25 vX2_method_25 := by
  unfold vX2_method_25
  refine s_istore hZ.1 dX2_method_25 (Nat.le_of_ble_eq_true rfl) ?_
  refine s_iload hZ.1 dX2_method_27 ?_
  refine s_aload_n hZ.1 dX2_method_29 rfl ?_
  refine yg7_2 dX2_method_30 zw966 ?_
  refine s_aload_n hZ.1 dX2_method_33 rfl ?_
  refine yg7_2 dX2_method_34 zw966 ?_
  exact s_icmp_eq dX2_method_37 (by decide) (wX2_method_52 hZ) (wX2_method_40 hZ)
noncomputable def vX2_method_24 : rx_K := o_const 0 (vX2_method_25)
set_option maxRecDepth 20000 in
theorem wX2_method_24 (hZ : zO b e D A X) : rx_OK (zV b e D A X) mX2_method 3 24 vX2_method_24 := by
  unfold vX2_method_24
  refine s_iconst dX2_method_24 (by decide +kernel) ?_
  exact (wX2_method_25 hZ)
noncomputable def vX2_method_12 : rx_K := o_ld rx_isR 0 (o_const 248 (o_ld rx_isI 3 (o_ld rx_isI 4 (o_callV 3 2 FX2_note (vX2_method_25)))))
set_option maxRecDepth 20000 in
theorem wX2_method_12 (hZ : zO b e D A X) : rx_OK (zV b e D A X) mX2_method 3 12 vX2_method_12 := by
  unfold vX2_method_12
  refine s_aload_n hZ.1 dX2_method_12 rfl ?_
  refine s_bipush dX2_method_13 (by decide +kernel) ?_
  refine s_iload_n hZ.1 dX2_method_15 rfl ?_
  refine s_iload hZ.1 dX2_method_16 ?_
  refine s_callV hZ.1 (Met_X2_note hZ) (Nat.le_of_ble_eq_true rfl) vy_X2_note zcl2 zw2609 zw140 (Or.inl zw2607) dX2_method_18 ?_
  exact s_goto dX2_method_21 (by decide) (wX2_method_25 hZ)
noncomputable def vX2_method_0 : rx_K := o_ld rx_isR 1 (o_getf 7 8 (o_ld rx_isR 2 (o_getf 7 8 (o_bc (fun x y => lg_cmp x y) (o_c1 rx_eq vX2_method_24 vX2_method_12)))))
set_option maxRecDepth 20000 in
theorem wX2_method_0 (hZ : zO b e D A X) : rx_OK (zV b e D A X) mX2_method 3 0 vX2_method_0 := by
  unfold vX2_method_0
  refine s_aload_n hZ.1 dX2_method_0 rfl ?_
  refine yg7_8 dX2_method_1 zw1017 ?_
  refine s_aload_n hZ.1 dX2_method_4 rfl ?_
  refine yg7_8 dX2_method_5 zw1017 ?_
  refine s_lcmp dX2_method_8 ?_
  exact s_if_eq dX2_method_9 (by decide) (wX2_method_24 hZ) (wX2_method_12 hZ)
noncomputable def FX2_method : List Nat → rx_H → Option (Nat × rx_H) := rx_ent 6 vX2_method_0
theorem Met_X2_method (hZ : zO b e D A X) : rx_Met (zV b e D A X) 3 yX2_method mX2_method (FX2_method) := rx_entry hZ.1 (wX2_method_0 hZ) (by decide +kernel) rfl (fun h => by cases h)
abbrev mX10_plain : rx_M := (RX10, cX10_plain, 4, (some (.object "LinkHouse$Member")), false)
theorem vy_X10_plain : rx_Y (zV b e D A X) yX10_plain mX10_plain 1 := ⟨zw1967, zw425, by decide, by decide +kernel, by decide +kernel, by decide +kernel⟩
noncomputable def vX10_plain_60 (j : Nat → rx_K) : rx_K := o_const 3 (o_ret1 rx_isR)
set_option maxRecDepth 20000 in
theorem wX10_plain_60 (hZ : zO b e D A X) (j : Nat → rx_K) (hj : ∀ k pc, [2][k]? = some pc → rx_OK (zV b e D A X) mX10_plain 1 pc (j k)) : rx_OK (zV b e D A X) mX10_plain 1 60 (vX10_plain_60 j) := by
  unfold vX10_plain_60
  refine s_null dX10_plain_60 ?_
  exact s_aret hZ.1 rfl (Or.inl ⟨_, rfl⟩) dX10_plain_61
noncomputable def vX10_plain_54 (j : Nat → rx_K) : rx_K := o_inc 2 (1) ((j 0))
set_option maxRecDepth 20000 in
theorem wX10_plain_54 (hZ : zO b e D A X) (j : Nat → rx_K) (hj : ∀ k pc, [2][k]? = some pc → rx_OK (zV b e D A X) mX10_plain 1 pc (j k)) : rx_OK (zV b e D A X) mX10_plain 1 54 (vX10_plain_54 j) := by
  unfold vX10_plain_54
  refine s_iinc hZ.1 dX10_plain_54 (Nat.le_of_ble_eq_true rfl) ?_
  exact s_goto dX10_plain_57 (by decide) (hj 0 2 rfl)
noncomputable def vX10_plain_52 (j : Nat → rx_K) : rx_K := o_ld rx_isR 3 (o_ret1 rx_isR)
set_option maxRecDepth 20000 in
theorem wX10_plain_52 (hZ : zO b e D A X) (j : Nat → rx_K) (hj : ∀ k pc, [2][k]? = some pc → rx_OK (zV b e D A X) mX10_plain 1 pc (j k)) : rx_OK (zV b e D A X) mX10_plain 1 52 (vX10_plain_52 j) := by
  unfold vX10_plain_52
  refine s_aload_n hZ.1 dX10_plain_52 rfl ?_
  exact s_aret hZ.1 rfl (Or.inl ⟨_, rfl⟩) dX10_plain_53
noncomputable def vX10_plain_44 (j : Nat → rx_K) : rx_K := o_ld rx_isR 3 (o_ld rx_isR 1 (o_callV 1 7 FX7_sameParams (o_c1 rx_eq (vX10_plain_54 j) (vX10_plain_52 j))))
set_option maxRecDepth 20000 in
theorem wX10_plain_44 (hZ : zO b e D A X) (j : Nat → rx_K) (hj : ∀ k pc, [2][k]? = some pc → rx_OK (zV b e D A X) mX10_plain 1 pc (j k)) : rx_OK (zV b e D A X) mX10_plain 1 44 (vX10_plain_44 j) := by
  unfold vX10_plain_44
  refine s_aload_n hZ.1 dX10_plain_44 rfl ?_
  refine s_aload_n hZ.1 dX10_plain_45 rfl ?_
  refine s_callV hZ.1 (Met_X7_sameParams hZ) (Nat.le_of_ble_eq_true rfl) vy_X7_sameParams zcl7 zw1953 zw1954 (Or.inl zw1968) dX10_plain_46 ?_
  exact s_if_eq dX10_plain_49 (by decide) (wX10_plain_54 hZ j hj) (wX10_plain_52 hZ j hj)
noncomputable def vX10_plain_32 (j : Nat → rx_K) : rx_K := o_ld rx_isR 3 (o_getf 7 7 (o_ld rx_isR 1 (o_getf 7 7 (o_bc (fun x y => lg_cmp x y) (o_c1 rx_eq (vX10_plain_44 j) (vX10_plain_54 j))))))
set_option maxRecDepth 20000 in
theorem wX10_plain_32 (hZ : zO b e D A X) (j : Nat → rx_K) (hj : ∀ k pc, [2][k]? = some pc → rx_OK (zV b e D A X) mX10_plain 1 pc (j k)) : rx_OK (zV b e D A X) mX10_plain 1 32 (vX10_plain_32 j) := by
  unfold vX10_plain_32
  refine s_aload_n hZ.1 dX10_plain_32 rfl ?_
  refine yg7_7 dX10_plain_33 zw1004 ?_
  refine s_aload_n hZ.1 dX10_plain_36 rfl ?_
  refine yg7_7 dX10_plain_37 zw1004 ?_
  refine s_lcmp dX10_plain_40 ?_
  exact s_if_ne dX10_plain_41 (by decide) (wX10_plain_54 hZ j hj) (wX10_plain_44 hZ j hj)
noncomputable def vX10_plain_25 (j : Nat → rx_K) : rx_K := o_ld rx_isR 3 (o_getf 7 5 (o_c1 rx_eq (vX10_plain_32 j) (vX10_plain_54 j)))
set_option maxRecDepth 20000 in
theorem wX10_plain_25 (hZ : zO b e D A X) (j : Nat → rx_K) (hj : ∀ k pc, [2][k]? = some pc → rx_OK (zV b e D A X) mX10_plain 1 pc (j k)) : rx_OK (zV b e D A X) mX10_plain 1 25 (vX10_plain_25 j) := by
  unfold vX10_plain_25
  refine s_aload_n hZ.1 dX10_plain_25 rfl ?_
  refine yg7_5 dX10_plain_26 zw990 ?_
  exact s_if_ne dX10_plain_29 (by decide) (wX10_plain_54 hZ j hj) (wX10_plain_32 hZ j hj)
noncomputable def vX10_plain_10 (j : Nat → rx_K) : rx_K := o_ld rx_isR 0 (o_getf 10 14 (o_ld rx_isI 2 (o_ald 5 (o_st rx_isR 3 (o_ld rx_isR 3 (o_getf 7 0 (o_const 8 (o_c2 rx_eq (vX10_plain_25 j) (vX10_plain_54 j)))))))))
set_option maxRecDepth 20000 in
theorem wX10_plain_10 (hZ : zO b e D A X) (j : Nat → rx_K) (hj : ∀ k pc, [2][k]? = some pc → rx_OK (zV b e D A X) mX10_plain 1 pc (j k)) : rx_OK (zV b e D A X) mX10_plain 1 10 (vX10_plain_10 j) := by
  unfold vX10_plain_10
  refine s_aload_n hZ.1 dX10_plain_10 rfl ?_
  refine yg10_14 dX10_plain_11 zw858 ?_
  refine s_iload_n hZ.1 dX10_plain_14 rfl ?_
  refine s_aald (tt := 5) rfl rfl dX10_plain_15 ?_
  refine s_astore_n hZ.1 dX10_plain_16 rfl (Nat.le_of_ble_eq_true rfl) ?_
  refine s_aload_n hZ.1 dX10_plain_17 rfl ?_
  refine yg7_0 dX10_plain_18 zw947 ?_
  refine s_iconst dX10_plain_21 (by decide +kernel) ?_
  exact s_icmp_ne dX10_plain_22 (by decide) (wX10_plain_54 hZ j hj) (wX10_plain_25 hZ j hj)
noncomputable def vX10_plain_2 (j : Nat → rx_K) : rx_K := o_ld rx_isI 2 (o_ld rx_isR 0 (o_getf 10 15 (o_c2 rx_lt (vX10_plain_10 j) (vX10_plain_60 j))))
set_option maxRecDepth 20000 in
theorem wX10_plain_2 (hZ : zO b e D A X) (j : Nat → rx_K) (hj : ∀ k pc, [2][k]? = some pc → rx_OK (zV b e D A X) mX10_plain 1 pc (j k)) : rx_OK (zV b e D A X) mX10_plain 1 2 (vX10_plain_2 j) := by
  unfold vX10_plain_2
  refine s_iload_n hZ.1 dX10_plain_2 rfl ?_
  refine s_aload_n hZ.1 dX10_plain_3 rfl ?_
  refine yg10_15 dX10_plain_4 zw866 ?_
  exact s_icmp_ge dX10_plain_7 (by decide) (wX10_plain_60 hZ j hj) (wX10_plain_10 hZ j hj)
noncomputable def vX10_plain_0 (j : Nat → rx_K) : rx_K := o_const 0 (o_st rx_isI 2 ((vX10_plain_2 j)))
set_option maxRecDepth 20000 in
theorem wX10_plain_0 (hZ : zO b e D A X) (j : Nat → rx_K) (hj : ∀ k pc, [2][k]? = some pc → rx_OK (zV b e D A X) mX10_plain 1 pc (j k)) : rx_OK (zV b e D A X) mX10_plain 1 0 (vX10_plain_0 j) := by
  unfold vX10_plain_0
  refine s_iconst dX10_plain_0 (by decide +kernel) ?_
  refine s_istore_n hZ.1 dX10_plain_1 rfl (Nat.le_of_ble_eq_true rfl) ?_
  exact (wX10_plain_2 hZ j hj)
noncomputable def vhX10_plain (j : Nat → rx_K) : List rx_K := [vX10_plain_2 j]
theorem vlX10_plain (hZ : zO b e D A X) : ∀ n k pc, [2][k]? = some pc → rx_OK (zV b e D A X) mX10_plain 1 pc (rx_J (vhX10_plain) n k) := rx_loop fun j hj k pc h => by
  match k, h with
  | 0, h =>
    have e9 := Option.some.inj (show some 2 = some pc from h)
    subst e9
    exact wX10_plain_2 hZ j hj
  | _ + 1, h => exact absurd h (by simp)
noncomputable def FX10_plain : List Nat → rx_H → Option (Nat × rx_H) := rx_ent 4 (vX10_plain_0 (rx_J (vhX10_plain) 4000000000))
theorem Met_X10_plain (hZ : zO b e D A X) : rx_Met (zV b e D A X) 1 yX10_plain mX10_plain (FX10_plain) := rx_entry hZ.1 (wX10_plain_0 hZ _ (vlX10_plain hZ 4000000000)) (by decide +kernel) rfl (fun h => by cases h)
abbrev mX2_methods : rx_M := (RX2, cX2_methods, 7, (some .int), false)
theorem vy_X2_methods : rx_Y (zV b e D A X) yX2_methods mX2_methods 2 := ⟨zw2653, zw429, by decide, by decide +kernel, by decide +kernel, by decide +kernel⟩
noncomputable def vX2_methods_170 (j : Nat → rx_K) : rx_K := o_ld rx_isI 3 (o_ret1 rx_isI)
set_option maxRecDepth 20000 in
theorem wX2_methods_170 (hZ : zO b e D A X) (j : Nat → rx_K) (hj : ∀ k pc, [5, 94][k]? = some pc → rx_OK (zV b e D A X) mX2_methods 4 pc (j k)) : rx_OK (zV b e D A X) mX2_methods 4 170 (vX2_methods_170 j) := by
  unfold vX2_methods_170
  refine s_iload_n hZ.1 dX2_methods_170 rfl ?_
  exact s_iret hZ.1 rfl dX2_methods_171
noncomputable def vX2_methods_164 (j : Nat → rx_K) : rx_K := o_inc 4 (1) ((j 1))
set_option maxRecDepth 20000 in
theorem wX2_methods_164 (hZ : zO b e D A X) (j : Nat → rx_K) (hj : ∀ k pc, [5, 94][k]? = some pc → rx_OK (zV b e D A X) mX2_methods 4 pc (j k)) : rx_OK (zV b e D A X) mX2_methods 4 164 (vX2_methods_164 j) := by
  unfold vX2_methods_164
  refine s_iinc hZ.1 dX2_methods_164 (Nat.le_of_ble_eq_true rfl) ?_
  exact s_goto dX2_methods_167 (by decide) (hj 1 94 rfl)
noncomputable def vX2_methods_155 (j : Nat → rx_K) : rx_K := o_const 34359738352 (o_ld rx_isI 4 (o_callV 3 2 FX2_note (o_bi (fun x y => x + y) (o_st rx_isI 3 ((vX2_methods_164 j))))))
set_option maxRecDepth 20000 in
theorem wX2_methods_155 (hZ : zO b e D A X) (j : Nat → rx_K) (hj : ∀ k pc, [5, 94][k]? = some pc → rx_OK (zV b e D A X) mX2_methods 4 pc (j k)) : rx_OK (zV b e D A X) mX2_methods 4 155 (vX2_methods_155 j) := by
  unfold vX2_methods_155
  refine s_bipush dX2_methods_155 (by decide +kernel) ?_
  refine s_iload hZ.1 dX2_methods_157 ?_
  refine s_callV hZ.1 (Met_X2_note hZ) (Nat.le_of_ble_eq_true rfl) vy_X2_note zcl2 zw2609 zw140 (Or.inl zw2607) dX2_methods_159 ?_
  refine s_iadd dX2_methods_162 ?_
  refine s_istore_n hZ.1 dX2_methods_163 rfl (Nat.le_of_ble_eq_true rfl) ?_
  exact (wX2_methods_164 hZ j hj)
noncomputable def vX2_methods_153 (j : Nat → rx_K) : rx_K := o_const 320 ((vX2_methods_155 j))
set_option maxRecDepth 20000 in
theorem wX2_methods_153 (hZ : zO b e D A X) (j : Nat → rx_K) (hj : ∀ k pc, [5, 94][k]? = some pc → rx_OK (zV b e D A X) mX2_methods 4 pc (j k)) : rx_OK (zV b e D A X) mX2_methods 4 153 (vX2_methods_153 j) := by
  unfold vX2_methods_153
  refine s_bipush dX2_methods_153 (by decide +kernel) ?_
  exact (wX2_methods_155 hZ j hj)
noncomputable def vX2_methods_148 (j : Nat → rx_K) : rx_K := o_const 328 ((vX2_methods_155 j))
set_option maxRecDepth 20000 in
theorem wX2_methods_148 (hZ : zO b e D A X) (j : Nat → rx_K) (hj : ∀ k pc, [5, 94][k]? = some pc → rx_OK (zV b e D A X) mX2_methods 4 pc (j k)) : rx_OK (zV b e D A X) mX2_methods 4 148 (vX2_methods_148 j) := by
  unfold vX2_methods_148
  refine s_bipush dX2_methods_148 (by decide +kernel) ?_
  exact s_goto dX2_methods_150 (by decide) (wX2_methods_155 hZ j hj)
noncomputable def vX2_methods_138 (j : Nat → rx_K) : rx_K := o_ld rx_isI 3 (o_ld rx_isR 0 (o_ld rx_isR 5 (o_getf 7 4 (o_c1 rx_eq (vX2_methods_153 j) (vX2_methods_148 j)))))
set_option maxRecDepth 20000 in
theorem wX2_methods_138 (hZ : zO b e D A X) (j : Nat → rx_K) (hj : ∀ k pc, [5, 94][k]? = some pc → rx_OK (zV b e D A X) mX2_methods 4 pc (j k)) : rx_OK (zV b e D A X) mX2_methods 4 138 (vX2_methods_138 j) := by
  unfold vX2_methods_138
  refine s_iload_n hZ.1 dX2_methods_138 rfl ?_
  refine s_aload_n hZ.1 dX2_methods_139 rfl ?_
  refine s_aload hZ.1 dX2_methods_140 ?_
  refine yg7_4 dX2_methods_142 zw981 ?_
  exact s_if_eq dX2_methods_145 (by decide) (wX2_methods_153 hZ j hj) (wX2_methods_148 hZ j hj)
noncomputable def vX2_methods_129 (j : Nat → rx_K) : rx_K := o_ld rx_isR 1 (o_ld rx_isR 5 (o_callV 1 10 FX10_plain (o_nul (vX2_methods_138 j) (vX2_methods_164 j))))
set_option maxRecDepth 20000 in
theorem wX2_methods_129 (hZ : zO b e D A X) (j : Nat → rx_K) (hj : ∀ k pc, [5, 94][k]? = some pc → rx_OK (zV b e D A X) mX2_methods 4 pc (j k)) : rx_OK (zV b e D A X) mX2_methods 4 129 (vX2_methods_129 j) := by
  unfold vX2_methods_129
  refine s_aload_n hZ.1 dX2_methods_129 rfl ?_
  refine s_aload hZ.1 dX2_methods_130 ?_
  refine s_callV hZ.1 (Met_X10_plain hZ) (Nat.le_of_ble_eq_true rfl) vy_X10_plain zcl10 zw1965 zw1966 (Or.inl zw2654) dX2_methods_132 ?_
  exact s_ifnonnull dX2_methods_135 (by decide) (wX2_methods_164 hZ j hj) (wX2_methods_138 hZ j hj)
noncomputable def vX2_methods_121 (j : Nat → rx_K) : rx_K := o_ld rx_isR 5 (o_getf 7 5 (o_c1 rx_eq (vX2_methods_129 j) (vX2_methods_164 j)))
set_option maxRecDepth 20000 in
theorem wX2_methods_121 (hZ : zO b e D A X) (j : Nat → rx_K) (hj : ∀ k pc, [5, 94][k]? = some pc → rx_OK (zV b e D A X) mX2_methods 4 pc (j k)) : rx_OK (zV b e D A X) mX2_methods 4 121 (vX2_methods_121 j) := by
  unfold vX2_methods_121
  refine s_aload hZ.1 dX2_methods_121 ?_
  refine yg7_5 dX2_methods_123 zw991 ?_
  exact s_if_ne dX2_methods_126 (by decide) (wX2_methods_164 hZ j hj) (wX2_methods_129 hZ j hj)
noncomputable def vX2_methods_103 (j : Nat → rx_K) : rx_K := o_ld rx_isR 2 (o_getf 10 14 (o_ld rx_isI 4 (o_ald 5 (o_st rx_isR 5 (o_ld rx_isR 5 (o_getf 7 0 (o_const 8 (o_c2 rx_eq (vX2_methods_121 j) (vX2_methods_164 j)))))))))
set_option maxRecDepth 20000 in
theorem wX2_methods_103 (hZ : zO b e D A X) (j : Nat → rx_K) (hj : ∀ k pc, [5, 94][k]? = some pc → rx_OK (zV b e D A X) mX2_methods 4 pc (j k)) : rx_OK (zV b e D A X) mX2_methods 4 103 (vX2_methods_103 j) := by
  unfold vX2_methods_103
  refine s_aload_n hZ.1 dX2_methods_103 rfl ?_
  refine yg10_14 dX2_methods_104 zw861 ?_
  refine s_iload hZ.1 dX2_methods_107 ?_
  refine s_aald (tt := 5) rfl rfl dX2_methods_109 ?_
  refine s_astore hZ.1 dX2_methods_110 (Nat.le_of_ble_eq_true rfl) ?_
  refine s_aload hZ.1 dX2_methods_112 ?_
  refine yg7_0 dX2_methods_114 zw948 ?_
  refine s_iconst dX2_methods_117 (by decide +kernel) ?_
  exact s_icmp_ne dX2_methods_118 (by decide) (wX2_methods_164 hZ j hj) (wX2_methods_121 hZ j hj)
noncomputable def vX2_methods_94 (j : Nat → rx_K) : rx_K := o_ld rx_isI 4 (o_ld rx_isR 2 (o_getf 10 15 (o_c2 rx_lt (vX2_methods_103 j) (vX2_methods_170 j))))
set_option maxRecDepth 20000 in
theorem wX2_methods_94 (hZ : zO b e D A X) (j : Nat → rx_K) (hj : ∀ k pc, [5, 94][k]? = some pc → rx_OK (zV b e D A X) mX2_methods 4 pc (j k)) : rx_OK (zV b e D A X) mX2_methods 4 94 (vX2_methods_94 j) := by
  unfold vX2_methods_94
  refine s_iload hZ.1 dX2_methods_94 ?_
  refine s_aload_n hZ.1 dX2_methods_96 rfl ?_
  refine yg10_15 dX2_methods_97 zw869 ?_
  exact s_icmp_ge dX2_methods_100 (by decide) (wX2_methods_170 hZ j hj) (wX2_methods_103 hZ j hj)
noncomputable def vX2_methods_91 (j : Nat → rx_K) : rx_K := o_const 0 (o_st rx_isI 4 ((vX2_methods_94 j)))
set_option maxRecDepth 20000 in
theorem wX2_methods_91 (hZ : zO b e D A X) (j : Nat → rx_K) (hj : ∀ k pc, [5, 94][k]? = some pc → rx_OK (zV b e D A X) mX2_methods 4 pc (j k)) : rx_OK (zV b e D A X) mX2_methods 4 91 (vX2_methods_91 j) := by
  unfold vX2_methods_91
  refine s_iconst dX2_methods_91 (by decide +kernel) ?_
  refine s_istore hZ.1 dX2_methods_92 (Nat.le_of_ble_eq_true rfl) ?_
  exact (wX2_methods_94 hZ j hj)
noncomputable def vX2_methods_85 (j : Nat → rx_K) : rx_K := o_inc 4 (1) ((j 0))
set_option maxRecDepth 20000 in
theorem wX2_methods_85 (hZ : zO b e D A X) (j : Nat → rx_K) (hj : ∀ k pc, [5, 94][k]? = some pc → rx_OK (zV b e D A X) mX2_methods 4 pc (j k)) : rx_OK (zV b e D A X) mX2_methods 4 85 (vX2_methods_85 j) := by
  unfold vX2_methods_85
  refine s_iinc hZ.1 dX2_methods_85 (Nat.le_of_ble_eq_true rfl) ?_
  exact s_goto dX2_methods_88 (by decide) (hj 0 5 rfl)
noncomputable def vX2_methods_83 (j : Nat → rx_K) : rx_K := o_bi (fun x y => x + y) (o_st rx_isI 3 ((vX2_methods_85 j)))
set_option maxRecDepth 20000 in
theorem wX2_methods_83 (hZ : zO b e D A X) (j : Nat → rx_K) (hj : ∀ k pc, [5, 94][k]? = some pc → rx_OK (zV b e D A X) mX2_methods 4 pc (j k)) : rx_OK (zV b e D A X) mX2_methods 4 83 (vX2_methods_83 j) := by
  unfold vX2_methods_83
  refine s_iadd dX2_methods_83 ?_
  refine s_istore_n hZ.1 dX2_methods_84 rfl (Nat.le_of_ble_eq_true rfl) ?_
  exact (wX2_methods_85 hZ j hj)
noncomputable def vX2_methods_67 (j : Nat → rx_K) : rx_K := o_ld rx_isR 0 (o_ld rx_isR 5 (o_ld rx_isR 6 (o_ld rx_isI 4 (o_ld rx_isR 2 (o_ld rx_isR 6 (o_callS 2 FX2_indexIn (o_callV 4 2 FX2_method ((vX2_methods_83 j)))))))))
set_option maxRecDepth 20000 in
theorem wX2_methods_67 (hZ : zO b e D A X) (j : Nat → rx_K) (hj : ∀ k pc, [5, 94][k]? = some pc → rx_OK (zV b e D A X) mX2_methods 4 pc (j k)) : rx_OK (zV b e D A X) mX2_methods 4 67 (vX2_methods_67 j) := by
  unfold vX2_methods_67
  refine s_aload_n hZ.1 dX2_methods_67 rfl ?_
  refine s_aload hZ.1 dX2_methods_68 ?_
  refine s_aload hZ.1 dX2_methods_70 ?_
  refine s_iload hZ.1 dX2_methods_72 ?_
  refine s_aload_n hZ.1 dX2_methods_74 rfl ?_
  refine s_aload hZ.1 dX2_methods_75 ?_
  refine s_callS hZ.1 (Met_X2_indexIn hZ) (Nat.le_of_ble_eq_true rfl) vy_X2_indexIn zw2640 (Or.inl zw2639) dX2_methods_77 ?_
  refine s_callV hZ.1 (Met_X2_method hZ) (Nat.le_of_ble_eq_true rfl) vy_X2_method zcl2 zw2657 zw149 (Or.inl zw2655) dX2_methods_80 ?_
  exact (wX2_methods_83 hZ j hj)
noncomputable def vX2_methods_54 (j : Nat → rx_K) : rx_K := o_ld rx_isR 0 (o_const 240 (o_ld rx_isI 4 (o_const 34359738352 (o_callV 3 2 FX2_note ((vX2_methods_83 j))))))
set_option maxRecDepth 20000 in
theorem wX2_methods_54 (hZ : zO b e D A X) (j : Nat → rx_K) (hj : ∀ k pc, [5, 94][k]? = some pc → rx_OK (zV b e D A X) mX2_methods 4 pc (j k)) : rx_OK (zV b e D A X) mX2_methods 4 54 (vX2_methods_54 j) := by
  unfold vX2_methods_54
  refine s_aload_n hZ.1 dX2_methods_54 rfl ?_
  refine s_bipush dX2_methods_55 (by decide +kernel) ?_
  refine s_iload hZ.1 dX2_methods_57 ?_
  refine s_bipush dX2_methods_59 (by decide +kernel) ?_
  refine s_callV hZ.1 (Met_X2_note hZ) (Nat.le_of_ble_eq_true rfl) vy_X2_note zcl2 zw2609 zw140 (Or.inl zw2607) dX2_methods_61 ?_
  exact s_goto dX2_methods_64 (by decide) (wX2_methods_83 hZ j hj)
noncomputable def vX2_methods_40 (j : Nat → rx_K) : rx_K := o_ld rx_isR 2 (o_ld rx_isR 5 (o_callV 1 10 FX10_plain (o_st rx_isR 6 (o_ld rx_isI 3 (o_ld rx_isR 6 (o_nul (vX2_methods_54 j) (vX2_methods_67 j)))))))
set_option maxRecDepth 20000 in
theorem wX2_methods_40 (hZ : zO b e D A X) (j : Nat → rx_K) (hj : ∀ k pc, [5, 94][k]? = some pc → rx_OK (zV b e D A X) mX2_methods 4 pc (j k)) : rx_OK (zV b e D A X) mX2_methods 4 40 (vX2_methods_40 j) := by
  unfold vX2_methods_40
  refine s_aload_n hZ.1 dX2_methods_40 rfl ?_
  refine s_aload hZ.1 dX2_methods_41 ?_
  refine s_callV hZ.1 (Met_X10_plain hZ) (Nat.le_of_ble_eq_true rfl) vy_X10_plain zcl10 zw1965 zw1966 (Or.inl zw2654) dX2_methods_43 ?_
  refine s_astore hZ.1 dX2_methods_46 (Nat.le_of_ble_eq_true rfl) ?_
  refine s_iload_n hZ.1 dX2_methods_48 rfl ?_
  refine s_aload hZ.1 dX2_methods_49 ?_
  exact s_ifnonnull dX2_methods_51 (by decide) (wX2_methods_67 hZ j hj) (wX2_methods_54 hZ j hj)
noncomputable def vX2_methods_32 (j : Nat → rx_K) : rx_K := o_ld rx_isR 5 (o_getf 7 5 (o_c1 rx_eq (vX2_methods_40 j) (vX2_methods_85 j)))
set_option maxRecDepth 20000 in
theorem wX2_methods_32 (hZ : zO b e D A X) (j : Nat → rx_K) (hj : ∀ k pc, [5, 94][k]? = some pc → rx_OK (zV b e D A X) mX2_methods 4 pc (j k)) : rx_OK (zV b e D A X) mX2_methods 4 32 (vX2_methods_32 j) := by
  unfold vX2_methods_32
  refine s_aload hZ.1 dX2_methods_32 ?_
  refine yg7_5 dX2_methods_34 zw991 ?_
  exact s_if_ne dX2_methods_37 (by decide) (wX2_methods_85 hZ j hj) (wX2_methods_40 hZ j hj)
noncomputable def vX2_methods_14 (j : Nat → rx_K) : rx_K := o_ld rx_isR 1 (o_getf 10 14 (o_ld rx_isI 4 (o_ald 5 (o_st rx_isR 5 (o_ld rx_isR 5 (o_getf 7 0 (o_const 8 (o_c2 rx_eq (vX2_methods_32 j) (vX2_methods_85 j)))))))))
set_option maxRecDepth 20000 in
theorem wX2_methods_14 (hZ : zO b e D A X) (j : Nat → rx_K) (hj : ∀ k pc, [5, 94][k]? = some pc → rx_OK (zV b e D A X) mX2_methods 4 pc (j k)) : rx_OK (zV b e D A X) mX2_methods 4 14 (vX2_methods_14 j) := by
  unfold vX2_methods_14
  refine s_aload_n hZ.1 dX2_methods_14 rfl ?_
  refine yg10_14 dX2_methods_15 zw861 ?_
  refine s_iload hZ.1 dX2_methods_18 ?_
  refine s_aald (tt := 5) rfl rfl dX2_methods_20 ?_
  refine s_astore hZ.1 dX2_methods_21 (Nat.le_of_ble_eq_true rfl) ?_
  refine s_aload hZ.1 dX2_methods_23 ?_
  refine yg7_0 dX2_methods_25 zw948 ?_
  refine s_iconst dX2_methods_28 (by decide +kernel) ?_
  exact s_icmp_ne dX2_methods_29 (by decide) (wX2_methods_85 hZ j hj) (wX2_methods_32 hZ j hj)
noncomputable def vX2_methods_5 (j : Nat → rx_K) : rx_K := o_ld rx_isI 4 (o_ld rx_isR 1 (o_getf 10 15 (o_c2 rx_lt (vX2_methods_14 j) (vX2_methods_91 j))))
set_option maxRecDepth 20000 in
theorem wX2_methods_5 (hZ : zO b e D A X) (j : Nat → rx_K) (hj : ∀ k pc, [5, 94][k]? = some pc → rx_OK (zV b e D A X) mX2_methods 4 pc (j k)) : rx_OK (zV b e D A X) mX2_methods 4 5 (vX2_methods_5 j) := by
  unfold vX2_methods_5
  refine s_iload hZ.1 dX2_methods_5 ?_
  refine s_aload_n hZ.1 dX2_methods_7 rfl ?_
  refine yg10_15 dX2_methods_8 zw869 ?_
  exact s_icmp_ge dX2_methods_11 (by decide) (wX2_methods_91 hZ j hj) (wX2_methods_14 hZ j hj)
noncomputable def vX2_methods_0 (j : Nat → rx_K) : rx_K := o_const 0 (o_st rx_isI 3 (o_const 0 (o_st rx_isI 4 ((vX2_methods_5 j)))))
set_option maxRecDepth 20000 in
theorem wX2_methods_0 (hZ : zO b e D A X) (j : Nat → rx_K) (hj : ∀ k pc, [5, 94][k]? = some pc → rx_OK (zV b e D A X) mX2_methods 4 pc (j k)) : rx_OK (zV b e D A X) mX2_methods 4 0 (vX2_methods_0 j) := by
  unfold vX2_methods_0
  refine s_iconst dX2_methods_0 (by decide +kernel) ?_
  refine s_istore_n hZ.1 dX2_methods_1 rfl (Nat.le_of_ble_eq_true rfl) ?_
  refine s_iconst dX2_methods_2 (by decide +kernel) ?_
  refine s_istore hZ.1 dX2_methods_3 (Nat.le_of_ble_eq_true rfl) ?_
  exact (wX2_methods_5 hZ j hj)
noncomputable def vhX2_methods (j : Nat → rx_K) : List rx_K := [vX2_methods_5 j, vX2_methods_94 j]
theorem vlX2_methods (hZ : zO b e D A X) : ∀ n k pc, [5, 94][k]? = some pc → rx_OK (zV b e D A X) mX2_methods 4 pc (rx_J (vhX2_methods) n k) := rx_loop fun j hj k pc h => by
  match k, h with
  | 0, h =>
    have e9 := Option.some.inj (show some 5 = some pc from h)
    subst e9
    exact wX2_methods_5 hZ j hj
  | 1, h =>
    have e9 := Option.some.inj (show some 94 = some pc from h)
    subst e9
    exact wX2_methods_94 hZ j hj
  | _ + 2, h => exact absurd h (by simp)
noncomputable def FX2_methods : List Nat → rx_H → Option (Nat × rx_H) := rx_ent 7 (vX2_methods_0 (rx_J (vhX2_methods) 4000000000))
theorem Met_X2_methods (hZ : zO b e D A X) : rx_Met (zV b e D A X) 4 yX2_methods mX2_methods (FX2_methods) := rx_entry hZ.1 (wX2_methods_0 hZ _ (vlX2_methods hZ 4000000000)) (by decide +kernel) rfl (fun h => by cases h)
end ZM8

section ZM19
variable {b : Nat} {e : Nat → Value} {D : va_G} {A : Nat → ClassId} {X : State → Prop}
abbrev mX6_openFrame : rx_M := (RX6, cX6_openFrame, 7, none, false)
theorem vy_X6_openFrame : rx_Y (zV b e D A X) yX6_openFrame mX6_openFrame 4 := ⟨zw2765, zw430, by decide, by decide +kernel, by decide +kernel, by decide +kernel⟩
noncomputable def vX6_openFrame_136 (j : Nat → rx_K) : rx_K := o_ret0
set_option maxRecDepth 20000 in
theorem wX6_openFrame_136 (hZ : zO b e D A X) (j : Nat → rx_K) (hj : ∀ k pc, [92][k]? = some pc → rx_OK (zV b e D A X) mX6_openFrame 0 pc (j k)) : rx_OK (zV b e D A X) mX6_openFrame 0 136 (vX6_openFrame_136 j) := by
  unfold vX6_openFrame_136
  exact s_vret rfl dX6_openFrame_136
noncomputable def vX6_openFrame_113 (j : Nat → rx_K) : rx_K := o_ld rx_isR 0 (o_getf 6 2 (o_ld rx_isR 0 (o_getf 6 3 (o_const 0 (o_ast 0 (fun v => v) rx_isI (o_ld rx_isR 0 (o_dup (o_getf 6 3 (o_const 8 (o_bi (fun x y => x + y) (o_putf rx_isI 6 3 ((j 0)))))))))))))
set_option maxRecDepth 20000 in
theorem wX6_openFrame_113 (hZ : zO b e D A X) (j : Nat → rx_K) (hj : ∀ k pc, [92][k]? = some pc → rx_OK (zV b e D A X) mX6_openFrame 0 pc (j k)) : rx_OK (zV b e D A X) mX6_openFrame 0 113 (vX6_openFrame_113 j) := by
  unfold vX6_openFrame_113
  refine s_aload_n hZ.1 dX6_openFrame_113 rfl ?_
  refine yg6_2 dX6_openFrame_114 zw1476 ?_
  refine s_aload_n hZ.1 dX6_openFrame_117 rfl ?_
  refine yg6_3 dX6_openFrame_118 zw1477 ?_
  refine s_iconst dX6_openFrame_121 (by decide +kernel) ?_
  refine s_iast hZ.1 (tt := 0) rfl dX6_openFrame_122 ?_
  refine s_aload_n hZ.1 dX6_openFrame_123 rfl ?_
  refine s_dup hZ.1 dX6_openFrame_124 ?_
  refine yg6_3 dX6_openFrame_125 zw1477 ?_
  refine s_iconst dX6_openFrame_128 (by decide +kernel) ?_
  refine s_iadd dX6_openFrame_129 ?_
  refine yp6_3 hZ.1 dX6_openFrame_130 zw1477 ?_
  exact s_goto dX6_openFrame_133 (by decide) (hj 0 92 rfl)
noncomputable def vX6_openFrame_101 (j : Nat → rx_K) : rx_K := o_ld rx_isR 0 (o_getf 6 3 (o_ld rx_isR 0 (o_getf 6 2 (o_alen 0 (o_c2 rx_lt (vX6_openFrame_113 j) (vX6_openFrame_136 j))))))
set_option maxRecDepth 20000 in
theorem wX6_openFrame_101 (hZ : zO b e D A X) (j : Nat → rx_K) (hj : ∀ k pc, [92][k]? = some pc → rx_OK (zV b e D A X) mX6_openFrame 0 pc (j k)) : rx_OK (zV b e D A X) mX6_openFrame 0 101 (vX6_openFrame_101 j) := by
  unfold vX6_openFrame_101
  refine s_aload_n hZ.1 dX6_openFrame_101 rfl ?_
  refine yg6_3 dX6_openFrame_102 zw1477 ?_
  refine s_aload_n hZ.1 dX6_openFrame_105 rfl ?_
  refine yg6_2 dX6_openFrame_106 zw1476 ?_
  refine s_alen (tt := 0) rfl dX6_openFrame_109 ?_
  exact s_icmp_ge dX6_openFrame_110 (by decide) (wX6_openFrame_136 hZ j hj) (wX6_openFrame_113 hZ j hj)
noncomputable def vX6_openFrame_92 (j : Nat → rx_K) : rx_K := o_ld rx_isR 0 (o_getf 6 3 (o_ld rx_isI 6 (o_c2 rx_lt (vX6_openFrame_101 j) (vX6_openFrame_136 j))))
set_option maxRecDepth 20000 in
theorem wX6_openFrame_92 (hZ : zO b e D A X) (j : Nat → rx_K) (hj : ∀ k pc, [92][k]? = some pc → rx_OK (zV b e D A X) mX6_openFrame 0 pc (j k)) : rx_OK (zV b e D A X) mX6_openFrame 0 92 (vX6_openFrame_92 j) := by
  unfold vX6_openFrame_92
  refine s_aload_n hZ.1 dX6_openFrame_92 rfl ?_
  refine yg6_3 dX6_openFrame_93 zw1477 ?_
  refine s_iload hZ.1 dX6_openFrame_96 ?_
  exact s_icmp_ge dX6_openFrame_98 (by decide) (wX6_openFrame_136 hZ j hj) (wX6_openFrame_101 hZ j hj)
noncomputable def vX6_openFrame_89 (j : Nat → rx_K) : rx_K := o_bi (fun x y => x + y) (o_st rx_isI 6 ((vX6_openFrame_92 j)))
set_option maxRecDepth 20000 in
theorem wX6_openFrame_89 (hZ : zO b e D A X) (j : Nat → rx_K) (hj : ∀ k pc, [92][k]? = some pc → rx_OK (zV b e D A X) mX6_openFrame 0 pc (j k)) : rx_OK (zV b e D A X) mX6_openFrame 0 89 (vX6_openFrame_89 j) := by
  unfold vX6_openFrame_89
  refine s_iadd dX6_openFrame_89 ?_
  refine s_istore hZ.1 dX6_openFrame_90 (Nat.le_of_ble_eq_true rfl) ?_
  exact (wX6_openFrame_92 hZ j hj)
noncomputable def vX6_openFrame_84 (j : Nat → rx_K) : rx_K := o_ld rx_isR 4 (o_getf 7 18 ((vX6_openFrame_89 j)))
set_option maxRecDepth 20000 in
theorem wX6_openFrame_84 (hZ : zO b e D A X) (j : Nat → rx_K) (hj : ∀ k pc, [92][k]? = some pc → rx_OK (zV b e D A X) mX6_openFrame 0 pc (j k)) : rx_OK (zV b e D A X) mX6_openFrame 0 84 (vX6_openFrame_84 j) := by
  unfold vX6_openFrame_84
  refine s_aload hZ.1 dX6_openFrame_84 ?_
  refine yg7_18 dX6_openFrame_86 zw1070 ?_
  exact (wX6_openFrame_89 hZ j hj)
noncomputable def vX6_openFrame_80 (j : Nat → rx_K) : rx_K := o_const 0 ((vX6_openFrame_89 j))
set_option maxRecDepth 20000 in
theorem wX6_openFrame_80 (hZ : zO b e D A X) (j : Nat → rx_K) (hj : ∀ k pc, [92][k]? = some pc → rx_OK (zV b e D A X) mX6_openFrame 0 pc (j k)) : rx_OK (zV b e D A X) mX6_openFrame 0 80 (vX6_openFrame_80 j) := by
  unfold vX6_openFrame_80
  refine s_iconst dX6_openFrame_80 (by decide +kernel) ?_
  exact s_goto dX6_openFrame_81 (by decide) (wX6_openFrame_89 hZ j hj)
noncomputable def vX6_openFrame_63 (j : Nat → rx_K) : rx_K := o_ast 0 (fun v => v) rx_isI (o_ld rx_isR 0 (o_dup (o_getf 6 5 (o_const 8 (o_bi (fun x y => x + y) (o_putf rx_isI 6 5 (o_ld rx_isI 3 (o_ld rx_isR 4 (o_nul (vX6_openFrame_80 j) (vX6_openFrame_84 j))))))))))
set_option maxRecDepth 20000 in
theorem wX6_openFrame_63 (hZ : zO b e D A X) (j : Nat → rx_K) (hj : ∀ k pc, [92][k]? = some pc → rx_OK (zV b e D A X) mX6_openFrame 0 pc (j k)) : rx_OK (zV b e D A X) mX6_openFrame 0 63 (vX6_openFrame_63 j) := by
  unfold vX6_openFrame_63
  refine s_iast hZ.1 (tt := 0) rfl dX6_openFrame_63 ?_
  refine s_aload_n hZ.1 dX6_openFrame_64 rfl ?_
  refine s_dup hZ.1 dX6_openFrame_65 ?_
  refine yg6_5 dX6_openFrame_66 zw1479 ?_
  refine s_iconst dX6_openFrame_69 (by decide +kernel) ?_
  refine s_iadd dX6_openFrame_70 ?_
  refine yp6_5 hZ.1 dX6_openFrame_71 zw1479 ?_
  refine s_iload_n hZ.1 dX6_openFrame_74 rfl ?_
  refine s_aload hZ.1 dX6_openFrame_75 ?_
  exact s_ifnonnull dX6_openFrame_77 (by decide) (wX6_openFrame_84 hZ j hj) (wX6_openFrame_80 hZ j hj)
noncomputable def vX6_openFrame_58 (j : Nat → rx_K) : rx_K := o_ld rx_isR 4 (o_getf 7 17 ((vX6_openFrame_63 j)))
set_option maxRecDepth 20000 in
theorem wX6_openFrame_58 (hZ : zO b e D A X) (j : Nat → rx_K) (hj : ∀ k pc, [92][k]? = some pc → rx_OK (zV b e D A X) mX6_openFrame 0 pc (j k)) : rx_OK (zV b e D A X) mX6_openFrame 0 58 (vX6_openFrame_58 j) := by
  unfold vX6_openFrame_58
  refine s_aload hZ.1 dX6_openFrame_58 ?_
  refine yg7_17 dX6_openFrame_60 zw1067 ?_
  exact (wX6_openFrame_63 hZ j hj)
noncomputable def vX6_openFrame_54 (j : Nat → rx_K) : rx_K := o_const 0 ((vX6_openFrame_63 j))
set_option maxRecDepth 20000 in
theorem wX6_openFrame_54 (hZ : zO b e D A X) (j : Nat → rx_K) (hj : ∀ k pc, [92][k]? = some pc → rx_OK (zV b e D A X) mX6_openFrame 0 pc (j k)) : rx_OK (zV b e D A X) mX6_openFrame 0 54 (vX6_openFrame_54 j) := by
  unfold vX6_openFrame_54
  refine s_iconst dX6_openFrame_54 (by decide +kernel) ?_
  exact s_goto dX6_openFrame_55 (by decide) (wX6_openFrame_63 hZ j hj)
noncomputable def vX6_openFrame_36 (j : Nat → rx_K) : rx_K := o_const 48 (o_const 34359738352 (o_ast 0 (fun v => v) rx_isI (o_ld rx_isR 5 (o_const 40 (o_const 0 (o_ast 0 (fun v => v) rx_isI (o_ld rx_isR 5 (o_const 8 (o_ld rx_isR 4 (o_nul (vX6_openFrame_54 j) (vX6_openFrame_58 j)))))))))))
set_option maxRecDepth 20000 in
theorem wX6_openFrame_36 (hZ : zO b e D A X) (j : Nat → rx_K) (hj : ∀ k pc, [92][k]? = some pc → rx_OK (zV b e D A X) mX6_openFrame 0 pc (j k)) : rx_OK (zV b e D A X) mX6_openFrame 0 36 (vX6_openFrame_36 j) := by
  unfold vX6_openFrame_36
  refine s_bipush dX6_openFrame_36 (by decide +kernel) ?_
  refine s_bipush dX6_openFrame_38 (by decide +kernel) ?_
  refine s_iast hZ.1 (tt := 0) rfl dX6_openFrame_40 ?_
  refine s_aload hZ.1 dX6_openFrame_41 ?_
  refine s_iconst dX6_openFrame_43 (by decide +kernel) ?_
  refine s_iconst dX6_openFrame_44 (by decide +kernel) ?_
  refine s_iast hZ.1 (tt := 0) rfl dX6_openFrame_45 ?_
  refine s_aload hZ.1 dX6_openFrame_46 ?_
  refine s_iconst dX6_openFrame_48 (by decide +kernel) ?_
  refine s_aload hZ.1 dX6_openFrame_49 ?_
  exact s_ifnonnull dX6_openFrame_51 (by decide) (wX6_openFrame_58 hZ j hj) (wX6_openFrame_54 hZ j hj)
noncomputable def vX6_openFrame_0 (j : Nat → rx_K) : rx_K := o_ld rx_isR 0 (o_getf 6 4 (o_ld rx_isR 0 (o_getf 6 5 (o_ald 8 (o_st rx_isR 5 (o_ld rx_isR 5 (o_const 0 (o_ld rx_isI 1 (o_ast 0 (fun v => v) rx_isI (o_ld rx_isR 5 (o_const 32 (o_ld rx_isI 2 (o_ast 0 (fun v => v) rx_isI (o_ld rx_isR 5 (o_const 16 (o_ld rx_isI 3 (o_ast 0 (fun v => v) rx_isI (o_ld rx_isR 5 (o_const 24 (o_ld rx_isR 0 (o_getf 6 7 (o_ast 0 (fun v => v) rx_isI (o_ld rx_isR 5 ((vX6_openFrame_36 j)))))))))))))))))))))))))
set_option maxRecDepth 20000 in
theorem wX6_openFrame_0 (hZ : zO b e D A X) (j : Nat → rx_K) (hj : ∀ k pc, [92][k]? = some pc → rx_OK (zV b e D A X) mX6_openFrame 0 pc (j k)) : rx_OK (zV b e D A X) mX6_openFrame 0 0 (vX6_openFrame_0 j) := by
  unfold vX6_openFrame_0
  refine s_aload_n hZ.1 dX6_openFrame_0 rfl ?_
  refine yg6_4 dX6_openFrame_1 zw1478 ?_
  refine s_aload_n hZ.1 dX6_openFrame_4 rfl ?_
  refine yg6_5 dX6_openFrame_5 zw1479 ?_
  refine s_aald (tt := 8) rfl rfl dX6_openFrame_8 ?_
  refine s_astore hZ.1 dX6_openFrame_9 (Nat.le_of_ble_eq_true rfl) ?_
  refine s_aload hZ.1 dX6_openFrame_11 ?_
  refine s_iconst dX6_openFrame_13 (by decide +kernel) ?_
  refine s_iload_n hZ.1 dX6_openFrame_14 rfl ?_
  refine s_iast hZ.1 (tt := 0) rfl dX6_openFrame_15 ?_
  refine s_aload hZ.1 dX6_openFrame_16 ?_
  refine s_iconst dX6_openFrame_18 (by decide +kernel) ?_
  refine s_iload_n hZ.1 dX6_openFrame_19 rfl ?_
  refine s_iast hZ.1 (tt := 0) rfl dX6_openFrame_20 ?_
  refine s_aload hZ.1 dX6_openFrame_21 ?_
  refine s_iconst dX6_openFrame_23 (by decide +kernel) ?_
  refine s_iload_n hZ.1 dX6_openFrame_24 rfl ?_
  refine s_iast hZ.1 (tt := 0) rfl dX6_openFrame_25 ?_
  refine s_aload hZ.1 dX6_openFrame_26 ?_
  refine s_iconst dX6_openFrame_28 (by decide +kernel) ?_
  refine s_aload_n hZ.1 dX6_openFrame_29 rfl ?_
  refine yg6_7 dX6_openFrame_30 zw1482 ?_
  refine s_iast hZ.1 (tt := 0) rfl dX6_openFrame_33 ?_
  refine s_aload hZ.1 dX6_openFrame_34 ?_
  exact (wX6_openFrame_36 hZ j hj)
noncomputable def vhX6_openFrame (j : Nat → rx_K) : List rx_K := [vX6_openFrame_92 j]
theorem vlX6_openFrame (hZ : zO b e D A X) : ∀ n k pc, [92][k]? = some pc → rx_OK (zV b e D A X) mX6_openFrame 0 pc (rx_J (vhX6_openFrame) n k) := rx_loop fun j hj k pc h => by
  match k, h with
  | 0, h =>
    have e9 := Option.some.inj (show some 92 = some pc from h)
    subst e9
    exact wX6_openFrame_92 hZ j hj
  | _ + 1, h => exact absurd h (by simp)
noncomputable def FX6_openFrame : List Nat → rx_H → Option (Nat × rx_H) := rx_ent 7 (vX6_openFrame_0 (rx_J (vhX6_openFrame) 4000000000))
theorem Met_X6_openFrame (hZ : zO b e D A X) : rx_Met (zV b e D A X) 0 yX6_openFrame mX6_openFrame (FX6_openFrame) := rx_entry hZ.1 (wX6_openFrame_0 hZ _ (vlX6_openFrame hZ 4000000000)) (by decide +kernel) rfl (fun h => by cases h)
abbrev mX6_ready : rx_M := (RX6, cX6_ready, 4, (some .boolean), false)
theorem vy_X6_ready : rx_Y (zV b e D A X) yX6_ready mX6_ready 1 := ⟨zw2747, zw430, by decide, by decide +kernel, by decide +kernel, by decide +kernel⟩
noncomputable def vX6_ready_118 : rx_K := o_getf 6 4 (o_ld rx_isR 0 (o_getf 6 5 (o_const 8 (o_bi (fun x y => x - y) (o_ald 8 (o_const 48 (o_const 0 (o_ast 0 (fun v => v) rx_isI (o_const 0 (o_ret1 rx_isZ))))))))))
set_option maxRecDepth 20000 in
theorem wX6_ready_118 (hZ : zO b e D A X) : rx_OK (zV b e D A X) mX6_ready 5 118 vX6_ready_118 := by
  unfold vX6_ready_118
  refine yg6_4 dX6_ready_118 zw1478 ?_
  refine s_aload_n hZ.1 dX6_ready_121 rfl ?_
  refine yg6_5 dX6_ready_122 zw1479 ?_
  refine s_iconst dX6_ready_125 (by decide +kernel) ?_
  refine s_isub dX6_ready_126 ?_
  refine s_aald (tt := 8) rfl rfl dX6_ready_127 ?_
  refine s_bipush dX6_ready_128 (by decide +kernel) ?_
  refine s_iconst dX6_ready_130 (by decide +kernel) ?_
  refine s_iast hZ.1 (tt := 0) rfl dX6_ready_131 ?_
  refine s_iconst dX6_ready_132 (by decide +kernel) ?_
  exact s_zret rx_z_ok rfl dX6_ready_133
noncomputable def vX6_ready_76 : rx_K := o_ld rx_isR 0 (o_getf 6 1 (o_getf 5 1 (o_ld rx_isI 1 (o_const 24 (o_ast 0 (fun v => v) rx_isI (o_ld rx_isR 0 (o_getf 6 1 (o_ld rx_isI 1 (o_const 24 (o_callV 2 5 FX5_tellEvent (o_ld rx_isR 0 (o_ld rx_isI 1 (o_const 24 (o_ld rx_isR 0 (o_getf 6 3 (o_ld rx_isR 0 (o_getf 6 0 (o_getf 11 1 (o_ld rx_isI 1 (o_ald 4 (o_getf 10 18 (o_callV 4 6 FX6_openFrame (o_ld rx_isR 0 (vX6_ready_118))))))))))))))))))))))))
set_option maxRecDepth 20000 in
theorem wX6_ready_76 (hZ : zO b e D A X) : rx_OK (zV b e D A X) mX6_ready 5 76 vX6_ready_76 := by
  unfold vX6_ready_76
  refine s_aload_n hZ.1 dX6_ready_76 rfl ?_
  refine yg6_1 dX6_ready_77 zw1474 ?_
  refine yg5_1 dX6_ready_80 zw1352 ?_
  refine s_iload_n hZ.1 dX6_ready_83 rfl ?_
  refine s_iconst dX6_ready_84 (by decide +kernel) ?_
  refine s_iast hZ.1 (tt := 0) rfl dX6_ready_85 ?_
  refine s_aload_n hZ.1 dX6_ready_86 rfl ?_
  refine yg6_1 dX6_ready_87 zw1474 ?_
  refine s_iload_n hZ.1 dX6_ready_90 rfl ?_
  refine s_iconst dX6_ready_91 (by decide +kernel) ?_
  refine s_callV hZ.1 (Met_X5_tellEvent hZ) (Nat.le_of_ble_eq_true rfl) vy_X5_tellEvent zcl5 zw2502 zw2503 (Or.inl zw2752) dX6_ready_92 ?_
  refine s_aload_n hZ.1 dX6_ready_95 rfl ?_
  refine s_iload_n hZ.1 dX6_ready_96 rfl ?_
  refine s_iconst dX6_ready_97 (by decide +kernel) ?_
  refine s_aload_n hZ.1 dX6_ready_98 rfl ?_
  refine yg6_3 dX6_ready_99 zw1477 ?_
  refine s_aload_n hZ.1 dX6_ready_102 rfl ?_
  refine yg6_0 dX6_ready_103 zw1473 ?_
  refine yg11_1 dX6_ready_106 zw1255 ?_
  refine s_iload_n hZ.1 dX6_ready_109 rfl ?_
  refine s_aald (tt := 4) rfl rfl dX6_ready_110 ?_
  refine yg10_18 dX6_ready_111 zw885 ?_
  refine s_callV hZ.1 (Met_X6_openFrame hZ) (Nat.le_of_ble_eq_true rfl) vy_X6_openFrame zcl6 zw2764 zw157 (Or.inl zw2762) dX6_ready_114 ?_
  refine s_aload_n hZ.1 dX6_ready_117 rfl ?_
  exact (wX6_ready_118 hZ)
noncomputable def vX6_ready_69 : rx_K := o_ld rx_isR 0 (o_ld rx_isI 3 (o_callV 1 6 FX6_fail (o_const 0 (o_ret1 rx_isZ))))
set_option maxRecDepth 20000 in
theorem wX6_ready_69 (hZ : zO b e D A X) : rx_OK (zV b e D A X) mX6_ready 5 69 vX6_ready_69 := by
  unfold vX6_ready_69
  refine s_aload_n hZ.1 dX6_ready_69 rfl ?_
  refine s_iload_n hZ.1 dX6_ready_70 rfl ?_
  refine s_callV hZ.1 (Met_X6_fail hZ) (Nat.le_of_ble_eq_true rfl) vy_X6_fail zcl6 zw2749 zw2750 (Or.inl zw2748) dX6_ready_71 ?_
  refine s_iconst dX6_ready_74 (by decide +kernel) ?_
  exact s_zret rx_z_ok rfl dX6_ready_75
noncomputable def vX6_ready_56 : rx_K := o_ld rx_isR 0 (o_getf 6 1 (o_ld rx_isI 1 (o_callV 1 5 FX5_link (o_st rx_isI 3 (o_ld rx_isI 3 (o_c1 rx_eq vX6_ready_76 vX6_ready_69))))))
set_option maxRecDepth 20000 in
theorem wX6_ready_56 (hZ : zO b e D A X) : rx_OK (zV b e D A X) mX6_ready 5 56 vX6_ready_56 := by
  unfold vX6_ready_56
  refine s_aload_n hZ.1 dX6_ready_56 rfl ?_
  refine yg6_1 dX6_ready_57 zw1474 ?_
  refine s_iload_n hZ.1 dX6_ready_60 rfl ?_
  refine s_callV hZ.1 (Met_X5_link hZ) (Nat.le_of_ble_eq_true rfl) vy_X5_link zcl5 zw2754 zw2755 (Or.inl zw2753) dX6_ready_61 ?_
  refine s_istore_n hZ.1 dX6_ready_64 rfl (Nat.le_of_ble_eq_true rfl) ?_
  refine s_iload_n hZ.1 dX6_ready_65 rfl ?_
  exact s_if_eq dX6_ready_66 (by decide) (wX6_ready_76 hZ) (wX6_ready_69 hZ)
noncomputable def vX6_ready_51 : rx_K := o_callV 1 6 FX6_fail (o_const 0 (o_ret1 rx_isZ))
set_option maxRecDepth 20000 in
theorem wX6_ready_51 (hZ : zO b e D A X) : rx_OK (zV b e D A X) mX6_ready 5 51 vX6_ready_51 := by
  unfold vX6_ready_51
  refine s_callV hZ.1 (Met_X6_fail hZ) (Nat.le_of_ble_eq_true rfl) vy_X6_fail zcl6 zw2749 zw2750 (Or.inl zw2748) dX6_ready_51 ?_
  refine s_iconst dX6_ready_54 (by decide +kernel) ?_
  exact s_zret rx_z_ok rfl dX6_ready_55
noncomputable def vX6_ready_49 : rx_K := o_const 120 (vX6_ready_51)
set_option maxRecDepth 20000 in
theorem wX6_ready_49 (hZ : zO b e D A X) : rx_OK (zV b e D A X) mX6_ready 5 49 vX6_ready_49 := by
  unfold vX6_ready_49
  refine s_bipush dX6_ready_49 (by decide +kernel) ?_
  exact (wX6_ready_51 hZ)
noncomputable def vX6_ready_44 : rx_K := o_const 72 (vX6_ready_51)
set_option maxRecDepth 20000 in
theorem wX6_ready_44 (hZ : zO b e D A X) : rx_OK (zV b e D A X) mX6_ready 5 44 vX6_ready_44 := by
  unfold vX6_ready_44
  refine s_bipush dX6_ready_44 (by decide +kernel) ?_
  exact s_goto dX6_ready_46 (by decide) (wX6_ready_51 hZ)
noncomputable def vX6_ready_37 : rx_K := o_ld rx_isR 0 (o_ld rx_isI 2 (o_const 56 (o_c2 rx_eq vX6_ready_44 vX6_ready_49)))
set_option maxRecDepth 20000 in
theorem wX6_ready_37 (hZ : zO b e D A X) : rx_OK (zV b e D A X) mX6_ready 5 37 vX6_ready_37 := by
  unfold vX6_ready_37
  refine s_aload_n hZ.1 dX6_ready_37 rfl ?_
  refine s_iload_n hZ.1 dX6_ready_38 rfl ?_
  refine s_bipush dX6_ready_39 (by decide +kernel) ?_
  exact s_icmp_ne dX6_ready_41 (by decide) (wX6_ready_49 hZ) (wX6_ready_44 hZ)
noncomputable def vX6_ready_28 : rx_K := o_ld rx_isR 0 (o_getf 6 5 (o_const 192 (o_c2 rx_lt vX6_ready_56 vX6_ready_37)))
set_option maxRecDepth 20000 in
theorem wX6_ready_28 (hZ : zO b e D A X) : rx_OK (zV b e D A X) mX6_ready 5 28 vX6_ready_28 := by
  unfold vX6_ready_28
  refine s_aload_n hZ.1 dX6_ready_28 rfl ?_
  refine yg6_5 dX6_ready_29 zw1479 ?_
  refine s_bipush dX6_ready_32 (by decide +kernel) ?_
  exact s_icmp_lt dX6_ready_34 (by decide) (wX6_ready_56 hZ) (wX6_ready_37 hZ)
noncomputable def vX6_ready_22 : rx_K := o_ld rx_isI 2 (o_const 56 (o_c2 rx_eq vX6_ready_37 vX6_ready_28))
set_option maxRecDepth 20000 in
theorem wX6_ready_22 (hZ : zO b e D A X) : rx_OK (zV b e D A X) mX6_ready 5 22 vX6_ready_22 := by
  unfold vX6_ready_22
  refine s_iload_n hZ.1 dX6_ready_22 rfl ?_
  refine s_bipush dX6_ready_23 (by decide +kernel) ?_
  exact s_icmp_eq dX6_ready_25 (by decide) (wX6_ready_37 hZ) (wX6_ready_28 hZ)
noncomputable def vX6_ready_20 : rx_K := o_const 8 (o_ret1 rx_isZ)
set_option maxRecDepth 20000 in
theorem wX6_ready_20 (hZ : zO b e D A X) : rx_OK (zV b e D A X) mX6_ready 5 20 vX6_ready_20 := by
  unfold vX6_ready_20
  refine s_iconst dX6_ready_20 (by decide +kernel) ?_
  exact s_zret rx_z_ok rfl dX6_ready_21
noncomputable def vX6_ready_15 : rx_K := o_ld rx_isI 2 (o_const 24 (o_c2 rx_eq vX6_ready_20 vX6_ready_22))
set_option maxRecDepth 20000 in
theorem wX6_ready_15 (hZ : zO b e D A X) : rx_OK (zV b e D A X) mX6_ready 5 15 vX6_ready_15 := by
  unfold vX6_ready_15
  refine s_iload_n hZ.1 dX6_ready_15 rfl ?_
  refine s_iconst dX6_ready_16 (by decide +kernel) ?_
  exact s_icmp_ne dX6_ready_17 (by decide) (wX6_ready_22 hZ) (wX6_ready_20 hZ)
noncomputable def vX6_ready_0 : rx_K := o_ld rx_isR 0 (o_getf 6 1 (o_getf 5 1 (o_ld rx_isI 1 (o_ald 0 (o_st rx_isI 2 (o_ld rx_isI 2 (o_const 32 (o_c2 rx_eq vX6_ready_20 vX6_ready_15))))))))
set_option maxRecDepth 20000 in
theorem wX6_ready_0 (hZ : zO b e D A X) : rx_OK (zV b e D A X) mX6_ready 5 0 vX6_ready_0 := by
  unfold vX6_ready_0
  refine s_aload_n hZ.1 dX6_ready_0 rfl ?_
  refine yg6_1 dX6_ready_1 zw1474 ?_
  refine yg5_1 dX6_ready_4 zw1352 ?_
  refine s_iload_n hZ.1 dX6_ready_7 rfl ?_
  refine s_iald (tt := 0) rfl dX6_ready_8 ?_
  refine s_istore_n hZ.1 dX6_ready_9 rfl (Nat.le_of_ble_eq_true rfl) ?_
  refine s_iload_n hZ.1 dX6_ready_10 rfl ?_
  refine s_iconst dX6_ready_11 (by decide +kernel) ?_
  exact s_icmp_eq dX6_ready_12 (by decide) (wX6_ready_20 hZ) (wX6_ready_15 hZ)
noncomputable def FX6_ready : List Nat → rx_H → Option (Nat × rx_H) := rx_ent 4 vX6_ready_0
theorem Met_X6_ready (hZ : zO b e D A X) : rx_Met (zV b e D A X) 5 yX6_ready mX6_ready (FX6_ready) := rx_entry hZ.1 (wX6_ready_0 hZ) (by decide +kernel) rfl (fun h => by cases h)
abbrev mX6_open : rx_M := (RX6, cX6_open, 2, none, false)
theorem vy_X6_open : rx_Y (zV b e D A X) yX6_open mX6_open 1 := ⟨zw2743, zw430, by decide, by decide +kernel, by decide +kernel, by decide +kernel⟩
noncomputable def vX6_open_40 : rx_K := o_ld rx_isR 0 (o_ld rx_isI 1 (o_callV 1 6 FX6_ready (o_pop (o_ret0))))
set_option maxRecDepth 20000 in
theorem wX6_open_40 (hZ : zO b e D A X) : rx_OK (zV b e D A X) mX6_open 6 40 vX6_open_40 := by
  unfold vX6_open_40
  refine s_aload_n hZ.1 dX6_open_40 rfl ?_
  refine s_iload_n hZ.1 dX6_open_41 rfl ?_
  refine s_callV hZ.1 (Met_X6_ready hZ) (Nat.le_of_ble_eq_true rfl) vy_X6_ready zcl6 zw2746 zw155 (Or.inl zw2744) dX6_open_42 ?_
  refine s_pop hZ.1 dX6_open_45 ?_
  exact s_vret rfl dX6_open_46
noncomputable def vX6_open_0 : rx_K := o_ld rx_isR 0 (o_const 0 (o_putf rx_isI 6 14 (o_ld rx_isR 0 (o_const 0 (o_putf rx_isI 6 16 (o_ld rx_isR 0 (o_const 0 (o_putf rx_isI 6 17 (o_ld rx_isR 0 (o_const 0 (o_putf rx_isI 6 18 (o_ld rx_isR 0 (o_const 0 (o_putf rx_isI 6 19 (o_ld rx_isR 0 (o_const 0 (o_putf rx_isI 6 3 (o_ld rx_isR 0 (o_const 0 (o_putf rx_isI 6 5 (o_ld rx_isR 0 (o_const 0 (o_putf rx_isI 6 7 (vX6_open_40))))))))))))))))))))))))
set_option maxRecDepth 20000 in
theorem wX6_open_0 (hZ : zO b e D A X) : rx_OK (zV b e D A X) mX6_open 6 0 vX6_open_0 := by
  unfold vX6_open_0
  refine s_aload_n hZ.1 dX6_open_0 rfl ?_
  refine s_iconst dX6_open_1 (by decide +kernel) ?_
  refine yp6_14 hZ.1 dX6_open_2 zw1494 ?_
  refine s_aload_n hZ.1 dX6_open_5 rfl ?_
  refine s_iconst dX6_open_6 (by decide +kernel) ?_
  refine yp6_16 hZ.1 dX6_open_7 zw1498 ?_
  refine s_aload_n hZ.1 dX6_open_10 rfl ?_
  refine s_iconst dX6_open_11 (by decide +kernel) ?_
  refine yp6_17 hZ.1 dX6_open_12 zw1500 ?_
  refine s_aload_n hZ.1 dX6_open_15 rfl ?_
  refine s_iconst dX6_open_16 (by decide +kernel) ?_
  refine yp6_18 hZ.1 dX6_open_17 zw1502 ?_
  refine s_aload_n hZ.1 dX6_open_20 rfl ?_
  refine s_iconst dX6_open_21 (by decide +kernel) ?_
  refine yp6_19 hZ.1 dX6_open_22 zw1504 ?_
  refine s_aload_n hZ.1 dX6_open_25 rfl ?_
  refine s_iconst dX6_open_26 (by decide +kernel) ?_
  refine yp6_3 hZ.1 dX6_open_27 zw1477 ?_
  refine s_aload_n hZ.1 dX6_open_30 rfl ?_
  refine s_iconst dX6_open_31 (by decide +kernel) ?_
  refine yp6_5 hZ.1 dX6_open_32 zw1479 ?_
  refine s_aload_n hZ.1 dX6_open_35 rfl ?_
  refine s_iconst dX6_open_36 (by decide +kernel) ?_
  refine yp6_7 hZ.1 dX6_open_37 zw1482 ?_
  exact (wX6_open_40 hZ)
noncomputable def FX6_open : List Nat → rx_H → Option (Nat × rx_H) := rx_ent 2 vX6_open_0
theorem Met_X6_open (hZ : zO b e D A X) : rx_Met (zV b e D A X) 6 yX6_open mX6_open (FX6_open) := rx_entry hZ.1 (wX6_open_0 hZ) (by decide +kernel) rfl (fun h => by cases h)
abbrev mX6_push : rx_M := (RX6, cX6_push, 2, none, false)
theorem vy_X6_push : rx_Y (zV b e D A X) yX6_push mX6_push 1 := ⟨zw2791, zw430, by decide, by decide +kernel, by decide +kernel, by decide +kernel⟩
noncomputable def vX6_push_32 : rx_K := o_ret0
set_option maxRecDepth 20000 in
theorem wX6_push_32 (hZ : zO b e D A X) : rx_OK (zV b e D A X) mX6_push 0 32 vX6_push_32 := by
  unfold vX6_push_32
  exact s_vret rfl dX6_push_32
noncomputable def vX6_push_12 : rx_K := o_ld rx_isR 0 (o_getf 6 2 (o_ld rx_isR 0 (o_getf 6 3 (o_ld rx_isI 1 (o_ast 0 (fun v => v) rx_isI (o_ld rx_isR 0 (o_dup (o_getf 6 3 (o_const 8 (o_bi (fun x y => x + y) (o_putf rx_isI 6 3 (vX6_push_32))))))))))))
set_option maxRecDepth 20000 in
theorem wX6_push_12 (hZ : zO b e D A X) : rx_OK (zV b e D A X) mX6_push 0 12 vX6_push_12 := by
  unfold vX6_push_12
  refine s_aload_n hZ.1 dX6_push_12 rfl ?_
  refine yg6_2 dX6_push_13 zw1476 ?_
  refine s_aload_n hZ.1 dX6_push_16 rfl ?_
  refine yg6_3 dX6_push_17 zw1477 ?_
  refine s_iload_n hZ.1 dX6_push_20 rfl ?_
  refine s_iast hZ.1 (tt := 0) rfl dX6_push_21 ?_
  refine s_aload_n hZ.1 dX6_push_22 rfl ?_
  refine s_dup hZ.1 dX6_push_23 ?_
  refine yg6_3 dX6_push_24 zw1477 ?_
  refine s_iconst dX6_push_27 (by decide +kernel) ?_
  refine s_iadd dX6_push_28 ?_
  refine yp6_3 hZ.1 dX6_push_29 zw1477 ?_
  exact (wX6_push_32 hZ)
noncomputable def vX6_push_0 : rx_K := o_ld rx_isR 0 (o_getf 6 3 (o_ld rx_isR 0 (o_getf 6 2 (o_alen 0 (o_c2 rx_lt vX6_push_12 vX6_push_32)))))
set_option maxRecDepth 20000 in
theorem wX6_push_0 (hZ : zO b e D A X) : rx_OK (zV b e D A X) mX6_push 0 0 vX6_push_0 := by
  unfold vX6_push_0
  refine s_aload_n hZ.1 dX6_push_0 rfl ?_
  refine yg6_3 dX6_push_1 zw1477 ?_
  refine s_aload_n hZ.1 dX6_push_4 rfl ?_
  refine yg6_2 dX6_push_5 zw1476 ?_
  refine s_alen (tt := 0) rfl dX6_push_8 ?_
  exact s_icmp_ge dX6_push_9 (by decide) (wX6_push_32 hZ) (wX6_push_12 hZ)
noncomputable def FX6_push : List Nat → rx_H → Option (Nat × rx_H) := rx_ent 2 vX6_push_0
theorem Met_X6_push (hZ : zO b e D A X) : rx_Met (zV b e D A X) 0 yX6_push mX6_push (FX6_push) := rx_entry hZ.1 (wX6_push_0 hZ) (by decide +kernel) rfl (fun h => by cases h)
abbrev mX6_pop : rx_M := (RX6, cX6_pop, 1, (some .int), false)
theorem vy_X6_pop : rx_Y (zV b e D A X) yX6_pop mX6_pop 0 := ⟨zw2795, zw430, by decide, by decide +kernel, by decide +kernel, by decide +kernel⟩
noncomputable def vX6_pop_9 : rx_K := o_ld rx_isR 0 (o_dup (o_getf 6 3 (o_const 8 (o_bi (fun x y => x - y) (o_putf rx_isI 6 3 (o_ld rx_isR 0 (o_getf 6 2 (o_ld rx_isR 0 (o_getf 6 3 (o_ald 0 (o_ret1 rx_isI)))))))))))
set_option maxRecDepth 20000 in
theorem wX6_pop_9 (hZ : zO b e D A X) : rx_OK (zV b e D A X) mX6_pop 0 9 vX6_pop_9 := by
  unfold vX6_pop_9
  refine s_aload_n hZ.1 dX6_pop_9 rfl ?_
  refine s_dup hZ.1 dX6_pop_10 ?_
  refine yg6_3 dX6_pop_11 zw1477 ?_
  refine s_iconst dX6_pop_14 (by decide +kernel) ?_
  refine s_isub dX6_pop_15 ?_
  refine yp6_3 hZ.1 dX6_pop_16 zw1477 ?_
  refine s_aload_n hZ.1 dX6_pop_19 rfl ?_
  refine yg6_2 dX6_pop_20 zw1476 ?_
  refine s_aload_n hZ.1 dX6_pop_23 rfl ?_
  refine yg6_3 dX6_pop_24 zw1477 ?_
  refine s_iald (tt := 0) rfl dX6_pop_27 ?_
  exact s_iret hZ.1 rfl dX6_pop_28
noncomputable def vX6_pop_7 : rx_K := o_const 0 (o_ret1 rx_isI)
set_option maxRecDepth 20000 in
theorem wX6_pop_7 (hZ : zO b e D A X) : rx_OK (zV b e D A X) mX6_pop 0 7 vX6_pop_7 := by
  unfold vX6_pop_7
  refine s_iconst dX6_pop_7 (by decide +kernel) ?_
  exact s_iret hZ.1 rfl dX6_pop_8
noncomputable def vX6_pop_0 : rx_K := o_ld rx_isR 0 (o_getf 6 3 (o_c1 (fun h x y => rx_lt h y x) vX6_pop_9 vX6_pop_7))
set_option maxRecDepth 20000 in
theorem wX6_pop_0 (hZ : zO b e D A X) : rx_OK (zV b e D A X) mX6_pop 0 0 vX6_pop_0 := by
  unfold vX6_pop_0
  refine s_aload_n hZ.1 dX6_pop_0 rfl ?_
  refine yg6_3 dX6_pop_1 zw1477 ?_
  exact s_if_gt dX6_pop_4 (by decide) (wX6_pop_9 hZ) (wX6_pop_7 hZ)
noncomputable def FX6_pop : List Nat → rx_H → Option (Nat × rx_H) := rx_ent 1 vX6_pop_0
theorem Met_X6_pop (hZ : zO b e D A X) : rx_Met (zV b e D A X) 0 yX6_pop mX6_pop (FX6_pop) := rx_entry hZ.1 (wX6_pop_0 hZ) (by decide +kernel) rfl (fun h => by cases h)
abbrev mX6_peek : rx_M := (RX6, cX6_peek, 3, (some .int), false)
theorem vy_X6_peek : rx_Y (zV b e D A X) yX6_peek mX6_peek 1 := ⟨zw2799, zw430, by decide, by decide +kernel, by decide +kernel, by decide +kernel⟩
noncomputable def vX6_peek_32 : rx_K := o_ret1 rx_isI
set_option maxRecDepth 20000 in
theorem wX6_peek_32 (hZ : zO b e D A X) : rx_OK (zV b e D A X) mX6_peek 0 32 vX6_peek_32 := by
  unfold vX6_peek_32
  exact s_iret hZ.1 rfl dX6_peek_32
noncomputable def vX6_peek_31 : rx_K := o_const 0 (vX6_peek_32)
set_option maxRecDepth 20000 in
theorem wX6_peek_31 (hZ : zO b e D A X) : rx_OK (zV b e D A X) mX6_peek 0 31 vX6_peek_31 := by
  unfold vX6_peek_31
  refine s_iconst dX6_peek_31 (by decide +kernel) ?_
  exact (wX6_peek_32 hZ)
noncomputable def vX6_peek_22 : rx_K := o_ld rx_isR 0 (o_getf 6 2 (o_ld rx_isI 2 (o_ald 0 (vX6_peek_32))))
set_option maxRecDepth 20000 in
theorem wX6_peek_22 (hZ : zO b e D A X) : rx_OK (zV b e D A X) mX6_peek 0 22 vX6_peek_22 := by
  unfold vX6_peek_22
  refine s_aload_n hZ.1 dX6_peek_22 rfl ?_
  refine yg6_2 dX6_peek_23 zw1476 ?_
  refine s_iload_n hZ.1 dX6_peek_26 rfl ?_
  refine s_iald (tt := 0) rfl dX6_peek_27 ?_
  exact s_goto dX6_peek_28 (by decide) (wX6_peek_32 hZ)
noncomputable def vX6_peek_13 : rx_K := o_ld rx_isI 2 (o_ld rx_isR 0 (o_getf 6 2 (o_alen 0 (o_c2 rx_lt vX6_peek_22 vX6_peek_31))))
set_option maxRecDepth 20000 in
theorem wX6_peek_13 (hZ : zO b e D A X) : rx_OK (zV b e D A X) mX6_peek 0 13 vX6_peek_13 := by
  unfold vX6_peek_13
  refine s_iload_n hZ.1 dX6_peek_13 rfl ?_
  refine s_aload_n hZ.1 dX6_peek_14 rfl ?_
  refine yg6_2 dX6_peek_15 zw1476 ?_
  refine s_alen (tt := 0) rfl dX6_peek_18 ?_
  exact s_icmp_ge dX6_peek_19 (by decide) (wX6_peek_31 hZ) (wX6_peek_22 hZ)
noncomputable def vX6_peek_0 : rx_K := o_ld rx_isR 0 (o_getf 6 3 (o_const 8 (o_bi (fun x y => x - y) (o_ld rx_isI 1 (o_bi (fun x y => x - y) (o_st rx_isI 2 (o_ld rx_isI 2 (o_c1 rx_lt vX6_peek_31 vX6_peek_13))))))))
set_option maxRecDepth 20000 in
theorem wX6_peek_0 (hZ : zO b e D A X) : rx_OK (zV b e D A X) mX6_peek 0 0 vX6_peek_0 := by
  unfold vX6_peek_0
  refine s_aload_n hZ.1 dX6_peek_0 rfl ?_
  refine yg6_3 dX6_peek_1 zw1477 ?_
  refine s_iconst dX6_peek_4 (by decide +kernel) ?_
  refine s_isub dX6_peek_5 ?_
  refine s_iload_n hZ.1 dX6_peek_6 rfl ?_
  refine s_isub dX6_peek_7 ?_
  refine s_istore_n hZ.1 dX6_peek_8 rfl (Nat.le_of_ble_eq_true rfl) ?_
  refine s_iload_n hZ.1 dX6_peek_9 rfl ?_
  exact s_if_lt dX6_peek_10 (by decide) (wX6_peek_31 hZ) (wX6_peek_13 hZ)
noncomputable def FX6_peek : List Nat → rx_H → Option (Nat × rx_H) := rx_ent 3 vX6_peek_0
theorem Met_X6_peek (hZ : zO b e D A X) : rx_Met (zV b e D A X) 0 yX6_peek mX6_peek (FX6_peek) := rx_entry hZ.1 (wX6_peek_0 hZ) (by decide +kernel) rfl (fun h => by cases h)
abbrev mX6_call : rx_M := (RX6, cX6_call, 5, none, false)
theorem vy_X6_call : rx_Y (zV b e D A X) yX6_call mX6_call 4 := ⟨zw2861, zw430, by decide, by decide +kernel, by decide +kernel, by decide +kernel⟩
noncomputable def vX6_call_85 : rx_K := o_ret0
set_option maxRecDepth 20000 in
theorem wX6_call_85 (hZ : zO b e D A X) : rx_OK (zV b e D A X) mX6_call 2 85 vX6_call_85 := by
  unfold vX6_call_85
  exact s_vret rfl dX6_call_85
noncomputable def vX6_call_61 : rx_K := o_ld rx_isR 0 (o_dup (o_getf 6 14 (o_const 8 (o_bi (fun x y => x + y) (o_putf rx_isI 6 14 (o_ld rx_isR 0 (o_ld rx_isI 1 (o_ld rx_isI 4 (o_ld rx_isR 0 (o_getf 6 3 (o_ld rx_isI 3 (o_bi (fun x y => x - y) (o_ld rx_isR 2 (o_callV 4 6 FX6_openFrame (vX6_call_85)))))))))))))))
set_option maxRecDepth 20000 in
theorem wX6_call_61 (hZ : zO b e D A X) : rx_OK (zV b e D A X) mX6_call 2 61 vX6_call_61 := by
  unfold vX6_call_61
  refine s_aload_n hZ.1 dX6_call_61 rfl ?_
  refine s_dup hZ.1 dX6_call_62 ?_
  refine yg6_14 dX6_call_63 zw1494 ?_
  refine s_iconst dX6_call_66 (by decide +kernel) ?_
  refine s_iadd dX6_call_67 ?_
  refine yp6_14 hZ.1 dX6_call_68 zw1494 ?_
  refine s_aload_n hZ.1 dX6_call_71 rfl ?_
  refine s_iload_n hZ.1 dX6_call_72 rfl ?_
  refine s_iload hZ.1 dX6_call_73 ?_
  refine s_aload_n hZ.1 dX6_call_75 rfl ?_
  refine yg6_3 dX6_call_76 zw1477 ?_
  refine s_iload_n hZ.1 dX6_call_79 rfl ?_
  refine s_isub dX6_call_80 ?_
  refine s_aload_n hZ.1 dX6_call_81 rfl ?_
  refine s_callV hZ.1 (Met_X6_openFrame hZ) (Nat.le_of_ble_eq_true rfl) vy_X6_openFrame zcl6 zw2764 zw157 (Or.inl zw2762) dX6_call_82 ?_
  exact (wX6_call_85 hZ)
noncomputable def vX6_call_52 : rx_K := o_ld rx_isR 0 (o_const 120 (o_callV 1 6 FX6_fail (vX6_call_85)))
set_option maxRecDepth 20000 in
theorem wX6_call_52 (hZ : zO b e D A X) : rx_OK (zV b e D A X) mX6_call 2 52 vX6_call_52 := by
  unfold vX6_call_52
  refine s_aload_n hZ.1 dX6_call_52 rfl ?_
  refine s_bipush dX6_call_53 (by decide +kernel) ?_
  refine s_callV hZ.1 (Met_X6_fail hZ) (Nat.le_of_ble_eq_true rfl) vy_X6_fail zcl6 zw2749 zw2750 (Or.inl zw2748) dX6_call_55 ?_
  exact s_goto dX6_call_58 (by decide) (wX6_call_85 hZ)
noncomputable def vX6_call_36 : rx_K := o_ld rx_isR 0 (o_getf 6 3 (o_const 6400 (o_bi (fun x y => x + y) (o_ld rx_isR 0 (o_getf 6 2 (o_alen 0 (o_c2 (fun h x y => rx_lt h y x) vX6_call_52 vX6_call_61)))))))
set_option maxRecDepth 20000 in
theorem wX6_call_36 (hZ : zO b e D A X) : rx_OK (zV b e D A X) mX6_call 2 36 vX6_call_36 := by
  unfold vX6_call_36
  refine s_aload_n hZ.1 dX6_call_36 rfl ?_
  refine yg6_3 dX6_call_37 zw1477 ?_
  refine s_sipush dX6_call_40 (by decide +kernel) ?_
  refine s_iadd dX6_call_43 ?_
  refine s_aload_n hZ.1 dX6_call_44 rfl ?_
  refine yg6_2 dX6_call_45 zw1476 ?_
  refine s_alen (tt := 0) rfl dX6_call_48 ?_
  exact s_icmp_le dX6_call_49 (by decide) (wX6_call_61 hZ) (wX6_call_52 hZ)
noncomputable def vX6_call_28 : rx_K := o_ld rx_isR 0 (o_getf 6 3 (o_ld rx_isI 3 (o_c2 rx_lt vX6_call_52 vX6_call_36)))
set_option maxRecDepth 20000 in
theorem wX6_call_28 (hZ : zO b e D A X) : rx_OK (zV b e D A X) mX6_call 2 28 vX6_call_28 := by
  unfold vX6_call_28
  refine s_aload_n hZ.1 dX6_call_28 rfl ?_
  refine yg6_3 dX6_call_29 zw1477 ?_
  refine s_iload_n hZ.1 dX6_call_32 rfl ?_
  exact s_icmp_lt dX6_call_33 (by decide) (wX6_call_52 hZ) (wX6_call_36 hZ)
noncomputable def vX6_call_19 : rx_K := o_ld rx_isR 0 (o_getf 6 5 (o_const 192 (o_c2 rx_lt vX6_call_28 vX6_call_52)))
set_option maxRecDepth 20000 in
theorem wX6_call_19 (hZ : zO b e D A X) : rx_OK (zV b e D A X) mX6_call 2 19 vX6_call_19 := by
  unfold vX6_call_19
  refine s_aload_n hZ.1 dX6_call_19 rfl ?_
  refine yg6_5 dX6_call_20 zw1479 ?_
  refine s_bipush dX6_call_23 (by decide +kernel) ?_
  exact s_icmp_ge dX6_call_25 (by decide) (wX6_call_52 hZ) (wX6_call_28 hZ)
noncomputable def vX6_call_10 : rx_K := o_ld rx_isR 0 (o_const 112 (o_callV 1 6 FX6_fail (vX6_call_85)))
set_option maxRecDepth 20000 in
theorem wX6_call_10 (hZ : zO b e D A X) : rx_OK (zV b e D A X) mX6_call 2 10 vX6_call_10 := by
  unfold vX6_call_10
  refine s_aload_n hZ.1 dX6_call_10 rfl ?_
  refine s_bipush dX6_call_11 (by decide +kernel) ?_
  refine s_callV hZ.1 (Met_X6_fail hZ) (Nat.le_of_ble_eq_true rfl) vy_X6_fail zcl6 zw2749 zw2750 (Or.inl zw2748) dX6_call_13 ?_
  exact s_goto dX6_call_16 (by decide) (wX6_call_85 hZ)
noncomputable def vX6_call_0 : rx_K := o_ld rx_isR 0 (o_getf 6 14 (o_const 160000 (o_c2 rx_lt vX6_call_19 vX6_call_10)))
set_option maxRecDepth 20000 in
theorem wX6_call_0 (hZ : zO b e D A X) : rx_OK (zV b e D A X) mX6_call 2 0 vX6_call_0 := by
  unfold vX6_call_0
  refine s_aload_n hZ.1 dX6_call_0 rfl ?_
  refine yg6_14 dX6_call_1 zw1494 ?_
  refine s_sipush dX6_call_4 (by decide +kernel) ?_
  exact s_icmp_lt dX6_call_7 (by decide) (wX6_call_19 hZ) (wX6_call_10 hZ)
noncomputable def FX6_call : List Nat → rx_H → Option (Nat × rx_H) := rx_ent 5 vX6_call_0
theorem Met_X6_call (hZ : zO b e D A X) : rx_Met (zV b e D A X) 2 yX6_call mX6_call (FX6_call) := rx_entry hZ.1 (wX6_call_0 hZ) (by decide +kernel) rfl (fun h => by cases h)
abbrev mX6_close : rx_M := (RX6, cX6_close, 2, none, false)
theorem vy_X6_close : rx_Y (zV b e D A X) yX6_close mX6_close 1 := ⟨zw2814, zw430, by decide, by decide +kernel, by decide +kernel, by decide +kernel⟩
noncomputable def vX6_close_0 : rx_K := o_ld rx_isR 0 (o_dup (o_getf 6 5 (o_const 8 (o_bi (fun x y => x - y) (o_putf rx_isI 6 5 (o_ld rx_isR 0 (o_ld rx_isR 1 (o_const 16 (o_ald 0 (o_putf rx_isI 6 3 (o_ld rx_isR 0 (o_ld rx_isR 1 (o_const 24 (o_ald 0 (o_putf rx_isI 6 7 (o_ret0))))))))))))))))
set_option maxRecDepth 20000 in
theorem wX6_close_0 (hZ : zO b e D A X) : rx_OK (zV b e D A X) mX6_close 0 0 vX6_close_0 := by
  unfold vX6_close_0
  refine s_aload_n hZ.1 dX6_close_0 rfl ?_
  refine s_dup hZ.1 dX6_close_1 ?_
  refine yg6_5 dX6_close_2 zw1479 ?_
  refine s_iconst dX6_close_5 (by decide +kernel) ?_
  refine s_isub dX6_close_6 ?_
  refine yp6_5 hZ.1 dX6_close_7 zw1479 ?_
  refine s_aload_n hZ.1 dX6_close_10 rfl ?_
  refine s_aload_n hZ.1 dX6_close_11 rfl ?_
  refine s_iconst dX6_close_12 (by decide +kernel) ?_
  refine s_iald (tt := 0) rfl dX6_close_13 ?_
  refine yp6_3 hZ.1 dX6_close_14 zw1477 ?_
  refine s_aload_n hZ.1 dX6_close_17 rfl ?_
  refine s_aload_n hZ.1 dX6_close_18 rfl ?_
  refine s_iconst dX6_close_19 (by decide +kernel) ?_
  refine s_iald (tt := 0) rfl dX6_close_20 ?_
  refine yp6_7 hZ.1 dX6_close_21 zw1482 ?_
  exact s_vret rfl dX6_close_24
noncomputable def FX6_close : List Nat → rx_H → Option (Nat × rx_H) := rx_ent 2 vX6_close_0
theorem Met_X6_close (hZ : zO b e D A X) : rx_Met (zV b e D A X) 0 yX6_close mX6_close (FX6_close) := rx_entry hZ.1 (wX6_close_0 hZ) (by decide +kernel) rfl (fun h => by cases h)
abbrev mX6_slotsTo : rx_M := (RX6, cX6_slotsTo, 5, (some .int), false)
theorem vy_X6_slotsTo : rx_Y (zV b e D A X) yX6_slotsTo mX6_slotsTo 1 := ⟨zw2823, zw430, by decide, by decide +kernel, by decide +kernel, by decide +kernel⟩
noncomputable def vX6_slotsTo_75 (j : Nat → rx_K) : rx_K := o_ld rx_isI 2 (o_ret1 rx_isI)
set_option maxRecDepth 20000 in
theorem wX6_slotsTo_75 (hZ : zO b e D A X) (j : Nat → rx_K) (hj : ∀ k pc, [26][k]? = some pc → rx_OK (zV b e D A X) mX6_slotsTo 0 pc (j k)) : rx_OK (zV b e D A X) mX6_slotsTo 0 75 (vX6_slotsTo_75 j) := by
  unfold vX6_slotsTo_75
  refine s_iload_n hZ.1 dX6_slotsTo_75 rfl ?_
  exact s_iret hZ.1 rfl dX6_slotsTo_76
noncomputable def vX6_slotsTo_44 (j : Nat → rx_K) : rx_K := o_ld rx_isI 2 (o_ld rx_isR 0 (o_getf 6 0 (o_getf 11 1 (o_ld rx_isI 3 (o_ald 4 (o_getf 10 20 (o_bi (fun x y => x + y) (o_st rx_isI 2 (o_ld rx_isR 0 (o_getf 6 0 (o_getf 11 3 (o_ld rx_isI 3 (o_ald 0 (o_st rx_isI 3 (o_inc 4 (1) ((j 0)))))))))))))))))
set_option maxRecDepth 20000 in
theorem wX6_slotsTo_44 (hZ : zO b e D A X) (j : Nat → rx_K) (hj : ∀ k pc, [26][k]? = some pc → rx_OK (zV b e D A X) mX6_slotsTo 0 pc (j k)) : rx_OK (zV b e D A X) mX6_slotsTo 0 44 (vX6_slotsTo_44 j) := by
  unfold vX6_slotsTo_44
  refine s_iload_n hZ.1 dX6_slotsTo_44 rfl ?_
  refine s_aload_n hZ.1 dX6_slotsTo_45 rfl ?_
  refine yg6_0 dX6_slotsTo_46 zw1473 ?_
  refine yg11_1 dX6_slotsTo_49 zw1255 ?_
  refine s_iload_n hZ.1 dX6_slotsTo_52 rfl ?_
  refine s_aald (tt := 4) rfl rfl dX6_slotsTo_53 ?_
  refine yg10_20 dX6_slotsTo_54 zw892 ?_
  refine s_iadd dX6_slotsTo_57 ?_
  refine s_istore_n hZ.1 dX6_slotsTo_58 rfl (Nat.le_of_ble_eq_true rfl) ?_
  refine s_aload_n hZ.1 dX6_slotsTo_59 rfl ?_
  refine yg6_0 dX6_slotsTo_60 zw1473 ?_
  refine yg11_3 dX6_slotsTo_63 zw1265 ?_
  refine s_iload_n hZ.1 dX6_slotsTo_66 rfl ?_
  refine s_iald (tt := 0) rfl dX6_slotsTo_67 ?_
  refine s_istore_n hZ.1 dX6_slotsTo_68 rfl (Nat.le_of_ble_eq_true rfl) ?_
  refine s_iinc hZ.1 dX6_slotsTo_69 (Nat.le_of_ble_eq_true rfl) ?_
  exact s_goto dX6_slotsTo_72 (by decide) (hj 0 26 rfl)
noncomputable def vX6_slotsTo_40 (j : Nat → rx_K) : rx_K := o_ld rx_isI 3 (o_c1 rx_lt (vX6_slotsTo_75 j) (vX6_slotsTo_44 j))
set_option maxRecDepth 20000 in
theorem wX6_slotsTo_40 (hZ : zO b e D A X) (j : Nat → rx_K) (hj : ∀ k pc, [26][k]? = some pc → rx_OK (zV b e D A X) mX6_slotsTo 0 pc (j k)) : rx_OK (zV b e D A X) mX6_slotsTo 0 40 (vX6_slotsTo_40 j) := by
  unfold vX6_slotsTo_40
  refine s_iload_n hZ.1 dX6_slotsTo_40 rfl ?_
  exact s_if_lt dX6_slotsTo_41 (by decide) (wX6_slotsTo_75 hZ j hj) (wX6_slotsTo_44 hZ j hj)
noncomputable def vX6_slotsTo_26 (j : Nat → rx_K) : rx_K := o_ld rx_isI 4 (o_ld rx_isR 0 (o_getf 6 0 (o_getf 11 4 (o_ld rx_isI 1 (o_ald 0 (o_c2 rx_lt (vX6_slotsTo_40 j) (vX6_slotsTo_75 j)))))))
set_option maxRecDepth 20000 in
theorem wX6_slotsTo_26 (hZ : zO b e D A X) (j : Nat → rx_K) (hj : ∀ k pc, [26][k]? = some pc → rx_OK (zV b e D A X) mX6_slotsTo 0 pc (j k)) : rx_OK (zV b e D A X) mX6_slotsTo 0 26 (vX6_slotsTo_26 j) := by
  unfold vX6_slotsTo_26
  refine s_iload hZ.1 dX6_slotsTo_26 ?_
  refine s_aload_n hZ.1 dX6_slotsTo_28 rfl ?_
  refine yg6_0 dX6_slotsTo_29 zw1473 ?_
  refine yg11_4 dX6_slotsTo_32 zw1270 ?_
  refine s_iload_n hZ.1 dX6_slotsTo_35 rfl ?_
  refine s_iald (tt := 0) rfl dX6_slotsTo_36 ?_
  exact s_icmp_ge dX6_slotsTo_37 (by decide) (wX6_slotsTo_75 hZ j hj) (wX6_slotsTo_40 hZ j hj)
noncomputable def vX6_slotsTo_0 (j : Nat → rx_K) : rx_K := o_ld rx_isR 0 (o_getf 6 0 (o_getf 11 1 (o_ld rx_isI 1 (o_ald 4 (o_getf 10 20 (o_st rx_isI 2 (o_ld rx_isR 0 (o_getf 6 0 (o_getf 11 3 (o_ld rx_isI 1 (o_ald 0 (o_st rx_isI 3 (o_const 0 (o_st rx_isI 4 ((vX6_slotsTo_26 j))))))))))))))))
set_option maxRecDepth 20000 in
theorem wX6_slotsTo_0 (hZ : zO b e D A X) (j : Nat → rx_K) (hj : ∀ k pc, [26][k]? = some pc → rx_OK (zV b e D A X) mX6_slotsTo 0 pc (j k)) : rx_OK (zV b e D A X) mX6_slotsTo 0 0 (vX6_slotsTo_0 j) := by
  unfold vX6_slotsTo_0
  refine s_aload_n hZ.1 dX6_slotsTo_0 rfl ?_
  refine yg6_0 dX6_slotsTo_1 zw1473 ?_
  refine yg11_1 dX6_slotsTo_4 zw1255 ?_
  refine s_iload_n hZ.1 dX6_slotsTo_7 rfl ?_
  refine s_aald (tt := 4) rfl rfl dX6_slotsTo_8 ?_
  refine yg10_20 dX6_slotsTo_9 zw892 ?_
  refine s_istore_n hZ.1 dX6_slotsTo_12 rfl (Nat.le_of_ble_eq_true rfl) ?_
  refine s_aload_n hZ.1 dX6_slotsTo_13 rfl ?_
  refine yg6_0 dX6_slotsTo_14 zw1473 ?_
  refine yg11_3 dX6_slotsTo_17 zw1265 ?_
  refine s_iload_n hZ.1 dX6_slotsTo_20 rfl ?_
  refine s_iald (tt := 0) rfl dX6_slotsTo_21 ?_
  refine s_istore_n hZ.1 dX6_slotsTo_22 rfl (Nat.le_of_ble_eq_true rfl) ?_
  refine s_iconst dX6_slotsTo_23 (by decide +kernel) ?_
  refine s_istore hZ.1 dX6_slotsTo_24 (Nat.le_of_ble_eq_true rfl) ?_
  exact (wX6_slotsTo_26 hZ j hj)
noncomputable def vhX6_slotsTo (j : Nat → rx_K) : List rx_K := [vX6_slotsTo_26 j]
theorem vlX6_slotsTo (hZ : zO b e D A X) : ∀ n k pc, [26][k]? = some pc → rx_OK (zV b e D A X) mX6_slotsTo 0 pc (rx_J (vhX6_slotsTo) n k) := rx_loop fun j hj k pc h => by
  match k, h with
  | 0, h =>
    have e9 := Option.some.inj (show some 26 = some pc from h)
    subst e9
    exact wX6_slotsTo_26 hZ j hj
  | _ + 1, h => exact absurd h (by simp)
noncomputable def FX6_slotsTo : List Nat → rx_H → Option (Nat × rx_H) := rx_ent 5 (vX6_slotsTo_0 (rx_J (vhX6_slotsTo) 4000000000))
theorem Met_X6_slotsTo (hZ : zO b e D A X) : rx_Met (zV b e D A X) 0 yX6_slotsTo mX6_slotsTo (FX6_slotsTo) := rx_entry hZ.1 (wX6_slotsTo_0 hZ _ (vlX6_slotsTo hZ 4000000000)) (by decide +kernel) rfl (fun h => by cases h)
abbrev mX6_fieldOne : rx_M := (RX6, cX6_fieldOne, 7, (some .boolean), false)
theorem vy_X6_fieldOne : rx_Y (zV b e D A X) yX6_fieldOne mX6_fieldOne 3 := ⟨zw2819, zw430, by decide, by decide +kernel, by decide +kernel, by decide +kernel⟩
noncomputable def vX6_fieldOne_120 : rx_K := o_const 8 (o_ret1 rx_isZ)
set_option maxRecDepth 20000 in
theorem wX6_fieldOne_120 (hZ : zO b e D A X) : rx_OK (zV b e D A X) mX6_fieldOne 2 120 vX6_fieldOne_120 := by
  unfold vX6_fieldOne_120
  refine s_iconst dX6_fieldOne_120 (by decide +kernel) ?_
  exact s_zret rx_z_ok rfl dX6_fieldOne_121
noncomputable def vX6_fieldOne_109 : rx_K := o_ld rx_isR 0 (o_ld rx_isR 0 (o_getf 6 11 (o_ld rx_isI 6 (o_ald 0 (o_callV 1 6 FX6_push (vX6_fieldOne_120))))))
set_option maxRecDepth 20000 in
theorem wX6_fieldOne_109 (hZ : zO b e D A X) : rx_OK (zV b e D A X) mX6_fieldOne 2 109 vX6_fieldOne_109 := by
  unfold vX6_fieldOne_109
  refine s_aload_n hZ.1 dX6_fieldOne_109 rfl ?_
  refine s_aload_n hZ.1 dX6_fieldOne_110 rfl ?_
  refine yg6_11 dX6_fieldOne_111 zw1489 ?_
  refine s_iload hZ.1 dX6_fieldOne_114 ?_
  refine s_iald (tt := 0) rfl dX6_fieldOne_116 ?_
  refine s_callV hZ.1 (Met_X6_push hZ) (Nat.le_of_ble_eq_true rfl) vy_X6_push zcl6 zw2790 zw161 (Or.inl zw2788) dX6_fieldOne_117 ?_
  exact (wX6_fieldOne_120 hZ)
noncomputable def vX6_fieldOne_97 : rx_K := o_ld rx_isR 0 (o_getf 6 11 (o_ld rx_isI 6 (o_ld rx_isI 4 (o_ast 0 (fun v => v) rx_isI (vX6_fieldOne_120)))))
set_option maxRecDepth 20000 in
theorem wX6_fieldOne_97 (hZ : zO b e D A X) : rx_OK (zV b e D A X) mX6_fieldOne 2 97 vX6_fieldOne_97 := by
  unfold vX6_fieldOne_97
  refine s_aload_n hZ.1 dX6_fieldOne_97 rfl ?_
  refine yg6_11 dX6_fieldOne_98 zw1489 ?_
  refine s_iload hZ.1 dX6_fieldOne_101 ?_
  refine s_iload hZ.1 dX6_fieldOne_103 ?_
  refine s_iast hZ.1 (tt := 0) rfl dX6_fieldOne_105 ?_
  exact s_goto dX6_fieldOne_106 (by decide) (wX6_fieldOne_120 hZ)
noncomputable def vX6_fieldOne_93 : rx_K := o_ld rx_isI 1 (o_c1 rx_eq vX6_fieldOne_109 vX6_fieldOne_97)
set_option maxRecDepth 20000 in
theorem wX6_fieldOne_93 (hZ : zO b e D A X) : rx_OK (zV b e D A X) mX6_fieldOne 2 93 vX6_fieldOne_93 := by
  unfold vX6_fieldOne_93
  refine s_iload_n hZ.1 dX6_fieldOne_93 rfl ?_
  exact s_if_eq dX6_fieldOne_94 (by decide) (wX6_fieldOne_109 hZ) (wX6_fieldOne_97 hZ)
noncomputable def vX6_fieldOne_86 : rx_K := o_ld rx_isR 0 (o_const 24 (o_callV 1 6 FX6_fail (o_const 0 (o_ret1 rx_isZ))))
set_option maxRecDepth 20000 in
theorem wX6_fieldOne_86 (hZ : zO b e D A X) : rx_OK (zV b e D A X) mX6_fieldOne 2 86 vX6_fieldOne_86 := by
  unfold vX6_fieldOne_86
  refine s_aload_n hZ.1 dX6_fieldOne_86 rfl ?_
  refine s_iconst dX6_fieldOne_87 (by decide +kernel) ?_
  refine s_callV hZ.1 (Met_X6_fail hZ) (Nat.le_of_ble_eq_true rfl) vy_X6_fail zcl6 zw2749 zw2750 (Or.inl zw2748) dX6_fieldOne_88 ?_
  refine s_iconst dX6_fieldOne_91 (by decide +kernel) ?_
  exact s_zret rx_z_ok rfl dX6_fieldOne_92
noncomputable def vX6_fieldOne_77 : rx_K := o_ld rx_isI 6 (o_ld rx_isR 0 (o_getf 6 12 (o_c2 rx_lt vX6_fieldOne_93 vX6_fieldOne_86)))
set_option maxRecDepth 20000 in
theorem wX6_fieldOne_77 (hZ : zO b e D A X) : rx_OK (zV b e D A X) mX6_fieldOne 2 77 vX6_fieldOne_77 := by
  unfold vX6_fieldOne_77
  refine s_iload hZ.1 dX6_fieldOne_77 ?_
  refine s_aload_n hZ.1 dX6_fieldOne_79 rfl ?_
  refine yg6_12 dX6_fieldOne_80 zw1491 ?_
  exact s_icmp_lt dX6_fieldOne_83 (by decide) (wX6_fieldOne_93 hZ) (wX6_fieldOne_86 hZ)
noncomputable def vX6_fieldOne_42 : rx_K := o_ld rx_isR 0 (o_getf 6 9 (o_ld rx_isI 5 (o_ald 0 (o_ld rx_isR 0 (o_ld rx_isI 2 (o_callV 1 6 FX6_slotsTo (o_bi (fun x y => x + y) (o_ld rx_isR 0 (o_getf 6 0 (o_getf 11 1 (o_ld rx_isI 2 (o_ald 4 (o_getf 10 20 (o_bi (fun x y => x - y) (o_ld rx_isI 3 (o_bi (fun x y => x + y) (o_st rx_isI 6 (o_ld rx_isI 6 (o_c1 rx_lt vX6_fieldOne_86 vX6_fieldOne_77)))))))))))))))))))
set_option maxRecDepth 20000 in
theorem wX6_fieldOne_42 (hZ : zO b e D A X) : rx_OK (zV b e D A X) mX6_fieldOne 2 42 vX6_fieldOne_42 := by
  unfold vX6_fieldOne_42
  refine s_aload_n hZ.1 dX6_fieldOne_42 rfl ?_
  refine yg6_9 dX6_fieldOne_43 zw1485 ?_
  refine s_iload hZ.1 dX6_fieldOne_46 ?_
  refine s_iald (tt := 0) rfl dX6_fieldOne_48 ?_
  refine s_aload_n hZ.1 dX6_fieldOne_49 rfl ?_
  refine s_iload_n hZ.1 dX6_fieldOne_50 rfl ?_
  refine s_callV hZ.1 (Met_X6_slotsTo hZ) (Nat.le_of_ble_eq_true rfl) vy_X6_slotsTo zcl6 zw2821 zw2822 (Or.inl zw2820) dX6_fieldOne_51 ?_
  refine s_iadd dX6_fieldOne_54 ?_
  refine s_aload_n hZ.1 dX6_fieldOne_55 rfl ?_
  refine yg6_0 dX6_fieldOne_56 zw1473 ?_
  refine yg11_1 dX6_fieldOne_59 zw1255 ?_
  refine s_iload_n hZ.1 dX6_fieldOne_62 rfl ?_
  refine s_aald (tt := 4) rfl rfl dX6_fieldOne_63 ?_
  refine yg10_20 dX6_fieldOne_64 zw892 ?_
  refine s_isub dX6_fieldOne_67 ?_
  refine s_iload_n hZ.1 dX6_fieldOne_68 rfl ?_
  refine s_iadd dX6_fieldOne_69 ?_
  refine s_istore hZ.1 dX6_fieldOne_70 (Nat.le_of_ble_eq_true rfl) ?_
  refine s_iload hZ.1 dX6_fieldOne_72 ?_
  exact s_if_lt dX6_fieldOne_74 (by decide) (wX6_fieldOne_86 hZ) (wX6_fieldOne_77 hZ)
noncomputable def vX6_fieldOne_34 : rx_K := o_ld rx_isR 0 (o_const 104 (o_callV 1 6 FX6_fail (o_const 0 (o_ret1 rx_isZ))))
set_option maxRecDepth 20000 in
theorem wX6_fieldOne_34 (hZ : zO b e D A X) : rx_OK (zV b e D A X) mX6_fieldOne 2 34 vX6_fieldOne_34 := by
  unfold vX6_fieldOne_34
  refine s_aload_n hZ.1 dX6_fieldOne_34 rfl ?_
  refine s_bipush dX6_fieldOne_35 (by decide +kernel) ?_
  refine s_callV hZ.1 (Met_X6_fail hZ) (Nat.le_of_ble_eq_true rfl) vy_X6_fail zcl6 zw2749 zw2750 (Or.inl zw2748) dX6_fieldOne_37 ?_
  refine s_iconst dX6_fieldOne_40 (by decide +kernel) ?_
  exact s_zret rx_z_ok rfl dX6_fieldOne_41
noncomputable def vX6_fieldOne_25 : rx_K := o_ld rx_isI 5 (o_ld rx_isR 0 (o_getf 6 10 (o_c2 (fun h x y => rx_lt h y x) vX6_fieldOne_34 vX6_fieldOne_42)))
set_option maxRecDepth 20000 in
theorem wX6_fieldOne_25 (hZ : zO b e D A X) : rx_OK (zV b e D A X) mX6_fieldOne 2 25 vX6_fieldOne_25 := by
  unfold vX6_fieldOne_25
  refine s_iload hZ.1 dX6_fieldOne_25 ?_
  refine s_aload_n hZ.1 dX6_fieldOne_27 rfl ?_
  refine yg6_10 dX6_fieldOne_28 zw1487 ?_
  exact s_icmp_le dX6_fieldOne_31 (by decide) (wX6_fieldOne_42 hZ) (wX6_fieldOne_34 hZ)
noncomputable def vX6_fieldOne_12 : rx_K := o_st rx_isI 4 (o_ld rx_isR 0 (o_callV 0 6 FX6_pop (o_st rx_isI 5 (o_ld rx_isI 5 (o_c1 (fun h x y => rx_lt h y x) vX6_fieldOne_25 vX6_fieldOne_34)))))
set_option maxRecDepth 20000 in
theorem wX6_fieldOne_12 (hZ : zO b e D A X) : rx_OK (zV b e D A X) mX6_fieldOne 2 12 vX6_fieldOne_12 := by
  unfold vX6_fieldOne_12
  refine s_istore hZ.1 dX6_fieldOne_12 (Nat.le_of_ble_eq_true rfl) ?_
  refine s_aload_n hZ.1 dX6_fieldOne_14 rfl ?_
  refine s_callV hZ.1 (Met_X6_pop hZ) (Nat.le_of_ble_eq_true rfl) vy_X6_pop zcl6 zw2794 zw162 (Or.inl zw2792) dX6_fieldOne_15 ?_
  refine s_istore hZ.1 dX6_fieldOne_18 (Nat.le_of_ble_eq_true rfl) ?_
  refine s_iload hZ.1 dX6_fieldOne_20 ?_
  exact s_if_le dX6_fieldOne_22 (by decide) (wX6_fieldOne_34 hZ) (wX6_fieldOne_25 hZ)
noncomputable def vX6_fieldOne_11 : rx_K := o_const 0 (vX6_fieldOne_12)
set_option maxRecDepth 20000 in
theorem wX6_fieldOne_11 (hZ : zO b e D A X) : rx_OK (zV b e D A X) mX6_fieldOne 2 11 vX6_fieldOne_11 := by
  unfold vX6_fieldOne_11
  refine s_iconst dX6_fieldOne_11 (by decide +kernel) ?_
  exact (wX6_fieldOne_12 hZ)
noncomputable def vX6_fieldOne_4 : rx_K := o_ld rx_isR 0 (o_callV 0 6 FX6_pop (vX6_fieldOne_12))
set_option maxRecDepth 20000 in
theorem wX6_fieldOne_4 (hZ : zO b e D A X) : rx_OK (zV b e D A X) mX6_fieldOne 2 4 vX6_fieldOne_4 := by
  unfold vX6_fieldOne_4
  refine s_aload_n hZ.1 dX6_fieldOne_4 rfl ?_
  refine s_callV hZ.1 (Met_X6_pop hZ) (Nat.le_of_ble_eq_true rfl) vy_X6_pop zcl6 zw2794 zw162 (Or.inl zw2792) dX6_fieldOne_5 ?_
  exact s_goto dX6_fieldOne_8 (by decide) (wX6_fieldOne_12 hZ)
noncomputable def vX6_fieldOne_0 : rx_K := o_ld rx_isI 1 (o_c1 rx_eq vX6_fieldOne_11 vX6_fieldOne_4)
set_option maxRecDepth 20000 in
theorem wX6_fieldOne_0 (hZ : zO b e D A X) : rx_OK (zV b e D A X) mX6_fieldOne 2 0 vX6_fieldOne_0 := by
  unfold vX6_fieldOne_0
  refine s_iload_n hZ.1 dX6_fieldOne_0 rfl ?_
  exact s_if_eq dX6_fieldOne_1 (by decide) (wX6_fieldOne_11 hZ) (wX6_fieldOne_4 hZ)
noncomputable def FX6_fieldOne : List Nat → rx_H → Option (Nat × rx_H) := rx_ent 7 vX6_fieldOne_0
theorem Met_X6_fieldOne (hZ : zO b e D A X) : rx_Met (zV b e D A X) 2 yX6_fieldOne mX6_fieldOne (FX6_fieldOne) := rx_entry hZ.1 (wX6_fieldOne_0 hZ) (by decide +kernel) rfl (fun h => by cases h)
abbrev mX6_giveBack : rx_M := (RX6, cX6_giveBack, 3, none, false)
theorem vy_X6_giveBack : rx_Y (zV b e D A X) yX6_giveBack mX6_giveBack 2 := ⟨zw2831, zw430, by decide, by decide +kernel, by decide +kernel, by decide +kernel⟩
noncomputable def vX6_giveBack_32 : rx_K := o_ret0
set_option maxRecDepth 20000 in
theorem wX6_giveBack_32 (hZ : zO b e D A X) : rx_OK (zV b e D A X) mX6_giveBack 1 32 vX6_giveBack_32 := by
  unfold vX6_giveBack_32
  exact s_vret rfl dX6_giveBack_32
noncomputable def vX6_giveBack_27 : rx_K := o_ld rx_isR 0 (o_ld rx_isI 2 (o_callV 1 6 FX6_push (vX6_giveBack_32)))
set_option maxRecDepth 20000 in
theorem wX6_giveBack_27 (hZ : zO b e D A X) : rx_OK (zV b e D A X) mX6_giveBack 1 27 vX6_giveBack_27 := by
  unfold vX6_giveBack_27
  refine s_aload_n hZ.1 dX6_giveBack_27 rfl ?_
  refine s_iload_n hZ.1 dX6_giveBack_28 rfl ?_
  refine s_callV hZ.1 (Met_X6_push hZ) (Nat.le_of_ble_eq_true rfl) vy_X6_push zcl6 zw2790 zw161 (Or.inl zw2788) dX6_giveBack_29 ?_
  exact (wX6_giveBack_32 hZ)
noncomputable def vX6_giveBack_19 : rx_K := o_ld rx_isR 0 (o_ld rx_isI 2 (o_putf rx_isI 6 19 (vX6_giveBack_32)))
set_option maxRecDepth 20000 in
theorem wX6_giveBack_19 (hZ : zO b e D A X) : rx_OK (zV b e D A X) mX6_giveBack 1 19 vX6_giveBack_19 := by
  unfold vX6_giveBack_19
  refine s_aload_n hZ.1 dX6_giveBack_19 rfl ?_
  refine s_iload_n hZ.1 dX6_giveBack_20 rfl ?_
  refine yp6_19 hZ.1 dX6_giveBack_21 zw1504 ?_
  exact s_goto dX6_giveBack_24 (by decide) (wX6_giveBack_32 hZ)
noncomputable def vX6_giveBack_12 : rx_K := o_ld rx_isR 0 (o_getf 6 5 (o_c1 rx_eq vX6_giveBack_19 vX6_giveBack_27))
set_option maxRecDepth 20000 in
theorem wX6_giveBack_12 (hZ : zO b e D A X) : rx_OK (zV b e D A X) mX6_giveBack 1 12 vX6_giveBack_12 := by
  unfold vX6_giveBack_12
  refine s_aload_n hZ.1 dX6_giveBack_12 rfl ?_
  refine yg6_5 dX6_giveBack_13 zw1479 ?_
  exact s_if_ne dX6_giveBack_16 (by decide) (wX6_giveBack_27 hZ) (wX6_giveBack_19 hZ)
noncomputable def vX6_giveBack_0 : rx_K := o_ld rx_isR 0 (o_ld rx_isR 1 (o_callV 1 6 FX6_close (o_ld rx_isR 1 (o_const 32 (o_ald 0 (o_const 8 (o_c2 rx_eq vX6_giveBack_12 vX6_giveBack_32)))))))
set_option maxRecDepth 20000 in
theorem wX6_giveBack_0 (hZ : zO b e D A X) : rx_OK (zV b e D A X) mX6_giveBack 1 0 vX6_giveBack_0 := by
  unfold vX6_giveBack_0
  refine s_aload_n hZ.1 dX6_giveBack_0 rfl ?_
  refine s_aload_n hZ.1 dX6_giveBack_1 rfl ?_
  refine s_callV hZ.1 (Met_X6_close hZ) (Nat.le_of_ble_eq_true rfl) vy_X6_close zcl6 zw2813 zw166 (Or.inl zw2811) dX6_giveBack_2 ?_
  refine s_aload_n hZ.1 dX6_giveBack_5 rfl ?_
  refine s_iconst dX6_giveBack_6 (by decide +kernel) ?_
  refine s_iald (tt := 0) rfl dX6_giveBack_7 ?_
  refine s_iconst dX6_giveBack_8 (by decide +kernel) ?_
  exact s_icmp_ne dX6_giveBack_9 (by decide) (wX6_giveBack_32 hZ) (wX6_giveBack_12 hZ)
noncomputable def FX6_giveBack : List Nat → rx_H → Option (Nat × rx_H) := rx_ent 3 vX6_giveBack_0
theorem Met_X6_giveBack (hZ : zO b e D A X) : rx_Met (zV b e D A X) 1 yX6_giveBack mX6_giveBack (FX6_giveBack) := rx_entry hZ.1 (wX6_giveBack_0 hZ) (by decide +kernel) rfl (fun h => by cases h)
abbrev mX6_staticOne : rx_M := (RX6, cX6_staticOne, 5, (some .boolean), false)
theorem vy_X6_staticOne : rx_Y (zV b e D A X) yX6_staticOne mX6_staticOne 3 := ⟨zw2827, zw430, by decide, by decide +kernel, by decide +kernel, by decide +kernel⟩
noncomputable def vX6_staticOne_54 : rx_K := o_const 8 (o_ret1 rx_isZ)
set_option maxRecDepth 20000 in
theorem wX6_staticOne_54 (hZ : zO b e D A X) : rx_OK (zV b e D A X) mX6_staticOne 1 54 vX6_staticOne_54 := by
  unfold vX6_staticOne_54
  refine s_iconst dX6_staticOne_54 (by decide +kernel) ?_
  exact s_zret rx_z_ok rfl dX6_staticOne_55
noncomputable def vX6_staticOne_43 : rx_K := o_ld rx_isR 0 (o_ld rx_isR 0 (o_getf 6 13 (o_ld rx_isI 4 (o_ald 0 (o_callV 1 6 FX6_push (vX6_staticOne_54))))))
set_option maxRecDepth 20000 in
theorem wX6_staticOne_43 (hZ : zO b e D A X) : rx_OK (zV b e D A X) mX6_staticOne 1 43 vX6_staticOne_43 := by
  unfold vX6_staticOne_43
  refine s_aload_n hZ.1 dX6_staticOne_43 rfl ?_
  refine s_aload_n hZ.1 dX6_staticOne_44 rfl ?_
  refine yg6_13 dX6_staticOne_45 zw1493 ?_
  refine s_iload hZ.1 dX6_staticOne_48 ?_
  refine s_iald (tt := 0) rfl dX6_staticOne_50 ?_
  refine s_callV hZ.1 (Met_X6_push hZ) (Nat.le_of_ble_eq_true rfl) vy_X6_push zcl6 zw2790 zw161 (Or.inl zw2788) dX6_staticOne_51 ?_
  exact (wX6_staticOne_54 hZ)
noncomputable def vX6_staticOne_29 : rx_K := o_ld rx_isR 0 (o_getf 6 13 (o_ld rx_isI 4 (o_ld rx_isR 0 (o_callV 0 6 FX6_pop (o_ast 0 (fun v => v) rx_isI (vX6_staticOne_54))))))
set_option maxRecDepth 20000 in
theorem wX6_staticOne_29 (hZ : zO b e D A X) : rx_OK (zV b e D A X) mX6_staticOne 1 29 vX6_staticOne_29 := by
  unfold vX6_staticOne_29
  refine s_aload_n hZ.1 dX6_staticOne_29 rfl ?_
  refine yg6_13 dX6_staticOne_30 zw1493 ?_
  refine s_iload hZ.1 dX6_staticOne_33 ?_
  refine s_aload_n hZ.1 dX6_staticOne_35 rfl ?_
  refine s_callV hZ.1 (Met_X6_pop hZ) (Nat.le_of_ble_eq_true rfl) vy_X6_pop zcl6 zw2794 zw162 (Or.inl zw2792) dX6_staticOne_36 ?_
  refine s_iast hZ.1 (tt := 0) rfl dX6_staticOne_39 ?_
  exact s_goto dX6_staticOne_40 (by decide) (wX6_staticOne_54 hZ)
noncomputable def vX6_staticOne_25 : rx_K := o_ld rx_isI 1 (o_c1 rx_eq vX6_staticOne_43 vX6_staticOne_29)
set_option maxRecDepth 20000 in
theorem wX6_staticOne_25 (hZ : zO b e D A X) : rx_OK (zV b e D A X) mX6_staticOne 1 25 vX6_staticOne_25 := by
  unfold vX6_staticOne_25
  refine s_iload_n hZ.1 dX6_staticOne_25 rfl ?_
  exact s_if_eq dX6_staticOne_26 (by decide) (wX6_staticOne_43 hZ) (wX6_staticOne_29 hZ)
noncomputable def vX6_staticOne_23 : rx_K := o_const 8 (o_ret1 rx_isZ)
set_option maxRecDepth 20000 in
theorem wX6_staticOne_23 (hZ : zO b e D A X) : rx_OK (zV b e D A X) mX6_staticOne 1 23 vX6_staticOne_23 := by
  unfold vX6_staticOne_23
  refine s_iconst dX6_staticOne_23 (by decide +kernel) ?_
  exact s_zret rx_z_ok rfl dX6_staticOne_24
noncomputable def vX6_staticOne_13 : rx_K := o_ld rx_isI 4 (o_ld rx_isR 0 (o_getf 6 13 (o_alen 0 (o_c2 rx_lt vX6_staticOne_25 vX6_staticOne_23))))
set_option maxRecDepth 20000 in
theorem wX6_staticOne_13 (hZ : zO b e D A X) : rx_OK (zV b e D A X) mX6_staticOne 1 13 vX6_staticOne_13 := by
  unfold vX6_staticOne_13
  refine s_iload hZ.1 dX6_staticOne_13 ?_
  refine s_aload_n hZ.1 dX6_staticOne_15 rfl ?_
  refine yg6_13 dX6_staticOne_16 zw1493 ?_
  refine s_alen (tt := 0) rfl dX6_staticOne_19 ?_
  exact s_icmp_lt dX6_staticOne_20 (by decide) (wX6_staticOne_25 hZ) (wX6_staticOne_23 hZ)
noncomputable def vX6_staticOne_0 : rx_K := o_ld rx_isI 2 (o_const 160 (o_bi (fun x y => x * y) (o_ld rx_isI 3 (o_bi (fun x y => x + y) (o_st rx_isI 4 (o_ld rx_isI 4 (o_c1 rx_lt vX6_staticOne_23 vX6_staticOne_13)))))))
set_option maxRecDepth 20000 in
theorem wX6_staticOne_0 (hZ : zO b e D A X) : rx_OK (zV b e D A X) mX6_staticOne 1 0 vX6_staticOne_0 := by
  unfold vX6_staticOne_0
  refine s_iload_n hZ.1 dX6_staticOne_0 rfl ?_
  refine s_bipush dX6_staticOne_1 (by decide +kernel) ?_
  refine s_imul dX6_staticOne_3 ?_
  refine s_iload_n hZ.1 dX6_staticOne_4 rfl ?_
  refine s_iadd dX6_staticOne_5 ?_
  refine s_istore hZ.1 dX6_staticOne_6 (Nat.le_of_ble_eq_true rfl) ?_
  refine s_iload hZ.1 dX6_staticOne_8 ?_
  exact s_if_lt dX6_staticOne_10 (by decide) (wX6_staticOne_23 hZ) (wX6_staticOne_13 hZ)
noncomputable def FX6_staticOne : List Nat → rx_H → Option (Nat × rx_H) := rx_ent 5 vX6_staticOne_0
theorem Met_X6_staticOne (hZ : zO b e D A X) : rx_Met (zV b e D A X) 1 yX6_staticOne mX6_staticOne (FX6_staticOne) := rx_entry hZ.1 (wX6_staticOne_0 hZ) (by decide +kernel) rfl (fun h => by cases h)
abbrev mX6_throwOne : rx_M := (RX6, cX6_throwOne, 4, none, false)
theorem vy_X6_throwOne : rx_Y (zV b e D A X) yX6_throwOne mX6_throwOne 1 := ⟨zw2810, zw430, by decide, by decide +kernel, by decide +kernel, by decide +kernel⟩
noncomputable def vX6_throwOne_120 (j : Nat → rx_K) : rx_K := o_ld rx_isR 0 (o_ld rx_isI 1 (o_putf rx_isI 6 18 (o_ret0)))
set_option maxRecDepth 20000 in
theorem wX6_throwOne_120 (hZ : zO b e D A X) (j : Nat → rx_K) (hj : ∀ k pc, [13][k]? = some pc → rx_OK (zV b e D A X) mX6_throwOne 2 pc (j k)) : rx_OK (zV b e D A X) mX6_throwOne 2 120 (vX6_throwOne_120 j) := by
  unfold vX6_throwOne_120
  refine s_aload_n hZ.1 dX6_throwOne_120 rfl ?_
  refine s_iload_n hZ.1 dX6_throwOne_121 rfl ?_
  refine yp6_18 hZ.1 dX6_throwOne_122 zw1502 ?_
  exact s_vret rfl dX6_throwOne_125
noncomputable def vX6_throwOne_109 (j : Nat → rx_K) : rx_K := o_ld rx_isR 0 (o_ld rx_isR 3 (o_callV 1 6 FX6_close (o_inc 2 (1) ((j 0)))))
set_option maxRecDepth 20000 in
theorem wX6_throwOne_109 (hZ : zO b e D A X) (j : Nat → rx_K) (hj : ∀ k pc, [13][k]? = some pc → rx_OK (zV b e D A X) mX6_throwOne 2 pc (j k)) : rx_OK (zV b e D A X) mX6_throwOne 2 109 (vX6_throwOne_109 j) := by
  unfold vX6_throwOne_109
  refine s_aload_n hZ.1 dX6_throwOne_109 rfl ?_
  refine s_aload_n hZ.1 dX6_throwOne_110 rfl ?_
  refine s_callV hZ.1 (Met_X6_close hZ) (Nat.le_of_ble_eq_true rfl) vy_X6_close zcl6 zw2813 zw166 (Or.inl zw2811) dX6_throwOne_111 ?_
  refine s_iinc hZ.1 dX6_throwOne_114 (Nat.le_of_ble_eq_true rfl) ?_
  exact s_goto dX6_throwOne_117 (by decide) (hj 0 13 rfl)
noncomputable def vX6_throwOne_102 (j : Nat → rx_K) : rx_K := o_ld rx_isR 0 (o_const 64 (o_callV 1 6 FX6_fail (o_ret0)))
set_option maxRecDepth 20000 in
theorem wX6_throwOne_102 (hZ : zO b e D A X) (j : Nat → rx_K) (hj : ∀ k pc, [13][k]? = some pc → rx_OK (zV b e D A X) mX6_throwOne 2 pc (j k)) : rx_OK (zV b e D A X) mX6_throwOne 2 102 (vX6_throwOne_102 j) := by
  unfold vX6_throwOne_102
  refine s_aload_n hZ.1 dX6_throwOne_102 rfl ?_
  refine s_bipush dX6_throwOne_103 (by decide +kernel) ?_
  refine s_callV hZ.1 (Met_X6_fail hZ) (Nat.le_of_ble_eq_true rfl) vy_X6_fail zcl6 zw2749 zw2750 (Or.inl zw2748) dX6_throwOne_105 ?_
  exact s_vret rfl dX6_throwOne_108
noncomputable def vX6_throwOne_95 (j : Nat → rx_K) : rx_K := o_ld rx_isR 3 (o_const 32 (o_ald 0 (o_const 24 (o_c2 rx_eq (vX6_throwOne_102 j) (vX6_throwOne_109 j)))))
set_option maxRecDepth 20000 in
theorem wX6_throwOne_95 (hZ : zO b e D A X) (j : Nat → rx_K) (hj : ∀ k pc, [13][k]? = some pc → rx_OK (zV b e D A X) mX6_throwOne 2 pc (j k)) : rx_OK (zV b e D A X) mX6_throwOne 2 95 (vX6_throwOne_95 j) := by
  unfold vX6_throwOne_95
  refine s_aload_n hZ.1 dX6_throwOne_95 rfl ?_
  refine s_iconst dX6_throwOne_96 (by decide +kernel) ?_
  refine s_iald (tt := 0) rfl dX6_throwOne_97 ?_
  refine s_iconst dX6_throwOne_98 (by decide +kernel) ?_
  exact s_icmp_ne dX6_throwOne_99 (by decide) (wX6_throwOne_109 hZ j hj) (wX6_throwOne_102 hZ j hj)
noncomputable def vX6_throwOne_84 (j : Nat → rx_K) : rx_K := o_bi (fun x y => x + y) (o_ald 0 (o_putf rx_isI 6 3 (o_ld rx_isR 0 (o_ld rx_isI 1 (o_callV 1 6 FX6_push (o_ret0))))))
set_option maxRecDepth 20000 in
theorem wX6_throwOne_84 (hZ : zO b e D A X) (j : Nat → rx_K) (hj : ∀ k pc, [13][k]? = some pc → rx_OK (zV b e D A X) mX6_throwOne 2 pc (j k)) : rx_OK (zV b e D A X) mX6_throwOne 2 84 (vX6_throwOne_84 j) := by
  unfold vX6_throwOne_84
  refine s_iadd dX6_throwOne_84 ?_
  refine s_iald (tt := 0) rfl dX6_throwOne_85 ?_
  refine yp6_3 hZ.1 dX6_throwOne_86 zw1477 ?_
  refine s_aload_n hZ.1 dX6_throwOne_89 rfl ?_
  refine s_iload_n hZ.1 dX6_throwOne_90 rfl ?_
  refine s_callV hZ.1 (Met_X6_push hZ) (Nat.le_of_ble_eq_true rfl) vy_X6_push zcl6 zw2790 zw161 (Or.inl zw2788) dX6_throwOne_91 ?_
  exact s_vret rfl dX6_throwOne_94
noncomputable def vX6_throwOne_48 (j : Nat → rx_K) : rx_K := o_ld rx_isR 0 (o_dup (o_getf 6 7 (o_const 8 (o_bi (fun x y => x - y) (o_putf rx_isI 6 7 (o_ld rx_isR 3 (o_const 8 (o_ld rx_isR 0 (o_getf 6 6 (o_const 16 (o_ld rx_isR 0 (o_getf 6 7 (o_bi (fun x y => x * y) (o_ald 0 (o_ast 0 (fun v => v) rx_isI (o_ld rx_isR 0 (o_ld rx_isR 0 (o_getf 6 6 (o_const 16 (o_ld rx_isR 0 (o_getf 6 7 (o_bi (fun x y => x * y) (o_const 8 ((vX6_throwOne_84 j)))))))))))))))))))))))))
set_option maxRecDepth 20000 in
theorem wX6_throwOne_48 (hZ : zO b e D A X) (j : Nat → rx_K) (hj : ∀ k pc, [13][k]? = some pc → rx_OK (zV b e D A X) mX6_throwOne 2 pc (j k)) : rx_OK (zV b e D A X) mX6_throwOne 2 48 (vX6_throwOne_48 j) := by
  unfold vX6_throwOne_48
  refine s_aload_n hZ.1 dX6_throwOne_48 rfl ?_
  refine s_dup hZ.1 dX6_throwOne_49 ?_
  refine yg6_7 dX6_throwOne_50 zw1482 ?_
  refine s_iconst dX6_throwOne_53 (by decide +kernel) ?_
  refine s_isub dX6_throwOne_54 ?_
  refine yp6_7 hZ.1 dX6_throwOne_55 zw1482 ?_
  refine s_aload_n hZ.1 dX6_throwOne_58 rfl ?_
  refine s_iconst dX6_throwOne_59 (by decide +kernel) ?_
  refine s_aload_n hZ.1 dX6_throwOne_60 rfl ?_
  refine yg6_6 dX6_throwOne_61 zw1481 ?_
  refine s_iconst dX6_throwOne_64 (by decide +kernel) ?_
  refine s_aload_n hZ.1 dX6_throwOne_65 rfl ?_
  refine yg6_7 dX6_throwOne_66 zw1482 ?_
  refine s_imul dX6_throwOne_69 ?_
  refine s_iald (tt := 0) rfl dX6_throwOne_70 ?_
  refine s_iast hZ.1 (tt := 0) rfl dX6_throwOne_71 ?_
  refine s_aload_n hZ.1 dX6_throwOne_72 rfl ?_
  refine s_aload_n hZ.1 dX6_throwOne_73 rfl ?_
  refine yg6_6 dX6_throwOne_74 zw1481 ?_
  refine s_iconst dX6_throwOne_77 (by decide +kernel) ?_
  refine s_aload_n hZ.1 dX6_throwOne_78 rfl ?_
  refine yg6_7 dX6_throwOne_79 zw1482 ?_
  refine s_imul dX6_throwOne_82 ?_
  refine s_iconst dX6_throwOne_83 (by decide +kernel) ?_
  exact (wX6_throwOne_84 hZ j hj)
noncomputable def vX6_throwOne_26 (j : Nat → rx_K) : rx_K := o_ld rx_isR 0 (o_getf 6 4 (o_ld rx_isR 0 (o_getf 6 5 (o_const 8 (o_bi (fun x y => x - y) (o_ald 8 (o_st rx_isR 3 (o_ld rx_isR 0 (o_getf 6 7 (o_ld rx_isR 3 (o_const 24 (o_ald 0 (o_c2 (fun h x y => rx_lt h y x) (vX6_throwOne_48 j) (vX6_throwOne_95 j))))))))))))))
set_option maxRecDepth 20000 in
theorem wX6_throwOne_26 (hZ : zO b e D A X) (j : Nat → rx_K) (hj : ∀ k pc, [13][k]? = some pc → rx_OK (zV b e D A X) mX6_throwOne 2 pc (j k)) : rx_OK (zV b e D A X) mX6_throwOne 2 26 (vX6_throwOne_26 j) := by
  unfold vX6_throwOne_26
  refine s_aload_n hZ.1 dX6_throwOne_26 rfl ?_
  refine yg6_4 dX6_throwOne_27 zw1478 ?_
  refine s_aload_n hZ.1 dX6_throwOne_30 rfl ?_
  refine yg6_5 dX6_throwOne_31 zw1479 ?_
  refine s_iconst dX6_throwOne_34 (by decide +kernel) ?_
  refine s_isub dX6_throwOne_35 ?_
  refine s_aald (tt := 8) rfl rfl dX6_throwOne_36 ?_
  refine s_astore_n hZ.1 dX6_throwOne_37 rfl (Nat.le_of_ble_eq_true rfl) ?_
  refine s_aload_n hZ.1 dX6_throwOne_38 rfl ?_
  refine yg6_7 dX6_throwOne_39 zw1482 ?_
  refine s_aload_n hZ.1 dX6_throwOne_42 rfl ?_
  refine s_iconst dX6_throwOne_43 (by decide +kernel) ?_
  refine s_iald (tt := 0) rfl dX6_throwOne_44 ?_
  exact s_icmp_le dX6_throwOne_45 (by decide) (wX6_throwOne_95 hZ j hj) (wX6_throwOne_48 hZ j hj)
noncomputable def vX6_throwOne_19 (j : Nat → rx_K) : rx_K := o_ld rx_isR 0 (o_getf 6 5 (o_c1 (fun h x y => rx_lt h y x) (vX6_throwOne_26 j) (vX6_throwOne_120 j)))
set_option maxRecDepth 20000 in
theorem wX6_throwOne_19 (hZ : zO b e D A X) (j : Nat → rx_K) (hj : ∀ k pc, [13][k]? = some pc → rx_OK (zV b e D A X) mX6_throwOne 2 pc (j k)) : rx_OK (zV b e D A X) mX6_throwOne 2 19 (vX6_throwOne_19 j) := by
  unfold vX6_throwOne_19
  refine s_aload_n hZ.1 dX6_throwOne_19 rfl ?_
  refine yg6_5 dX6_throwOne_20 zw1479 ?_
  exact s_if_le dX6_throwOne_23 (by decide) (wX6_throwOne_120 hZ j hj) (wX6_throwOne_26 hZ j hj)
noncomputable def vX6_throwOne_13 (j : Nat → rx_K) : rx_K := o_ld rx_isI 2 (o_const 192 (o_c2 (fun h x y => rx_lt h y x) (vX6_throwOne_120 j) (vX6_throwOne_19 j)))
set_option maxRecDepth 20000 in
theorem wX6_throwOne_13 (hZ : zO b e D A X) (j : Nat → rx_K) (hj : ∀ k pc, [13][k]? = some pc → rx_OK (zV b e D A X) mX6_throwOne 2 pc (j k)) : rx_OK (zV b e D A X) mX6_throwOne 2 13 (vX6_throwOne_13 j) := by
  unfold vX6_throwOne_13
  refine s_iload_n hZ.1 dX6_throwOne_13 rfl ?_
  refine s_bipush dX6_throwOne_14 (by decide +kernel) ?_
  exact s_icmp_gt dX6_throwOne_16 (by decide) (wX6_throwOne_120 hZ j hj) (wX6_throwOne_19 hZ j hj)
noncomputable def vX6_throwOne_11 (j : Nat → rx_K) : rx_K := o_const 0 (o_st rx_isI 2 ((vX6_throwOne_13 j)))
set_option maxRecDepth 20000 in
theorem wX6_throwOne_11 (hZ : zO b e D A X) (j : Nat → rx_K) (hj : ∀ k pc, [13][k]? = some pc → rx_OK (zV b e D A X) mX6_throwOne 2 pc (j k)) : rx_OK (zV b e D A X) mX6_throwOne 2 11 (vX6_throwOne_11 j) := by
  unfold vX6_throwOne_11
  refine s_iconst dX6_throwOne_11 (by decide +kernel) ?_
  refine s_istore_n hZ.1 dX6_throwOne_12 rfl (Nat.le_of_ble_eq_true rfl) ?_
  exact (wX6_throwOne_13 hZ j hj)
noncomputable def vX6_throwOne_4 (j : Nat → rx_K) : rx_K := o_ld rx_isR 0 (o_const 104 (o_callV 1 6 FX6_fail (o_ret0)))
set_option maxRecDepth 20000 in
theorem wX6_throwOne_4 (hZ : zO b e D A X) (j : Nat → rx_K) (hj : ∀ k pc, [13][k]? = some pc → rx_OK (zV b e D A X) mX6_throwOne 2 pc (j k)) : rx_OK (zV b e D A X) mX6_throwOne 2 4 (vX6_throwOne_4 j) := by
  unfold vX6_throwOne_4
  refine s_aload_n hZ.1 dX6_throwOne_4 rfl ?_
  refine s_bipush dX6_throwOne_5 (by decide +kernel) ?_
  refine s_callV hZ.1 (Met_X6_fail hZ) (Nat.le_of_ble_eq_true rfl) vy_X6_fail zcl6 zw2749 zw2750 (Or.inl zw2748) dX6_throwOne_7 ?_
  exact s_vret rfl dX6_throwOne_10
noncomputable def vX6_throwOne_0 (j : Nat → rx_K) : rx_K := o_ld rx_isI 1 (o_c1 rx_eq (vX6_throwOne_4 j) (vX6_throwOne_11 j))
set_option maxRecDepth 20000 in
theorem wX6_throwOne_0 (hZ : zO b e D A X) (j : Nat → rx_K) (hj : ∀ k pc, [13][k]? = some pc → rx_OK (zV b e D A X) mX6_throwOne 2 pc (j k)) : rx_OK (zV b e D A X) mX6_throwOne 2 0 (vX6_throwOne_0 j) := by
  unfold vX6_throwOne_0
  refine s_iload_n hZ.1 dX6_throwOne_0 rfl ?_
  exact s_if_ne dX6_throwOne_1 (by decide) (wX6_throwOne_11 hZ j hj) (wX6_throwOne_4 hZ j hj)
noncomputable def vhX6_throwOne (j : Nat → rx_K) : List rx_K := [vX6_throwOne_13 j]
theorem vlX6_throwOne (hZ : zO b e D A X) : ∀ n k pc, [13][k]? = some pc → rx_OK (zV b e D A X) mX6_throwOne 2 pc (rx_J (vhX6_throwOne) n k) := rx_loop fun j hj k pc h => by
  match k, h with
  | 0, h =>
    have e9 := Option.some.inj (show some 13 = some pc from h)
    subst e9
    exact wX6_throwOne_13 hZ j hj
  | _ + 1, h => exact absurd h (by simp)
noncomputable def FX6_throwOne : List Nat → rx_H → Option (Nat × rx_H) := rx_ent 4 (vX6_throwOne_0 (rx_J (vhX6_throwOne) 4000000000))
theorem Met_X6_throwOne (hZ : zO b e D A X) : rx_Met (zV b e D A X) 2 yX6_throwOne mX6_throwOne (FX6_throwOne) := rx_entry hZ.1 (wX6_throwOne_0 hZ _ (vlX6_throwOne hZ 4000000000)) (by decide +kernel) rfl (fun h => by cases h)
abbrev mX6_goOne : rx_M := (RX6, cX6_goOne, 6, (some .boolean), false)
theorem vy_X6_goOne : rx_Y (zV b e D A X) yX6_goOne mX6_goOne 3 := ⟨zw2806, zw430, by decide, by decide +kernel, by decide +kernel, by decide +kernel⟩
noncomputable def vX6_goOne_332 : rx_K := o_callV 2 6 FX6_giveBack (o_const 0 (o_ret1 rx_isZ))
set_option maxRecDepth 20000 in
theorem wX6_goOne_332 (hZ : zO b e D A X) : rx_OK (zV b e D A X) mX6_goOne 3 332 vX6_goOne_332 := by
  unfold vX6_goOne_332
  refine s_callV hZ.1 (Met_X6_giveBack hZ) (Nat.le_of_ble_eq_true rfl) vy_X6_giveBack zcl6 zw2830 zw169 (Or.inl zw2828) dX6_goOne_332 ?_
  refine s_iconst dX6_goOne_335 (by decide +kernel) ?_
  exact s_zret rx_z_ok rfl dX6_goOne_336
noncomputable def vX6_goOne_331 : rx_K := o_const 0 (vX6_goOne_332)
set_option maxRecDepth 20000 in
theorem wX6_goOne_331 (hZ : zO b e D A X) : rx_OK (zV b e D A X) mX6_goOne 3 331 vX6_goOne_331 := by
  unfold vX6_goOne_331
  refine s_iconst dX6_goOne_331 (by decide +kernel) ?_
  exact (wX6_goOne_332 hZ)
noncomputable def vX6_goOne_324 : rx_K := o_ld rx_isR 0 (o_callV 0 6 FX6_pop (vX6_goOne_332))
set_option maxRecDepth 20000 in
theorem wX6_goOne_324 (hZ : zO b e D A X) : rx_OK (zV b e D A X) mX6_goOne 3 324 vX6_goOne_324 := by
  unfold vX6_goOne_324
  refine s_aload_n hZ.1 dX6_goOne_324 rfl ?_
  refine s_callV hZ.1 (Met_X6_pop hZ) (Nat.le_of_ble_eq_true rfl) vy_X6_pop zcl6 zw2794 zw162 (Or.inl zw2792) dX6_goOne_325 ?_
  exact s_goto dX6_goOne_328 (by decide) (wX6_goOne_332 hZ)
noncomputable def vX6_goOne_316 : rx_K := o_ld rx_isR 0 (o_ld rx_isR 1 (o_ld rx_isI 2 (o_const 152 (o_c2 rx_eq vX6_goOne_324 vX6_goOne_331))))
set_option maxRecDepth 20000 in
theorem wX6_goOne_316 (hZ : zO b e D A X) : rx_OK (zV b e D A X) mX6_goOne 3 316 vX6_goOne_316 := by
  unfold vX6_goOne_316
  refine s_aload_n hZ.1 dX6_goOne_316 rfl ?_
  refine s_aload_n hZ.1 dX6_goOne_317 rfl ?_
  refine s_iload_n hZ.1 dX6_goOne_318 rfl ?_
  refine s_bipush dX6_goOne_319 (by decide +kernel) ?_
  exact s_icmp_ne dX6_goOne_321 (by decide) (wX6_goOne_331 hZ) (wX6_goOne_324 hZ)
noncomputable def vX6_goOne_286 : rx_K := o_ld rx_isR 0 (o_getf 6 1 (o_getf 5 1 (o_ld rx_isR 1 (o_const 0 (o_ald 0 (o_const 32 (o_ast 0 (fun v => v) rx_isI (o_ld rx_isR 0 (o_getf 6 1 (o_ld rx_isR 1 (o_const 0 (o_ald 0 (o_const 32 (o_callV 2 5 FX5_tellEvent (o_ld rx_isR 0 (o_ld rx_isR 1 (o_callV 1 6 FX6_close (o_const 0 (o_ret1 rx_isZ)))))))))))))))))))
set_option maxRecDepth 20000 in
theorem wX6_goOne_286 (hZ : zO b e D A X) : rx_OK (zV b e D A X) mX6_goOne 3 286 vX6_goOne_286 := by
  unfold vX6_goOne_286
  refine s_aload_n hZ.1 dX6_goOne_286 rfl ?_
  refine yg6_1 dX6_goOne_287 zw1474 ?_
  refine yg5_1 dX6_goOne_290 zw1352 ?_
  refine s_aload_n hZ.1 dX6_goOne_293 rfl ?_
  refine s_iconst dX6_goOne_294 (by decide +kernel) ?_
  refine s_iald (tt := 0) rfl dX6_goOne_295 ?_
  refine s_iconst dX6_goOne_296 (by decide +kernel) ?_
  refine s_iast hZ.1 (tt := 0) rfl dX6_goOne_297 ?_
  refine s_aload_n hZ.1 dX6_goOne_298 rfl ?_
  refine yg6_1 dX6_goOne_299 zw1474 ?_
  refine s_aload_n hZ.1 dX6_goOne_302 rfl ?_
  refine s_iconst dX6_goOne_303 (by decide +kernel) ?_
  refine s_iald (tt := 0) rfl dX6_goOne_304 ?_
  refine s_iconst dX6_goOne_305 (by decide +kernel) ?_
  refine s_callV hZ.1 (Met_X5_tellEvent hZ) (Nat.le_of_ble_eq_true rfl) vy_X5_tellEvent zcl5 zw2502 zw2503 (Or.inl zw2752) dX6_goOne_306 ?_
  refine s_aload_n hZ.1 dX6_goOne_309 rfl ?_
  refine s_aload_n hZ.1 dX6_goOne_310 rfl ?_
  refine s_callV hZ.1 (Met_X6_close hZ) (Nat.le_of_ble_eq_true rfl) vy_X6_close zcl6 zw2813 zw166 (Or.inl zw2811) dX6_goOne_311 ?_
  refine s_iconst dX6_goOne_314 (by decide +kernel) ?_
  exact s_zret rx_z_ok rfl dX6_goOne_315
noncomputable def vX6_goOne_276 : rx_K := o_ld rx_isR 0 (o_const 8 (o_ld rx_isR 1 (o_const 0 (o_ald 0 (o_ld rx_isI 3 (o_callV 3 6 FX6_staticOne (o_ret1 rx_isZ)))))))
set_option maxRecDepth 20000 in
theorem wX6_goOne_276 (hZ : zO b e D A X) : rx_OK (zV b e D A X) mX6_goOne 3 276 vX6_goOne_276 := by
  unfold vX6_goOne_276
  refine s_aload_n hZ.1 dX6_goOne_276 rfl ?_
  refine s_iconst dX6_goOne_277 (by decide +kernel) ?_
  refine s_aload_n hZ.1 dX6_goOne_278 rfl ?_
  refine s_iconst dX6_goOne_279 (by decide +kernel) ?_
  refine s_iald (tt := 0) rfl dX6_goOne_280 ?_
  refine s_iload_n hZ.1 dX6_goOne_281 rfl ?_
  refine s_callV hZ.1 (Met_X6_staticOne hZ) (Nat.le_of_ble_eq_true rfl) vy_X6_staticOne zcl6 zw2826 zw168 (Or.inl zw2824) dX6_goOne_282 ?_
  exact s_zret rx_z_ok rfl dX6_goOne_285
noncomputable def vX6_goOne_266 : rx_K := o_ld rx_isR 0 (o_const 8 (o_ld rx_isR 1 (o_const 0 (o_ald 0 (o_ld rx_isI 3 (o_callV 3 6 FX6_fieldOne (o_ret1 rx_isZ)))))))
set_option maxRecDepth 20000 in
theorem wX6_goOne_266 (hZ : zO b e D A X) : rx_OK (zV b e D A X) mX6_goOne 3 266 vX6_goOne_266 := by
  unfold vX6_goOne_266
  refine s_aload_n hZ.1 dX6_goOne_266 rfl ?_
  refine s_iconst dX6_goOne_267 (by decide +kernel) ?_
  refine s_aload_n hZ.1 dX6_goOne_268 rfl ?_
  refine s_iconst dX6_goOne_269 (by decide +kernel) ?_
  refine s_iald (tt := 0) rfl dX6_goOne_270 ?_
  refine s_iload_n hZ.1 dX6_goOne_271 rfl ?_
  refine s_callV hZ.1 (Met_X6_fieldOne hZ) (Nat.le_of_ble_eq_true rfl) vy_X6_fieldOne zcl6 zw2818 zw167 (Or.inl zw2816) dX6_goOne_272 ?_
  exact s_zret rx_z_ok rfl dX6_goOne_275
noncomputable def vX6_goOne_258 : rx_K := o_ld rx_isR 1 (o_const 8 (o_ld rx_isR 1 (o_const 40 (o_ald 0 (o_ast 0 (fun v => v) rx_isI (o_const 0 (o_ret1 rx_isZ)))))))
set_option maxRecDepth 20000 in
theorem wX6_goOne_258 (hZ : zO b e D A X) : rx_OK (zV b e D A X) mX6_goOne 3 258 vX6_goOne_258 := by
  unfold vX6_goOne_258
  refine s_aload_n hZ.1 dX6_goOne_258 rfl ?_
  refine s_iconst dX6_goOne_259 (by decide +kernel) ?_
  refine s_aload_n hZ.1 dX6_goOne_260 rfl ?_
  refine s_iconst dX6_goOne_261 (by decide +kernel) ?_
  refine s_iald (tt := 0) rfl dX6_goOne_262 ?_
  refine s_iast hZ.1 (tt := 0) rfl dX6_goOne_263 ?_
  refine s_iconst dX6_goOne_264 (by decide +kernel) ?_
  exact s_zret rx_z_ok rfl dX6_goOne_265
noncomputable def vX6_goOne_231 : rx_K := o_ld rx_isR 1 (o_const 40 (o_ld rx_isR 1 (o_const 8 (o_ald 0 (o_const 16 (o_bi (fun x y => x + y) (o_ast 0 (fun v => v) rx_isI (o_ld rx_isR 1 (o_const 8 (o_ld rx_isR 0 (o_getf 6 0 (o_getf 11 1 (o_ld rx_isR 1 (o_const 0 (o_ald 0 (o_ald 4 (o_getf 10 19 (o_ast 0 (fun v => v) rx_isI (o_const 0 (o_ret1 rx_isZ))))))))))))))))))))
set_option maxRecDepth 20000 in
theorem wX6_goOne_231 (hZ : zO b e D A X) : rx_OK (zV b e D A X) mX6_goOne 3 231 vX6_goOne_231 := by
  unfold vX6_goOne_231
  refine s_aload_n hZ.1 dX6_goOne_231 rfl ?_
  refine s_iconst dX6_goOne_232 (by decide +kernel) ?_
  refine s_aload_n hZ.1 dX6_goOne_233 rfl ?_
  refine s_iconst dX6_goOne_234 (by decide +kernel) ?_
  refine s_iald (tt := 0) rfl dX6_goOne_235 ?_
  refine s_iconst dX6_goOne_236 (by decide +kernel) ?_
  refine s_iadd dX6_goOne_237 ?_
  refine s_iast hZ.1 (tt := 0) rfl dX6_goOne_238 ?_
  refine s_aload_n hZ.1 dX6_goOne_239 rfl ?_
  refine s_iconst dX6_goOne_240 (by decide +kernel) ?_
  refine s_aload_n hZ.1 dX6_goOne_241 rfl ?_
  refine yg6_0 dX6_goOne_242 zw1473 ?_
  refine yg11_1 dX6_goOne_245 zw1255 ?_
  refine s_aload_n hZ.1 dX6_goOne_248 rfl ?_
  refine s_iconst dX6_goOne_249 (by decide +kernel) ?_
  refine s_iald (tt := 0) rfl dX6_goOne_250 ?_
  refine s_aald (tt := 4) rfl rfl dX6_goOne_251 ?_
  refine yg10_19 dX6_goOne_252 zw888 ?_
  refine s_iast hZ.1 (tt := 0) rfl dX6_goOne_255 ?_
  refine s_iconst dX6_goOne_256 (by decide +kernel) ?_
  exact s_zret rx_z_ok rfl dX6_goOne_257
noncomputable def vX6_goOne_213 : rx_K := o_ld rx_isR 0 (o_ld rx_isR 0 (o_getf 6 7 (o_const 8 (o_bi (fun x y => x - y) (o_ld rx_isR 1 (o_const 24 (o_ald 0 (o_mm z_max (o_putf rx_isI 6 7 (o_const 8 (o_ret1 rx_isZ)))))))))))
set_option maxRecDepth 20000 in
theorem wX6_goOne_213 (hZ : zO b e D A X) : rx_OK (zV b e D A X) mX6_goOne 3 213 vX6_goOne_213 := by
  unfold vX6_goOne_213
  refine s_aload_n hZ.1 dX6_goOne_213 rfl ?_
  refine s_aload_n hZ.1 dX6_goOne_214 rfl ?_
  refine yg6_7 dX6_goOne_215 zw1482 ?_
  refine s_iconst dX6_goOne_218 (by decide +kernel) ?_
  refine s_isub dX6_goOne_219 ?_
  refine s_aload_n hZ.1 dX6_goOne_220 rfl ?_
  refine s_iconst dX6_goOne_221 (by decide +kernel) ?_
  refine s_iald (tt := 0) rfl dX6_goOne_222 ?_
  refine s_mmax hZ.1 (Nat.le_of_ble_eq_true rfl) zw2815 zw2179 zw432 zmath_max dX6_goOne_223 ?_
  refine yp6_7 hZ.1 dX6_goOne_226 zw1482 ?_
  refine s_iconst dX6_goOne_229 (by decide +kernel) ?_
  exact s_zret rx_z_ok rfl dX6_goOne_230
noncomputable def vX6_goOne_211 : rx_K := o_const 8 (o_ret1 rx_isZ)
set_option maxRecDepth 20000 in
theorem wX6_goOne_211 (hZ : zO b e D A X) : rx_OK (zV b e D A X) mX6_goOne 3 211 vX6_goOne_211 := by
  unfold vX6_goOne_211
  refine s_iconst dX6_goOne_211 (by decide +kernel) ?_
  exact s_zret rx_z_ok rfl dX6_goOne_212
noncomputable def vX6_goOne_208 : rx_K := o_putf rx_isI 6 7 (vX6_goOne_211)
set_option maxRecDepth 20000 in
theorem wX6_goOne_208 (hZ : zO b e D A X) : rx_OK (zV b e D A X) mX6_goOne 3 208 vX6_goOne_208 := by
  unfold vX6_goOne_208
  refine yp6_7 hZ.1 dX6_goOne_208 zw1482 ?_
  exact (wX6_goOne_211 hZ)
noncomputable def vX6_goOne_172 : rx_K := o_ld rx_isR 0 (o_getf 6 6 (o_const 16 (o_ld rx_isR 0 (o_getf 6 7 (o_bi (fun x y => x * y) (o_ld rx_isI 3 (o_ast 0 (fun v => v) rx_isI (o_ld rx_isR 0 (o_getf 6 6 (o_const 16 (o_ld rx_isR 0 (o_getf 6 7 (o_bi (fun x y => x * y) (o_const 8 (o_bi (fun x y => x + y) (o_ld rx_isR 0 (o_getf 6 3 (o_ast 0 (fun v => v) rx_isI (o_ld rx_isR 0 (o_dup (o_getf 6 7 (o_const 8 (o_bi (fun x y => x + y) (vX6_goOne_208))))))))))))))))))))))))
set_option maxRecDepth 20000 in
theorem wX6_goOne_172 (hZ : zO b e D A X) : rx_OK (zV b e D A X) mX6_goOne 3 172 vX6_goOne_172 := by
  unfold vX6_goOne_172
  refine s_aload_n hZ.1 dX6_goOne_172 rfl ?_
  refine yg6_6 dX6_goOne_173 zw1481 ?_
  refine s_iconst dX6_goOne_176 (by decide +kernel) ?_
  refine s_aload_n hZ.1 dX6_goOne_177 rfl ?_
  refine yg6_7 dX6_goOne_178 zw1482 ?_
  refine s_imul dX6_goOne_181 ?_
  refine s_iload_n hZ.1 dX6_goOne_182 rfl ?_
  refine s_iast hZ.1 (tt := 0) rfl dX6_goOne_183 ?_
  refine s_aload_n hZ.1 dX6_goOne_184 rfl ?_
  refine yg6_6 dX6_goOne_185 zw1481 ?_
  refine s_iconst dX6_goOne_188 (by decide +kernel) ?_
  refine s_aload_n hZ.1 dX6_goOne_189 rfl ?_
  refine yg6_7 dX6_goOne_190 zw1482 ?_
  refine s_imul dX6_goOne_193 ?_
  refine s_iconst dX6_goOne_194 (by decide +kernel) ?_
  refine s_iadd dX6_goOne_195 ?_
  refine s_aload_n hZ.1 dX6_goOne_196 rfl ?_
  refine yg6_3 dX6_goOne_197 zw1477 ?_
  refine s_iast hZ.1 (tt := 0) rfl dX6_goOne_200 ?_
  refine s_aload_n hZ.1 dX6_goOne_201 rfl ?_
  refine s_dup hZ.1 dX6_goOne_202 ?_
  refine yg6_7 dX6_goOne_203 zw1482 ?_
  refine s_iconst dX6_goOne_206 (by decide +kernel) ?_
  refine s_iadd dX6_goOne_207 ?_
  exact (wX6_goOne_208 hZ)
noncomputable def vX6_goOne_156 : rx_K := o_const 16 (o_ld rx_isR 0 (o_getf 6 7 (o_bi (fun x y => x * y) (o_const 8 (o_bi (fun x y => x + y) (o_ld rx_isR 0 (o_getf 6 6 (o_alen 0 (o_c2 rx_lt vX6_goOne_172 vX6_goOne_211)))))))))
set_option maxRecDepth 20000 in
theorem wX6_goOne_156 (hZ : zO b e D A X) : rx_OK (zV b e D A X) mX6_goOne 3 156 vX6_goOne_156 := by
  unfold vX6_goOne_156
  refine s_iconst dX6_goOne_156 (by decide +kernel) ?_
  refine s_aload_n hZ.1 dX6_goOne_157 rfl ?_
  refine yg6_7 dX6_goOne_158 zw1482 ?_
  refine s_imul dX6_goOne_161 ?_
  refine s_iconst dX6_goOne_162 (by decide +kernel) ?_
  refine s_iadd dX6_goOne_163 ?_
  refine s_aload_n hZ.1 dX6_goOne_164 rfl ?_
  refine yg6_6 dX6_goOne_165 zw1481 ?_
  refine s_alen (tt := 0) rfl dX6_goOne_168 ?_
  exact s_icmp_ge dX6_goOne_169 (by decide) (wX6_goOne_211 hZ) (wX6_goOne_172 hZ)
noncomputable def vX6_goOne_146 : rx_K := o_ld rx_isR 0 (o_ld rx_isR 0 (o_callV 0 6 FX6_pop (o_callV 1 6 FX6_throwOne (o_const 0 (o_ret1 rx_isZ)))))
set_option maxRecDepth 20000 in
theorem wX6_goOne_146 (hZ : zO b e D A X) : rx_OK (zV b e D A X) mX6_goOne 3 146 vX6_goOne_146 := by
  unfold vX6_goOne_146
  refine s_aload_n hZ.1 dX6_goOne_146 rfl ?_
  refine s_aload_n hZ.1 dX6_goOne_147 rfl ?_
  refine s_callV hZ.1 (Met_X6_pop hZ) (Nat.le_of_ble_eq_true rfl) vy_X6_pop zcl6 zw2794 zw162 (Or.inl zw2792) dX6_goOne_148 ?_
  refine s_callV hZ.1 (Met_X6_throwOne hZ) (Nat.le_of_ble_eq_true rfl) vy_X6_throwOne zcl6 zw2809 zw165 (Or.inl zw2807) dX6_goOne_151 ?_
  refine s_iconst dX6_goOne_154 (by decide +kernel) ?_
  exact s_zret rx_z_ok rfl dX6_goOne_155
noncomputable def vX6_goOne_144 : rx_K := o_const 8 (o_ret1 rx_isZ)
set_option maxRecDepth 20000 in
theorem wX6_goOne_144 (hZ : zO b e D A X) : rx_OK (zV b e D A X) mX6_goOne 3 144 vX6_goOne_144 := by
  unfold vX6_goOne_144
  refine s_iconst dX6_goOne_144 (by decide +kernel) ?_
  exact s_zret rx_z_ok rfl dX6_goOne_145
noncomputable def vX6_goOne_123 : rx_K := o_ld rx_isR 0 (o_getf 6 15 (o_ld rx_isR 0 (o_getf 6 16 (o_ld rx_isI 5 (o_ast 0 (fun v => v) rx_isI (o_ld rx_isR 0 (o_dup (o_getf 6 16 (o_const 8 (o_bi (fun x y => x + y) (o_putf rx_isI 6 16 (vX6_goOne_144))))))))))))
set_option maxRecDepth 20000 in
theorem wX6_goOne_123 (hZ : zO b e D A X) : rx_OK (zV b e D A X) mX6_goOne 3 123 vX6_goOne_123 := by
  unfold vX6_goOne_123
  refine s_aload_n hZ.1 dX6_goOne_123 rfl ?_
  refine yg6_15 dX6_goOne_124 zw1496 ?_
  refine s_aload_n hZ.1 dX6_goOne_127 rfl ?_
  refine yg6_16 dX6_goOne_128 zw1498 ?_
  refine s_iload hZ.1 dX6_goOne_131 ?_
  refine s_iast hZ.1 (tt := 0) rfl dX6_goOne_133 ?_
  refine s_aload_n hZ.1 dX6_goOne_134 rfl ?_
  refine s_dup hZ.1 dX6_goOne_135 ?_
  refine yg6_16 dX6_goOne_136 zw1498 ?_
  refine s_iconst dX6_goOne_139 (by decide +kernel) ?_
  refine s_iadd dX6_goOne_140 ?_
  refine yp6_16 hZ.1 dX6_goOne_141 zw1498 ?_
  exact (wX6_goOne_144 hZ)
noncomputable def vX6_goOne_108 : rx_K := o_ld rx_isR 0 (o_callV 0 6 FX6_pop (o_st rx_isI 5 (o_ld rx_isR 0 (o_getf 6 16 (o_const 800 (o_c2 rx_lt vX6_goOne_123 vX6_goOne_144))))))
set_option maxRecDepth 20000 in
theorem wX6_goOne_108 (hZ : zO b e D A X) : rx_OK (zV b e D A X) mX6_goOne 3 108 vX6_goOne_108 := by
  unfold vX6_goOne_108
  refine s_aload_n hZ.1 dX6_goOne_108 rfl ?_
  refine s_callV hZ.1 (Met_X6_pop hZ) (Nat.le_of_ble_eq_true rfl) vy_X6_pop zcl6 zw2794 zw162 (Or.inl zw2792) dX6_goOne_109 ?_
  refine s_istore hZ.1 dX6_goOne_112 (Nat.le_of_ble_eq_true rfl) ?_
  refine s_aload_n hZ.1 dX6_goOne_114 rfl ?_
  refine yg6_16 dX6_goOne_115 zw1498 ?_
  refine s_bipush dX6_goOne_118 (by decide +kernel) ?_
  exact s_icmp_ge dX6_goOne_120 (by decide) (wX6_goOne_144 hZ) (wX6_goOne_123 hZ)
noncomputable def vX6_goOne_107 : rx_K := o_ret1 rx_isZ
set_option maxRecDepth 20000 in
theorem wX6_goOne_107 (hZ : zO b e D A X) : rx_OK (zV b e D A X) mX6_goOne 3 107 vX6_goOne_107 := by
  unfold vX6_goOne_107
  exact s_zret rx_z_ok rfl dX6_goOne_107
noncomputable def vX6_goOne_106 : rx_K := o_const 0 (vX6_goOne_107)
set_option maxRecDepth 20000 in
theorem wX6_goOne_106 (hZ : zO b e D A X) : rx_OK (zV b e D A X) mX6_goOne 3 106 vX6_goOne_106 := by
  unfold vX6_goOne_106
  refine s_iconst dX6_goOne_106 (by decide +kernel) ?_
  exact (wX6_goOne_107 hZ)
noncomputable def vX6_goOne_102 : rx_K := o_const 8 (vX6_goOne_107)
set_option maxRecDepth 20000 in
theorem wX6_goOne_102 (hZ : zO b e D A X) : rx_OK (zV b e D A X) mX6_goOne 3 102 vX6_goOne_102 := by
  unfold vX6_goOne_102
  refine s_iconst dX6_goOne_102 (by decide +kernel) ?_
  exact s_goto dX6_goOne_103 (by decide) (wX6_goOne_107 hZ)
noncomputable def vX6_goOne_97 : rx_K := o_ld rx_isI 4 (o_c1 rx_eq vX6_goOne_102 vX6_goOne_106)
set_option maxRecDepth 20000 in
theorem wX6_goOne_97 (hZ : zO b e D A X) : rx_OK (zV b e D A X) mX6_goOne 3 97 vX6_goOne_97 := by
  unfold vX6_goOne_97
  refine s_iload hZ.1 dX6_goOne_97 ?_
  exact s_if_ne dX6_goOne_99 (by decide) (wX6_goOne_106 hZ) (wX6_goOne_102 hZ)
noncomputable def vX6_goOne_93 : rx_K := o_ld rx_isR 1 (o_const 8 (o_ld rx_isI 3 (o_ast 0 (fun v => v) rx_isI (vX6_goOne_97))))
set_option maxRecDepth 20000 in
theorem wX6_goOne_93 (hZ : zO b e D A X) : rx_OK (zV b e D A X) mX6_goOne 3 93 vX6_goOne_93 := by
  unfold vX6_goOne_93
  refine s_aload_n hZ.1 dX6_goOne_93 rfl ?_
  refine s_iconst dX6_goOne_94 (by decide +kernel) ?_
  refine s_iload_n hZ.1 dX6_goOne_95 rfl ?_
  refine s_iast hZ.1 (tt := 0) rfl dX6_goOne_96 ?_
  exact (wX6_goOne_97 hZ)
noncomputable def vX6_goOne_86 : rx_K := o_st rx_isI 4 (o_ld rx_isI 4 (o_c1 rx_eq vX6_goOne_97 vX6_goOne_93))
set_option maxRecDepth 20000 in
theorem wX6_goOne_86 (hZ : zO b e D A X) : rx_OK (zV b e D A X) mX6_goOne 3 86 vX6_goOne_86 := by
  unfold vX6_goOne_86
  refine s_istore hZ.1 dX6_goOne_86 (Nat.le_of_ble_eq_true rfl) ?_
  refine s_iload hZ.1 dX6_goOne_88 ?_
  exact s_if_eq dX6_goOne_90 (by decide) (wX6_goOne_97 hZ) (wX6_goOne_93 hZ)
noncomputable def vX6_goOne_85 : rx_K := o_const 0 (vX6_goOne_86)
set_option maxRecDepth 20000 in
theorem wX6_goOne_85 (hZ : zO b e D A X) : rx_OK (zV b e D A X) mX6_goOne 3 85 vX6_goOne_85 := by
  unfold vX6_goOne_85
  refine s_iconst dX6_goOne_85 (by decide +kernel) ?_
  exact (wX6_goOne_86 hZ)
noncomputable def vX6_goOne_81 : rx_K := o_const 8 (vX6_goOne_86)
set_option maxRecDepth 20000 in
theorem wX6_goOne_81 (hZ : zO b e D A X) : rx_OK (zV b e D A X) mX6_goOne 3 81 vX6_goOne_81 := by
  unfold vX6_goOne_81
  refine s_iconst dX6_goOne_81 (by decide +kernel) ?_
  exact s_goto dX6_goOne_82 (by decide) (wX6_goOne_86 hZ)
noncomputable def vX6_goOne_74 : rx_K := o_ld rx_isR 0 (o_callV 0 6 FX6_pop (o_c1 rx_eq vX6_goOne_81 vX6_goOne_85))
set_option maxRecDepth 20000 in
theorem wX6_goOne_74 (hZ : zO b e D A X) : rx_OK (zV b e D A X) mX6_goOne 3 74 vX6_goOne_74 := by
  unfold vX6_goOne_74
  refine s_aload_n hZ.1 dX6_goOne_74 rfl ?_
  refine s_callV hZ.1 (Met_X6_pop hZ) (Nat.le_of_ble_eq_true rfl) vy_X6_pop zcl6 zw2794 zw162 (Or.inl zw2792) dX6_goOne_75 ?_
  exact s_if_ne dX6_goOne_78 (by decide) (wX6_goOne_85 hZ) (wX6_goOne_81 hZ)
noncomputable def vX6_goOne_68 : rx_K := o_ld rx_isR 1 (o_const 8 (o_ld rx_isI 3 (o_ast 0 (fun v => v) rx_isI (o_const 0 (o_ret1 rx_isZ)))))
set_option maxRecDepth 20000 in
theorem wX6_goOne_68 (hZ : zO b e D A X) : rx_OK (zV b e D A X) mX6_goOne 3 68 vX6_goOne_68 := by
  unfold vX6_goOne_68
  refine s_aload_n hZ.1 dX6_goOne_68 rfl ?_
  refine s_iconst dX6_goOne_69 (by decide +kernel) ?_
  refine s_iload_n hZ.1 dX6_goOne_70 rfl ?_
  refine s_iast hZ.1 (tt := 0) rfl dX6_goOne_71 ?_
  refine s_iconst dX6_goOne_72 (by decide +kernel) ?_
  exact s_zret rx_z_ok rfl dX6_goOne_73
noncomputable def vX6_goOne_0 : rx_K := o_ld rx_isI 2 (o_sw 12 [68, 74, 108, 146, 156, 213, 316, 316, 231, 258, 286, 266, 276] 316 (rx_pk [(68, vX6_goOne_68), (74, vX6_goOne_74), (108, vX6_goOne_108), (146, vX6_goOne_146), (156, vX6_goOne_156), (213, vX6_goOne_213), (231, vX6_goOne_231), (258, vX6_goOne_258), (266, vX6_goOne_266), (276, vX6_goOne_276), (286, vX6_goOne_286), (316, vX6_goOne_316)]))
set_option maxRecDepth 20000 in
theorem wX6_goOne_0 (hZ : zO b e D A X) : rx_OK (zV b e D A X) mX6_goOne 3 0 vX6_goOne_0 := by
  unfold vX6_goOne_0
  refine s_iload_n hZ.1 dX6_goOne_0 rfl ?_
  exact s_sw dX6_goOne_1 (by decide) (by decide) (by decide) (by decide) (by decide) (fun b _ => (rx_pk_ok (List.forall_mem_cons.mpr ⟨(wX6_goOne_68 hZ), List.forall_mem_cons.mpr ⟨(wX6_goOne_74 hZ), List.forall_mem_cons.mpr ⟨(wX6_goOne_108 hZ), List.forall_mem_cons.mpr ⟨(wX6_goOne_146 hZ), List.forall_mem_cons.mpr ⟨(wX6_goOne_156 hZ), List.forall_mem_cons.mpr ⟨(wX6_goOne_213 hZ), List.forall_mem_cons.mpr ⟨(wX6_goOne_231 hZ), List.forall_mem_cons.mpr ⟨(wX6_goOne_258 hZ), List.forall_mem_cons.mpr ⟨(wX6_goOne_266 hZ), List.forall_mem_cons.mpr ⟨(wX6_goOne_276 hZ), List.forall_mem_cons.mpr ⟨(wX6_goOne_286 hZ), List.forall_mem_cons.mpr ⟨(wX6_goOne_316 hZ), fun _ h => absurd h List.not_mem_nil⟩⟩⟩⟩⟩⟩⟩⟩⟩⟩⟩⟩)) b)
noncomputable def FX6_goOne : List Nat → rx_H → Option (Nat × rx_H) := rx_ent 6 vX6_goOne_0
theorem Met_X6_goOne (hZ : zO b e D A X) : rx_Met (zV b e D A X) 3 yX6_goOne mX6_goOne (FX6_goOne) := rx_entry hZ.1 (wX6_goOne_0 hZ) (by decide +kernel) rfl (fun h => by cases h)
end ZM19

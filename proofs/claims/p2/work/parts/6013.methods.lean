section ZM13
variable {b : Nat} {e : Nat → Value} {D : va_G} {A : Nat → ClassId} {X : State → Prop}
abbrev mX4_against : rx_M := (RX4, cX4_against, 4, none, false)
theorem vy_X4_against : rx_Y (zV b e D A X) yX4_against mX4_against 2 := ⟨zw1976, zw420, by decide, by decide +kernel, by decide +kernel, by decide +kernel⟩
noncomputable def vX4_against_92 : rx_K := o_ret0
set_option maxRecDepth 20000 in
theorem wX4_against_92 (hZ : zO b e D A X) : rx_OK (zV b e D A X) mX4_against 1 92 vX4_against_92 := by
  unfold vX4_against_92
  exact s_vret rfl dX4_against_92
noncomputable def vX4_against_81 : rx_K := o_ld rx_isR 0 (o_const 72 (o_ld rx_isR 1 (o_getf 7 11 (o_callV 2 4 FX4_fail (o_pop (vX4_against_92))))))
set_option maxRecDepth 20000 in
theorem wX4_against_81 (hZ : zO b e D A X) : rx_OK (zV b e D A X) mX4_against 1 81 vX4_against_81 := by
  unfold vX4_against_81
  refine s_aload_n hZ.1 dX4_against_81 rfl ?_
  refine s_bipush dX4_against_82 (by decide +kernel) ?_
  refine s_aload_n hZ.1 dX4_against_84 rfl ?_
  refine yg7_11 dX4_against_85 zw1037 ?_
  refine s_callV hZ.1 (Met_X4_fail hZ) (Nat.le_of_ble_eq_true rfl) vy_X4_fail zcl4 zw1898 zw43 (Or.inl zw1896) dX4_against_88 ?_
  refine s_pop hZ.1 dX4_against_91 ?_
  exact (wX4_against_92 hZ)
noncomputable def vX4_against_76 : rx_K := o_st rx_isI 3 (o_ld rx_isI 3 (o_c1 rx_eq vX4_against_92 vX4_against_81))
set_option maxRecDepth 20000 in
theorem wX4_against_76 (hZ : zO b e D A X) : rx_OK (zV b e D A X) mX4_against 1 76 vX4_against_76 := by
  unfold vX4_against_76
  refine s_istore_n hZ.1 dX4_against_76 rfl (Nat.le_of_ble_eq_true rfl) ?_
  refine s_iload_n hZ.1 dX4_against_77 rfl ?_
  exact s_if_eq dX4_against_78 (by decide) (wX4_against_92 hZ) (wX4_against_81 hZ)
noncomputable def vX4_against_75 : rx_K := o_const 0 (vX4_against_76)
set_option maxRecDepth 20000 in
theorem wX4_against_75 (hZ : zO b e D A X) : rx_OK (zV b e D A X) mX4_against 1 75 vX4_against_75 := by
  unfold vX4_against_75
  refine s_iconst dX4_against_75 (by decide +kernel) ?_
  exact (wX4_against_76 hZ)
noncomputable def vX4_against_71 : rx_K := o_const 8 (vX4_against_76)
set_option maxRecDepth 20000 in
theorem wX4_against_71 (hZ : zO b e D A X) : rx_OK (zV b e D A X) mX4_against 1 71 vX4_against_71 := by
  unfold vX4_against_71
  refine s_iconst dX4_against_71 (by decide +kernel) ?_
  exact s_goto dX4_against_72 (by decide) (wX4_against_76 hZ)
noncomputable def vX4_against_53 : rx_K := o_ld rx_isR 0 (o_getf 4 0 (o_ld rx_isR 1 (o_getf 7 8 (o_ld rx_isR 2 (o_getf 7 8 (o_callV 2 11 FX11_fits (o_c1 rx_eq vX4_against_71 vX4_against_75)))))))
set_option maxRecDepth 20000 in
theorem wX4_against_53 (hZ : zO b e D A X) : rx_OK (zV b e D A X) mX4_against 1 53 vX4_against_53 := by
  unfold vX4_against_53
  refine s_aload_n hZ.1 dX4_against_53 rfl ?_
  refine yg4_0 dX4_against_54 zw638 ?_
  refine s_aload_n hZ.1 dX4_against_57 rfl ?_
  refine yg7_8 dX4_against_58 zw1016 ?_
  refine s_aload_n hZ.1 dX4_against_61 rfl ?_
  refine yg7_8 dX4_against_62 zw1016 ?_
  refine s_callV hZ.1 (Met_X11_fits hZ) (Nat.le_of_ble_eq_true rfl) vy_X11_fits zcl11 zw1978 zw1979 (Or.inl zw1977) dX4_against_65 ?_
  exact s_if_ne dX4_against_68 (by decide) (wX4_against_75 hZ) (wX4_against_71 hZ)
noncomputable def vX4_against_41 : rx_K := o_ld rx_isR 2 (o_getf 7 8 (o_ld rx_isR 1 (o_getf 7 8 (o_bc (fun x y => lg_cmp x y) (o_c1 rx_eq vX4_against_75 vX4_against_53)))))
set_option maxRecDepth 20000 in
theorem wX4_against_41 (hZ : zO b e D A X) : rx_OK (zV b e D A X) mX4_against 1 41 vX4_against_41 := by
  unfold vX4_against_41
  refine s_aload_n hZ.1 dX4_against_41 rfl ?_
  refine yg7_8 dX4_against_42 zw1016 ?_
  refine s_aload_n hZ.1 dX4_against_45 rfl ?_
  refine yg7_8 dX4_against_46 zw1016 ?_
  refine s_lcmp dX4_against_49 ?_
  exact s_if_eq dX4_against_50 (by decide) (wX4_against_75 hZ) (wX4_against_53 hZ)
noncomputable def vX4_against_30 : rx_K := o_ld rx_isR 2 (o_getf 7 1 (o_ld rx_isR 1 (o_getf 7 1 (o_c2 (fun h x y => rx_lt h y x) vX4_against_71 vX4_against_41))))
set_option maxRecDepth 20000 in
theorem wX4_against_30 (hZ : zO b e D A X) : rx_OK (zV b e D A X) mX4_against 1 30 vX4_against_30 := by
  unfold vX4_against_30
  refine s_aload_n hZ.1 dX4_against_30 rfl ?_
  refine yg7_1 dX4_against_31 zw955 ?_
  refine s_aload_n hZ.1 dX4_against_34 rfl ?_
  refine yg7_1 dX4_against_35 zw955 ?_
  exact s_icmp_gt dX4_against_38 (by decide) (wX4_against_71 hZ) (wX4_against_41 hZ)
noncomputable def vX4_against_23 : rx_K := o_ld rx_isR 2 (o_getf 7 3 (o_c1 rx_eq vX4_against_30 vX4_against_71))
set_option maxRecDepth 20000 in
theorem wX4_against_23 (hZ : zO b e D A X) : rx_OK (zV b e D A X) mX4_against 1 23 vX4_against_23 := by
  unfold vX4_against_23
  refine s_aload_n hZ.1 dX4_against_23 rfl ?_
  refine yg7_3 dX4_against_24 zw974 ?_
  exact s_if_ne dX4_against_27 (by decide) (wX4_against_71 hZ) (wX4_against_30 hZ)
noncomputable def vX4_against_16 : rx_K := o_ld rx_isR 2 (o_getf 7 2 (o_c1 rx_eq vX4_against_23 vX4_against_75))
set_option maxRecDepth 20000 in
theorem wX4_against_16 (hZ : zO b e D A X) : rx_OK (zV b e D A X) mX4_against 1 16 vX4_against_16 := by
  unfold vX4_against_16
  refine s_aload_n hZ.1 dX4_against_16 rfl ?_
  refine yg7_2 dX4_against_17 zw964 ?_
  exact s_if_ne dX4_against_20 (by decide) (wX4_against_75 hZ) (wX4_against_23 hZ)
noncomputable def vX4_against_5 : rx_K := o_ld rx_isR 2 (o_getf 7 2 (o_ld rx_isR 1 (o_getf 7 2 (o_c2 rx_eq vX4_against_16 vX4_against_71))))
set_option maxRecDepth 20000 in
theorem wX4_against_5 (hZ : zO b e D A X) : rx_OK (zV b e D A X) mX4_against 1 5 vX4_against_5 := by
  unfold vX4_against_5
  refine s_aload_n hZ.1 dX4_against_5 rfl ?_
  refine yg7_2 dX4_against_6 zw964 ?_
  refine s_aload_n hZ.1 dX4_against_9 rfl ?_
  refine yg7_2 dX4_against_10 zw964 ?_
  exact s_icmp_ne dX4_against_13 (by decide) (wX4_against_71 hZ) (wX4_against_16 hZ)
noncomputable def vX4_against_4 : rx_K := o_ret0
set_option maxRecDepth 20000 in
theorem wX4_against_4 (hZ : zO b e D A X) : rx_OK (zV b e D A X) mX4_against 1 4 vX4_against_4 := by
  unfold vX4_against_4
  exact s_vret rfl dX4_against_4
noncomputable def vX4_against_0 : rx_K := o_ld rx_isR 2 (o_nul vX4_against_4 vX4_against_5)
set_option maxRecDepth 20000 in
theorem wX4_against_0 (hZ : zO b e D A X) : rx_OK (zV b e D A X) mX4_against 1 0 vX4_against_0 := by
  unfold vX4_against_0
  refine s_aload_n hZ.1 dX4_against_0 rfl ?_
  exact s_ifnonnull dX4_against_1 (by decide) (wX4_against_5 hZ) (wX4_against_4 hZ)
noncomputable def FX4_against : List Nat → rx_H → Option (Nat × rx_H) := rx_ent 4 vX4_against_0
theorem Met_X4_against (hZ : zO b e D A X) : rx_Met (zV b e D A X) 1 yX4_against mX4_against (FX4_against) := rx_entry hZ.1 (wX4_against_0 hZ) (by decide +kernel) rfl (fun h => by cases h)
abbrev mX4_above : rx_M := (RX4, cX4_above, 8, none, false)
theorem vy_X4_above : rx_Y (zV b e D A X) yX4_above mX4_above 2 := ⟨zw1959, zw420, by decide, by decide +kernel, by decide +kernel, by decide +kernel⟩
noncomputable def vX4_above_160 (j : Nat → rx_K) : rx_K := o_ret0
set_option maxRecDepth 20000 in
theorem wX4_above_160 (hZ : zO b e D A X) (j : Nat → rx_K) (hj : ∀ k pc, [2, 48, 113][k]? = some pc → rx_OK (zV b e D A X) mX4_above 3 pc (j k)) : rx_OK (zV b e D A X) mX4_above 3 160 (vX4_above_160 j) := by
  unfold vX4_above_160
  exact s_vret rfl dX4_above_160
noncomputable def vX4_above_154 (j : Nat → rx_K) : rx_K := o_inc 3 (1) ((j 0))
set_option maxRecDepth 20000 in
theorem wX4_above_154 (hZ : zO b e D A X) (j : Nat → rx_K) (hj : ∀ k pc, [2, 48, 113][k]? = some pc → rx_OK (zV b e D A X) mX4_above 3 pc (j k)) : rx_OK (zV b e D A X) mX4_above 3 154 (vX4_above_154 j) := by
  unfold vX4_above_154
  refine s_iinc hZ.1 dX4_above_154 (Nat.le_of_ble_eq_true rfl) ?_
  exact s_goto dX4_above_157 (by decide) (hj 0 2 rfl)
noncomputable def vX4_above_120 (j : Nat → rx_K) : rx_K := o_ld rx_isR 0 (o_ld rx_isR 4 (o_ld rx_isR 0 (o_ld rx_isR 0 (o_getf 4 0 (o_getf 11 10 (o_ld rx_isI 2 (o_const 512 (o_bi (fun x y => x * y) (o_ld rx_isI 7 (o_bi (fun x y => x + y) (o_ald 0 (o_ld rx_isI 2 (o_ld rx_isR 4 (o_callV 3 4 FX4_aboveIn (o_callV 2 4 FX4_against (o_inc 7 (1) ((j 2))))))))))))))))))
set_option maxRecDepth 20000 in
theorem wX4_above_120 (hZ : zO b e D A X) (j : Nat → rx_K) (hj : ∀ k pc, [2, 48, 113][k]? = some pc → rx_OK (zV b e D A X) mX4_above 3 pc (j k)) : rx_OK (zV b e D A X) mX4_above 3 120 (vX4_above_120 j) := by
  unfold vX4_above_120
  refine s_aload_n hZ.1 dX4_above_120 rfl ?_
  refine s_aload hZ.1 dX4_above_121 ?_
  refine s_aload_n hZ.1 dX4_above_123 rfl ?_
  refine s_aload_n hZ.1 dX4_above_124 rfl ?_
  refine yg4_0 dX4_above_125 zw638 ?_
  refine yg11_10 dX4_above_128 zw1283 ?_
  refine s_iload_n hZ.1 dX4_above_131 rfl ?_
  refine s_bipush dX4_above_132 (by decide +kernel) ?_
  refine s_imul dX4_above_134 ?_
  refine s_iload hZ.1 dX4_above_135 ?_
  refine s_iadd dX4_above_137 ?_
  refine s_iald (tt := 0) rfl dX4_above_138 ?_
  refine s_iload_n hZ.1 dX4_above_139 rfl ?_
  refine s_aload hZ.1 dX4_above_140 ?_
  refine s_callV hZ.1 (Met_X4_aboveIn hZ) (Nat.le_of_ble_eq_true rfl) vy_X4_aboveIn zcl4 zw1962 zw51 (Or.inl zw1960) dX4_above_142 ?_
  refine s_callV hZ.1 (Met_X4_against hZ) (Nat.le_of_ble_eq_true rfl) vy_X4_against zcl4 zw1975 zw52 (Or.inl zw1973) dX4_above_145 ?_
  refine s_iinc hZ.1 dX4_above_148 (Nat.le_of_ble_eq_true rfl) ?_
  exact s_goto dX4_above_151 (by decide) (hj 2 113 rfl)
noncomputable def vX4_above_113 (j : Nat → rx_K) : rx_K := o_ld rx_isI 7 (o_ld rx_isI 6 (o_c2 rx_lt (vX4_above_120 j) (vX4_above_154 j)))
set_option maxRecDepth 20000 in
theorem wX4_above_113 (hZ : zO b e D A X) (j : Nat → rx_K) (hj : ∀ k pc, [2, 48, 113][k]? = some pc → rx_OK (zV b e D A X) mX4_above 3 pc (j k)) : rx_OK (zV b e D A X) mX4_above 3 113 (vX4_above_113 j) := by
  unfold vX4_above_113
  refine s_iload hZ.1 dX4_above_113 ?_
  refine s_iload hZ.1 dX4_above_115 ?_
  exact s_icmp_ge dX4_above_117 (by decide) (wX4_above_154 hZ j hj) (wX4_above_120 hZ j hj)
noncomputable def vX4_above_100 (j : Nat → rx_K) : rx_K := o_ld rx_isR 0 (o_getf 4 0 (o_ld rx_isI 2 (o_callV 1 11 FX11_faces (o_st rx_isI 6 (o_const 0 (o_st rx_isI 7 ((vX4_above_113 j))))))))
set_option maxRecDepth 20000 in
theorem wX4_above_100 (hZ : zO b e D A X) (j : Nat → rx_K) (hj : ∀ k pc, [2, 48, 113][k]? = some pc → rx_OK (zV b e D A X) mX4_above 3 pc (j k)) : rx_OK (zV b e D A X) mX4_above 3 100 (vX4_above_100 j) := by
  unfold vX4_above_100
  refine s_aload_n hZ.1 dX4_above_100 rfl ?_
  refine yg4_0 dX4_above_101 zw638 ?_
  refine s_iload_n hZ.1 dX4_above_104 rfl ?_
  refine s_callV hZ.1 (Met_X11_faces hZ) (Nat.le_of_ble_eq_true rfl) vy_X11_faces zcl11 zw1984 zw1985 (Or.inl zw1983) dX4_above_105 ?_
  refine s_istore hZ.1 dX4_above_108 (Nat.le_of_ble_eq_true rfl) ?_
  refine s_iconst dX4_above_110 (by decide +kernel) ?_
  refine s_istore hZ.1 dX4_above_111 (Nat.le_of_ble_eq_true rfl) ?_
  exact (wX4_above_113 hZ j hj)
noncomputable def vX4_above_67 (j : Nat → rx_K) : rx_K := o_ld rx_isR 0 (o_ld rx_isR 4 (o_ld rx_isR 0 (o_ld rx_isI 5 (o_ld rx_isI 2 (o_ld rx_isR 4 (o_callV 3 4 FX4_aboveIn (o_callV 2 4 FX4_against (o_ld rx_isR 0 (o_getf 4 0 (o_getf 11 3 (o_ld rx_isI 5 (o_ald 0 (o_st rx_isI 5 (o_inc 6 (1) ((j 1))))))))))))))))
set_option maxRecDepth 20000 in
theorem wX4_above_67 (hZ : zO b e D A X) (j : Nat → rx_K) (hj : ∀ k pc, [2, 48, 113][k]? = some pc → rx_OK (zV b e D A X) mX4_above 3 pc (j k)) : rx_OK (zV b e D A X) mX4_above 3 67 (vX4_above_67 j) := by
  unfold vX4_above_67
  refine s_aload_n hZ.1 dX4_above_67 rfl ?_
  refine s_aload hZ.1 dX4_above_68 ?_
  refine s_aload_n hZ.1 dX4_above_70 rfl ?_
  refine s_iload hZ.1 dX4_above_71 ?_
  refine s_iload_n hZ.1 dX4_above_73 rfl ?_
  refine s_aload hZ.1 dX4_above_74 ?_
  refine s_callV hZ.1 (Met_X4_aboveIn hZ) (Nat.le_of_ble_eq_true rfl) vy_X4_aboveIn zcl4 zw1962 zw51 (Or.inl zw1960) dX4_above_76 ?_
  refine s_callV hZ.1 (Met_X4_against hZ) (Nat.le_of_ble_eq_true rfl) vy_X4_against zcl4 zw1975 zw52 (Or.inl zw1973) dX4_above_79 ?_
  refine s_aload_n hZ.1 dX4_above_82 rfl ?_
  refine yg4_0 dX4_above_83 zw638 ?_
  refine yg11_3 dX4_above_86 zw1266 ?_
  refine s_iload hZ.1 dX4_above_89 ?_
  refine s_iald (tt := 0) rfl dX4_above_91 ?_
  refine s_istore hZ.1 dX4_above_92 (Nat.le_of_ble_eq_true rfl) ?_
  refine s_iinc hZ.1 dX4_above_94 (Nat.le_of_ble_eq_true rfl) ?_
  exact s_goto dX4_above_97 (by decide) (hj 1 48 rfl)
noncomputable def vX4_above_62 (j : Nat → rx_K) : rx_K := o_ld rx_isI 5 (o_c1 rx_lt (vX4_above_100 j) (vX4_above_67 j))
set_option maxRecDepth 20000 in
theorem wX4_above_62 (hZ : zO b e D A X) (j : Nat → rx_K) (hj : ∀ k pc, [2, 48, 113][k]? = some pc → rx_OK (zV b e D A X) mX4_above 3 pc (j k)) : rx_OK (zV b e D A X) mX4_above 3 62 (vX4_above_62 j) := by
  unfold vX4_above_62
  refine s_iload hZ.1 dX4_above_62 ?_
  exact s_if_lt dX4_above_64 (by decide) (wX4_above_100 hZ j hj) (wX4_above_67 hZ j hj)
noncomputable def vX4_above_48 (j : Nat → rx_K) : rx_K := o_ld rx_isI 6 (o_ld rx_isR 0 (o_getf 4 0 (o_getf 11 4 (o_ld rx_isI 2 (o_ald 0 (o_c2 rx_lt (vX4_above_62 j) (vX4_above_100 j)))))))
set_option maxRecDepth 20000 in
theorem wX4_above_48 (hZ : zO b e D A X) (j : Nat → rx_K) (hj : ∀ k pc, [2, 48, 113][k]? = some pc → rx_OK (zV b e D A X) mX4_above 3 pc (j k)) : rx_OK (zV b e D A X) mX4_above 3 48 (vX4_above_48 j) := by
  unfold vX4_above_48
  refine s_iload hZ.1 dX4_above_48 ?_
  refine s_aload_n hZ.1 dX4_above_50 rfl ?_
  refine yg4_0 dX4_above_51 zw638 ?_
  refine yg11_4 dX4_above_54 zw1269 ?_
  refine s_iload_n hZ.1 dX4_above_57 rfl ?_
  refine s_iald (tt := 0) rfl dX4_above_58 ?_
  exact s_icmp_ge dX4_above_59 (by decide) (wX4_above_100 hZ j hj) (wX4_above_62 hZ j hj)
noncomputable def vX4_above_34 (j : Nat → rx_K) : rx_K := o_ld rx_isR 0 (o_getf 4 0 (o_getf 11 3 (o_ld rx_isI 2 (o_ald 0 (o_st rx_isI 5 (o_const 0 (o_st rx_isI 6 ((vX4_above_48 j)))))))))
set_option maxRecDepth 20000 in
theorem wX4_above_34 (hZ : zO b e D A X) (j : Nat → rx_K) (hj : ∀ k pc, [2, 48, 113][k]? = some pc → rx_OK (zV b e D A X) mX4_above 3 pc (j k)) : rx_OK (zV b e D A X) mX4_above 3 34 (vX4_above_34 j) := by
  unfold vX4_above_34
  refine s_aload_n hZ.1 dX4_above_34 rfl ?_
  refine yg4_0 dX4_above_35 zw638 ?_
  refine yg11_3 dX4_above_38 zw1266 ?_
  refine s_iload_n hZ.1 dX4_above_41 rfl ?_
  refine s_iald (tt := 0) rfl dX4_above_42 ?_
  refine s_istore hZ.1 dX4_above_43 (Nat.le_of_ble_eq_true rfl) ?_
  refine s_iconst dX4_above_45 (by decide +kernel) ?_
  refine s_istore hZ.1 dX4_above_46 (Nat.le_of_ble_eq_true rfl) ?_
  exact (wX4_above_48 hZ j hj)
noncomputable def vX4_above_17 (j : Nat → rx_K) : rx_K := o_ld rx_isR 1 (o_getf 10 14 (o_ld rx_isI 3 (o_ald 5 (o_st rx_isR 4 (o_ld rx_isR 4 (o_getf 7 0 (o_const 8 (o_c2 rx_eq (vX4_above_34 j) (vX4_above_154 j)))))))))
set_option maxRecDepth 20000 in
theorem wX4_above_17 (hZ : zO b e D A X) (j : Nat → rx_K) (hj : ∀ k pc, [2, 48, 113][k]? = some pc → rx_OK (zV b e D A X) mX4_above 3 pc (j k)) : rx_OK (zV b e D A X) mX4_above 3 17 (vX4_above_17 j) := by
  unfold vX4_above_17
  refine s_aload_n hZ.1 dX4_above_17 rfl ?_
  refine yg10_14 dX4_above_18 zw864 ?_
  refine s_iload_n hZ.1 dX4_above_21 rfl ?_
  refine s_aald (tt := 5) rfl rfl dX4_above_22 ?_
  refine s_astore hZ.1 dX4_above_23 (Nat.le_of_ble_eq_true rfl) ?_
  refine s_aload hZ.1 dX4_above_25 ?_
  refine yg7_0 dX4_above_27 zw946 ?_
  refine s_iconst dX4_above_30 (by decide +kernel) ?_
  exact s_icmp_ne dX4_above_31 (by decide) (wX4_above_154 hZ j hj) (wX4_above_34 hZ j hj)
noncomputable def vX4_above_10 (j : Nat → rx_K) : rx_K := o_ld rx_isR 0 (o_getf 4 2 (o_c1 rx_eq (vX4_above_17 j) (vX4_above_160 j)))
set_option maxRecDepth 20000 in
theorem wX4_above_10 (hZ : zO b e D A X) (j : Nat → rx_K) (hj : ∀ k pc, [2, 48, 113][k]? = some pc → rx_OK (zV b e D A X) mX4_above 3 pc (j k)) : rx_OK (zV b e D A X) mX4_above 3 10 (vX4_above_10 j) := by
  unfold vX4_above_10
  refine s_aload_n hZ.1 dX4_above_10 rfl ?_
  refine yg4_2 dX4_above_11 zw640 ?_
  exact s_if_ne dX4_above_14 (by decide) (wX4_above_160 hZ j hj) (wX4_above_17 hZ j hj)
noncomputable def vX4_above_2 (j : Nat → rx_K) : rx_K := o_ld rx_isI 3 (o_ld rx_isR 1 (o_getf 10 15 (o_c2 rx_lt (vX4_above_10 j) (vX4_above_160 j))))
set_option maxRecDepth 20000 in
theorem wX4_above_2 (hZ : zO b e D A X) (j : Nat → rx_K) (hj : ∀ k pc, [2, 48, 113][k]? = some pc → rx_OK (zV b e D A X) mX4_above 3 pc (j k)) : rx_OK (zV b e D A X) mX4_above 3 2 (vX4_above_2 j) := by
  unfold vX4_above_2
  refine s_iload_n hZ.1 dX4_above_2 rfl ?_
  refine s_aload_n hZ.1 dX4_above_3 rfl ?_
  refine yg10_15 dX4_above_4 zw872 ?_
  exact s_icmp_ge dX4_above_7 (by decide) (wX4_above_160 hZ j hj) (wX4_above_10 hZ j hj)
noncomputable def vX4_above_0 (j : Nat → rx_K) : rx_K := o_const 0 (o_st rx_isI 3 ((vX4_above_2 j)))
set_option maxRecDepth 20000 in
theorem wX4_above_0 (hZ : zO b e D A X) (j : Nat → rx_K) (hj : ∀ k pc, [2, 48, 113][k]? = some pc → rx_OK (zV b e D A X) mX4_above 3 pc (j k)) : rx_OK (zV b e D A X) mX4_above 3 0 (vX4_above_0 j) := by
  unfold vX4_above_0
  refine s_iconst dX4_above_0 (by decide +kernel) ?_
  refine s_istore_n hZ.1 dX4_above_1 rfl (Nat.le_of_ble_eq_true rfl) ?_
  exact (wX4_above_2 hZ j hj)
noncomputable def vhX4_above (j : Nat → rx_K) : List rx_K := [vX4_above_2 j, vX4_above_48 j, vX4_above_113 j]
theorem vlX4_above (hZ : zO b e D A X) : ∀ n k pc, [2, 48, 113][k]? = some pc → rx_OK (zV b e D A X) mX4_above 3 pc (rx_J (vhX4_above) n k) := rx_loop fun j hj k pc h => by
  match k, h with
  | 0, h =>
    have e9 := Option.some.inj (show some 2 = some pc from h)
    subst e9
    exact wX4_above_2 hZ j hj
  | 1, h =>
    have e9 := Option.some.inj (show some 48 = some pc from h)
    subst e9
    exact wX4_above_48 hZ j hj
  | 2, h =>
    have e9 := Option.some.inj (show some 113 = some pc from h)
    subst e9
    exact wX4_above_113 hZ j hj
  | _ + 3, h => exact absurd h (by simp)
noncomputable def FX4_above : List Nat → rx_H → Option (Nat × rx_H) := rx_ent 8 (vX4_above_0 (rx_J (vhX4_above) 4000000000))
theorem Met_X4_above (hZ : zO b e D A X) : rx_Met (zV b e D A X) 3 yX4_above mX4_above (FX4_above) := rx_entry hZ.1 (wX4_above_0 hZ _ (vlX4_above hZ 4000000000)) (by decide +kernel) rfl (fun h => by cases h)
abbrev mX4_addBridge : rx_M := (RX4, cX4_addBridge, 7, (some (.object "LinkHouse$Member")), false)
theorem vy_X4_addBridge : rx_Y (zV b e D A X) yX4_addBridge mX4_addBridge 4 := ⟨zw2020, zw420, by decide, by decide +kernel, by decide +kernel, by decide +kernel⟩
noncomputable def vX4_addBridge_93 (j : Nat → rx_K) : rx_K := o_ld rx_isR 1 (o_ld rx_isR 5 (o_callV 1 10 FX10_add (o_ld rx_isR 5 (o_ret1 rx_isR))))
set_option maxRecDepth 20000 in
theorem wX4_addBridge_93 (hZ : zO b e D A X) (j : Nat → rx_K) (hj : ∀ k pc, [63][k]? = some pc → rx_OK (zV b e D A X) mX4_addBridge 3 pc (j k)) : rx_OK (zV b e D A X) mX4_addBridge 3 93 (vX4_addBridge_93 j) := by
  unfold vX4_addBridge_93
  refine s_aload_n hZ.1 dX4_addBridge_93 rfl ?_
  refine s_aload hZ.1 dX4_addBridge_94 ?_
  refine s_callV hZ.1 (Met_X10_add hZ) (Nat.le_of_ble_eq_true rfl) vy_X10_add zcl10 zw1244 zw1245 (Or.inl zw1997) dX4_addBridge_96 ?_
  refine s_aload hZ.1 dX4_addBridge_99 ?_
  exact s_aret hZ.1 rfl (Or.inl ⟨_, rfl⟩) dX4_addBridge_101
noncomputable def vX4_addBridge_72 (j : Nat → rx_K) : rx_K := o_ld rx_isR 5 (o_getf 7 10 (o_ld rx_isI 6 (o_ld rx_isR 2 (o_getf 7 10 (o_ld rx_isI 6 (o_ald 1 (o_ast 1 (fun v => v) rx_isL (o_inc 6 (1) ((j 0))))))))))
set_option maxRecDepth 20000 in
theorem wX4_addBridge_72 (hZ : zO b e D A X) (j : Nat → rx_K) (hj : ∀ k pc, [63][k]? = some pc → rx_OK (zV b e D A X) mX4_addBridge 3 pc (j k)) : rx_OK (zV b e D A X) mX4_addBridge 3 72 (vX4_addBridge_72 j) := by
  unfold vX4_addBridge_72
  refine s_aload hZ.1 dX4_addBridge_72 ?_
  refine yg7_10 dX4_addBridge_74 zw1032 ?_
  refine s_iload hZ.1 dX4_addBridge_77 ?_
  refine s_aload_n hZ.1 dX4_addBridge_79 rfl ?_
  refine yg7_10 dX4_addBridge_80 zw1032 ?_
  refine s_iload hZ.1 dX4_addBridge_83 ?_
  refine s_lald (tt := 1) rfl dX4_addBridge_85 ?_
  refine s_last (tt := 1) rfl dX4_addBridge_86 ?_
  refine s_iinc hZ.1 dX4_addBridge_87 (Nat.le_of_ble_eq_true rfl) ?_
  exact s_goto dX4_addBridge_90 (by decide) (hj 0 63 rfl)
noncomputable def vX4_addBridge_63 (j : Nat → rx_K) : rx_K := o_ld rx_isI 6 (o_ld rx_isR 2 (o_getf 7 9 (o_c2 rx_lt (vX4_addBridge_72 j) (vX4_addBridge_93 j))))
set_option maxRecDepth 20000 in
theorem wX4_addBridge_63 (hZ : zO b e D A X) (j : Nat → rx_K) (hj : ∀ k pc, [63][k]? = some pc → rx_OK (zV b e D A X) mX4_addBridge 3 pc (j k)) : rx_OK (zV b e D A X) mX4_addBridge 3 63 (vX4_addBridge_63 j) := by
  unfold vX4_addBridge_63
  refine s_iload hZ.1 dX4_addBridge_63 ?_
  refine s_aload_n hZ.1 dX4_addBridge_65 rfl ?_
  refine yg7_9 dX4_addBridge_66 zw1025 ?_
  exact s_icmp_ge dX4_addBridge_69 (by decide) (wX4_addBridge_93 hZ j hj) (wX4_addBridge_72 hZ j hj)
noncomputable def vX4_addBridge_51 (j : Nat → rx_K) : rx_K := o_ld rx_isR 5 (o_ld rx_isR 2 (o_getf 7 9 (o_putf rx_isI 7 9 (o_const 0 (o_st rx_isI 6 ((vX4_addBridge_63 j)))))))
set_option maxRecDepth 20000 in
theorem wX4_addBridge_51 (hZ : zO b e D A X) (j : Nat → rx_K) (hj : ∀ k pc, [63][k]? = some pc → rx_OK (zV b e D A X) mX4_addBridge 3 pc (j k)) : rx_OK (zV b e D A X) mX4_addBridge 3 51 (vX4_addBridge_51 j) := by
  unfold vX4_addBridge_51
  refine s_aload hZ.1 dX4_addBridge_51 ?_
  refine s_aload_n hZ.1 dX4_addBridge_53 rfl ?_
  refine yg7_9 dX4_addBridge_54 zw1025 ?_
  refine yp7_9 hZ.1 dX4_addBridge_57 zw1025 ?_
  refine s_iconst dX4_addBridge_60 (by decide +kernel) ?_
  refine s_istore hZ.1 dX4_addBridge_61 (Nat.le_of_ble_eq_true rfl) ?_
  exact (wX4_addBridge_63 hZ j hj)
noncomputable def vX4_addBridge_0 (j : Nat → rx_K) : rx_K := o_ld rx_isR 0 (o_callV 0 1 FX1_newMember (o_st rx_isR 5 (o_ld rx_isR 5 (o_const 8 (o_putf rx_isI 7 0 (o_ld rx_isR 5 (o_const 8 (o_putf rx_isZ 7 5 (o_ld rx_isR 5 (o_ld rx_isR 2 (o_getf 7 2 (o_putf rx_isZ 7 2 (o_ld rx_isR 5 (o_ld rx_isR 2 (o_getf 7 1 (o_putf rx_isI 7 1 (o_ld rx_isR 5 (o_ld rx_isR 2 (o_getf 7 7 (o_putf rx_isL 7 7 (o_ld rx_isR 5 (o_ld rx_isL 3 (o_putf rx_isL 7 8 ((vX4_addBridge_51 j)))))))))))))))))))))))))
set_option maxRecDepth 20000 in
theorem wX4_addBridge_0 (hZ : zO b e D A X) (j : Nat → rx_K) (hj : ∀ k pc, [63][k]? = some pc → rx_OK (zV b e D A X) mX4_addBridge 3 pc (j k)) : rx_OK (zV b e D A X) mX4_addBridge 3 0 (vX4_addBridge_0 j) := by
  unfold vX4_addBridge_0
  refine s_aload_n hZ.1 dX4_addBridge_0 rfl ?_
  refine s_callV hZ.1 (Met_X1_newMember hZ) (Nat.le_of_ble_eq_true rfl) vy_X1_newMember zcl1 zw1228 zw1229 (Or.inl zw1996) dX4_addBridge_1 ?_
  refine s_astore hZ.1 dX4_addBridge_4 (Nat.le_of_ble_eq_true rfl) ?_
  refine s_aload hZ.1 dX4_addBridge_6 ?_
  refine s_iconst dX4_addBridge_8 (by decide +kernel) ?_
  refine yp7_0 hZ.1 dX4_addBridge_9 zw946 ?_
  refine s_aload hZ.1 dX4_addBridge_12 ?_
  refine s_iconst dX4_addBridge_14 (by decide +kernel) ?_
  refine yp7_5 hZ.1 dX4_addBridge_15 zw992 ?_
  refine s_aload hZ.1 dX4_addBridge_18 ?_
  refine s_aload_n hZ.1 dX4_addBridge_20 rfl ?_
  refine yg7_2 dX4_addBridge_21 zw964 ?_
  refine yp7_2 hZ.1 dX4_addBridge_24 zw964 ?_
  refine s_aload hZ.1 dX4_addBridge_27 ?_
  refine s_aload_n hZ.1 dX4_addBridge_29 rfl ?_
  refine yg7_1 dX4_addBridge_30 zw955 ?_
  refine yp7_1 hZ.1 dX4_addBridge_33 zw955 ?_
  refine s_aload hZ.1 dX4_addBridge_36 ?_
  refine s_aload_n hZ.1 dX4_addBridge_38 rfl ?_
  refine yg7_7 dX4_addBridge_39 zw1006 ?_
  refine yp7_7 hZ.1 dX4_addBridge_42 zw1006 ?_
  refine s_aload hZ.1 dX4_addBridge_45 ?_
  refine s_lload_n hZ.1 dX4_addBridge_47 rfl ?_
  refine yp7_8 hZ.1 dX4_addBridge_48 zw1016 ?_
  exact (wX4_addBridge_51 hZ j hj)
noncomputable def vhX4_addBridge (j : Nat → rx_K) : List rx_K := [vX4_addBridge_63 j]
theorem vlX4_addBridge (hZ : zO b e D A X) : ∀ n k pc, [63][k]? = some pc → rx_OK (zV b e D A X) mX4_addBridge 3 pc (rx_J (vhX4_addBridge) n k) := rx_loop fun j hj k pc h => by
  match k, h with
  | 0, h =>
    have e9 := Option.some.inj (show some 63 = some pc from h)
    subst e9
    exact wX4_addBridge_63 hZ j hj
  | _ + 1, h => exact absurd h (by simp)
noncomputable def FX4_addBridge : List Nat → rx_H → Option (Nat × rx_H) := rx_ent 7 (vX4_addBridge_0 (rx_J (vhX4_addBridge) 4000000000))
theorem Met_X4_addBridge (hZ : zO b e D A X) : rx_Met (zV b e D A X) 3 yX4_addBridge mX4_addBridge (FX4_addBridge) := rx_entry hZ.1 (wX4_addBridge_0 hZ _ (vlX4_addBridge hZ 4000000000)) (by decide +kernel) rfl (fun h => by cases h)
abbrev mX10_bridges : rx_M := (RX10, cX10_bridges, 3, (some .int), false)
theorem vy_X10_bridges : rx_Y (zV b e D A X) yX10_bridges mX10_bridges 0 := ⟨zw2017, zw425, by decide, by decide +kernel, by decide +kernel, by decide +kernel⟩
noncomputable def vX10_bridges_38 (j : Nat → rx_K) : rx_K := o_ld rx_isI 1 (o_ret1 rx_isI)
set_option maxRecDepth 20000 in
theorem wX10_bridges_38 (hZ : zO b e D A X) (j : Nat → rx_K) (hj : ∀ k pc, [4][k]? = some pc → rx_OK (zV b e D A X) mX10_bridges 0 pc (j k)) : rx_OK (zV b e D A X) mX10_bridges 0 38 (vX10_bridges_38 j) := by
  unfold vX10_bridges_38
  refine s_iload_n hZ.1 dX10_bridges_38 rfl ?_
  exact s_iret hZ.1 rfl dX10_bridges_39
noncomputable def vX10_bridges_30 (j : Nat → rx_K) : rx_K := o_bi (fun x y => x + y) (o_st rx_isI 1 (o_inc 2 (1) ((j 0))))
set_option maxRecDepth 20000 in
theorem wX10_bridges_30 (hZ : zO b e D A X) (j : Nat → rx_K) (hj : ∀ k pc, [4][k]? = some pc → rx_OK (zV b e D A X) mX10_bridges 0 pc (j k)) : rx_OK (zV b e D A X) mX10_bridges 0 30 (vX10_bridges_30 j) := by
  unfold vX10_bridges_30
  refine s_iadd dX10_bridges_30 ?_
  refine s_istore_n hZ.1 dX10_bridges_31 rfl (Nat.le_of_ble_eq_true rfl) ?_
  refine s_iinc hZ.1 dX10_bridges_32 (Nat.le_of_ble_eq_true rfl) ?_
  exact s_goto dX10_bridges_35 (by decide) (hj 0 4 rfl)
noncomputable def vX10_bridges_29 (j : Nat → rx_K) : rx_K := o_const 0 ((vX10_bridges_30 j))
set_option maxRecDepth 20000 in
theorem wX10_bridges_29 (hZ : zO b e D A X) (j : Nat → rx_K) (hj : ∀ k pc, [4][k]? = some pc → rx_OK (zV b e D A X) mX10_bridges 0 pc (j k)) : rx_OK (zV b e D A X) mX10_bridges 0 29 (vX10_bridges_29 j) := by
  unfold vX10_bridges_29
  refine s_iconst dX10_bridges_29 (by decide +kernel) ?_
  exact (wX10_bridges_30 hZ j hj)
noncomputable def vX10_bridges_25 (j : Nat → rx_K) : rx_K := o_const 8 ((vX10_bridges_30 j))
set_option maxRecDepth 20000 in
theorem wX10_bridges_25 (hZ : zO b e D A X) (j : Nat → rx_K) (hj : ∀ k pc, [4][k]? = some pc → rx_OK (zV b e D A X) mX10_bridges 0 pc (j k)) : rx_OK (zV b e D A X) mX10_bridges 0 25 (vX10_bridges_25 j) := by
  unfold vX10_bridges_25
  refine s_iconst dX10_bridges_25 (by decide +kernel) ?_
  exact s_goto dX10_bridges_26 (by decide) (wX10_bridges_30 hZ j hj)
noncomputable def vX10_bridges_12 (j : Nat → rx_K) : rx_K := o_ld rx_isI 1 (o_ld rx_isR 0 (o_getf 10 14 (o_ld rx_isI 2 (o_ald 5 (o_getf 7 5 (o_c1 rx_eq (vX10_bridges_29 j) (vX10_bridges_25 j)))))))
set_option maxRecDepth 20000 in
theorem wX10_bridges_12 (hZ : zO b e D A X) (j : Nat → rx_K) (hj : ∀ k pc, [4][k]? = some pc → rx_OK (zV b e D A X) mX10_bridges 0 pc (j k)) : rx_OK (zV b e D A X) mX10_bridges 0 12 (vX10_bridges_12 j) := by
  unfold vX10_bridges_12
  refine s_iload_n hZ.1 dX10_bridges_12 rfl ?_
  refine s_aload_n hZ.1 dX10_bridges_13 rfl ?_
  refine yg10_14 dX10_bridges_14 zw858 ?_
  refine s_iload_n hZ.1 dX10_bridges_17 rfl ?_
  refine s_aald (tt := 5) rfl rfl dX10_bridges_18 ?_
  refine yg7_5 dX10_bridges_19 zw990 ?_
  exact s_if_eq dX10_bridges_22 (by decide) (wX10_bridges_29 hZ j hj) (wX10_bridges_25 hZ j hj)
noncomputable def vX10_bridges_4 (j : Nat → rx_K) : rx_K := o_ld rx_isI 2 (o_ld rx_isR 0 (o_getf 10 15 (o_c2 rx_lt (vX10_bridges_12 j) (vX10_bridges_38 j))))
set_option maxRecDepth 20000 in
theorem wX10_bridges_4 (hZ : zO b e D A X) (j : Nat → rx_K) (hj : ∀ k pc, [4][k]? = some pc → rx_OK (zV b e D A X) mX10_bridges 0 pc (j k)) : rx_OK (zV b e D A X) mX10_bridges 0 4 (vX10_bridges_4 j) := by
  unfold vX10_bridges_4
  refine s_iload_n hZ.1 dX10_bridges_4 rfl ?_
  refine s_aload_n hZ.1 dX10_bridges_5 rfl ?_
  refine yg10_15 dX10_bridges_6 zw866 ?_
  exact s_icmp_ge dX10_bridges_9 (by decide) (wX10_bridges_38 hZ j hj) (wX10_bridges_12 hZ j hj)
noncomputable def vX10_bridges_0 (j : Nat → rx_K) : rx_K := o_const 0 (o_st rx_isI 1 (o_const 0 (o_st rx_isI 2 ((vX10_bridges_4 j)))))
set_option maxRecDepth 20000 in
theorem wX10_bridges_0 (hZ : zO b e D A X) (j : Nat → rx_K) (hj : ∀ k pc, [4][k]? = some pc → rx_OK (zV b e D A X) mX10_bridges 0 pc (j k)) : rx_OK (zV b e D A X) mX10_bridges 0 0 (vX10_bridges_0 j) := by
  unfold vX10_bridges_0
  refine s_iconst dX10_bridges_0 (by decide +kernel) ?_
  refine s_istore_n hZ.1 dX10_bridges_1 rfl (Nat.le_of_ble_eq_true rfl) ?_
  refine s_iconst dX10_bridges_2 (by decide +kernel) ?_
  refine s_istore_n hZ.1 dX10_bridges_3 rfl (Nat.le_of_ble_eq_true rfl) ?_
  exact (wX10_bridges_4 hZ j hj)
noncomputable def vhX10_bridges (j : Nat → rx_K) : List rx_K := [vX10_bridges_4 j]
theorem vlX10_bridges (hZ : zO b e D A X) : ∀ n k pc, [4][k]? = some pc → rx_OK (zV b e D A X) mX10_bridges 0 pc (rx_J (vhX10_bridges) n k) := rx_loop fun j hj k pc h => by
  match k, h with
  | 0, h =>
    have e9 := Option.some.inj (show some 4 = some pc from h)
    subst e9
    exact wX10_bridges_4 hZ j hj
  | _ + 1, h => exact absurd h (by simp)
noncomputable def FX10_bridges : List Nat → rx_H → Option (Nat × rx_H) := rx_ent 3 (vX10_bridges_0 (rx_J (vhX10_bridges) 4000000000))
theorem Met_X10_bridges (hZ : zO b e D A X) : rx_Met (zV b e D A X) 0 yX10_bridges mX10_bridges (FX10_bridges) := rx_entry hZ.1 (wX10_bridges_0 hZ _ (vlX10_bridges hZ 4000000000)) (by decide +kernel) rfl (fun h => by cases h)
abbrev mX10_method : rx_M := (RX10, cX10_method, 4, (some (.object "LinkHouse$Member")), false)
theorem vy_X10_method : rx_Y (zV b e D A X) yX10_method mX10_method 1 := ⟨zw2013, zw425, by decide, by decide +kernel, by decide +kernel, by decide +kernel⟩
noncomputable def vX10_method_132 (j : Nat → rx_K) : rx_K := o_const 3 (o_ret1 rx_isR)
set_option maxRecDepth 20000 in
theorem wX10_method_132 (hZ : zO b e D A X) (j : Nat → rx_K) (hj : ∀ k pc, [2][k]? = some pc → rx_OK (zV b e D A X) mX10_method 0 pc (j k)) : rx_OK (zV b e D A X) mX10_method 0 132 (vX10_method_132 j) := by
  unfold vX10_method_132
  refine s_null dX10_method_132 ?_
  exact s_aret hZ.1 rfl (Or.inl ⟨_, rfl⟩) dX10_method_133
noncomputable def vX10_method_126 (j : Nat → rx_K) : rx_K := o_inc 2 (1) ((j 0))
set_option maxRecDepth 20000 in
theorem wX10_method_126 (hZ : zO b e D A X) (j : Nat → rx_K) (hj : ∀ k pc, [2][k]? = some pc → rx_OK (zV b e D A X) mX10_method 0 pc (j k)) : rx_OK (zV b e D A X) mX10_method 0 126 (vX10_method_126 j) := by
  unfold vX10_method_126
  refine s_iinc hZ.1 dX10_method_126 (Nat.le_of_ble_eq_true rfl) ?_
  exact s_goto dX10_method_129 (by decide) (hj 0 2 rfl)
noncomputable def vX10_method_124 (j : Nat → rx_K) : rx_K := o_ld rx_isR 3 (o_ret1 rx_isR)
set_option maxRecDepth 20000 in
theorem wX10_method_124 (hZ : zO b e D A X) (j : Nat → rx_K) (hj : ∀ k pc, [2][k]? = some pc → rx_OK (zV b e D A X) mX10_method 0 pc (j k)) : rx_OK (zV b e D A X) mX10_method 0 124 (vX10_method_124 j) := by
  unfold vX10_method_124
  refine s_aload_n hZ.1 dX10_method_124 rfl ?_
  exact s_aret hZ.1 rfl (Or.inl ⟨_, rfl⟩) dX10_method_125
noncomputable def vX10_method_108 (j : Nat → rx_K) : rx_K := o_ld rx_isR 3 (o_getf 7 10 (o_const 24 (o_ald 1 (o_ld rx_isR 1 (o_getf 7 10 (o_const 24 (o_ald 1 (o_bc (fun x y => lg_cmp x y) (o_c1 rx_eq (vX10_method_124 j) (vX10_method_126 j))))))))))
set_option maxRecDepth 20000 in
theorem wX10_method_108 (hZ : zO b e D A X) (j : Nat → rx_K) (hj : ∀ k pc, [2][k]? = some pc → rx_OK (zV b e D A X) mX10_method 0 pc (j k)) : rx_OK (zV b e D A X) mX10_method 0 108 (vX10_method_108 j) := by
  unfold vX10_method_108
  refine s_aload_n hZ.1 dX10_method_108 rfl ?_
  refine yg7_10 dX10_method_109 zw1030 ?_
  refine s_iconst dX10_method_112 (by decide +kernel) ?_
  refine s_lald (tt := 1) rfl dX10_method_113 ?_
  refine s_aload_n hZ.1 dX10_method_114 rfl ?_
  refine yg7_10 dX10_method_115 zw1030 ?_
  refine s_iconst dX10_method_118 (by decide +kernel) ?_
  refine s_lald (tt := 1) rfl dX10_method_119 ?_
  refine s_lcmp dX10_method_120 ?_
  exact s_if_ne dX10_method_121 (by decide) (wX10_method_126 hZ j hj) (wX10_method_124 hZ j hj)
noncomputable def vX10_method_92 (j : Nat → rx_K) : rx_K := o_ld rx_isR 3 (o_getf 7 10 (o_const 16 (o_ald 1 (o_ld rx_isR 1 (o_getf 7 10 (o_const 16 (o_ald 1 (o_bc (fun x y => lg_cmp x y) (o_c1 rx_eq (vX10_method_108 j) (vX10_method_126 j))))))))))
set_option maxRecDepth 20000 in
theorem wX10_method_92 (hZ : zO b e D A X) (j : Nat → rx_K) (hj : ∀ k pc, [2][k]? = some pc → rx_OK (zV b e D A X) mX10_method 0 pc (j k)) : rx_OK (zV b e D A X) mX10_method 0 92 (vX10_method_92 j) := by
  unfold vX10_method_92
  refine s_aload_n hZ.1 dX10_method_92 rfl ?_
  refine yg7_10 dX10_method_93 zw1030 ?_
  refine s_iconst dX10_method_96 (by decide +kernel) ?_
  refine s_lald (tt := 1) rfl dX10_method_97 ?_
  refine s_aload_n hZ.1 dX10_method_98 rfl ?_
  refine yg7_10 dX10_method_99 zw1030 ?_
  refine s_iconst dX10_method_102 (by decide +kernel) ?_
  refine s_lald (tt := 1) rfl dX10_method_103 ?_
  refine s_lcmp dX10_method_104 ?_
  exact s_if_ne dX10_method_105 (by decide) (wX10_method_126 hZ j hj) (wX10_method_108 hZ j hj)
noncomputable def vX10_method_76 (j : Nat → rx_K) : rx_K := o_ld rx_isR 3 (o_getf 7 10 (o_const 8 (o_ald 1 (o_ld rx_isR 1 (o_getf 7 10 (o_const 8 (o_ald 1 (o_bc (fun x y => lg_cmp x y) (o_c1 rx_eq (vX10_method_92 j) (vX10_method_126 j))))))))))
set_option maxRecDepth 20000 in
theorem wX10_method_76 (hZ : zO b e D A X) (j : Nat → rx_K) (hj : ∀ k pc, [2][k]? = some pc → rx_OK (zV b e D A X) mX10_method 0 pc (j k)) : rx_OK (zV b e D A X) mX10_method 0 76 (vX10_method_76 j) := by
  unfold vX10_method_76
  refine s_aload_n hZ.1 dX10_method_76 rfl ?_
  refine yg7_10 dX10_method_77 zw1030 ?_
  refine s_iconst dX10_method_80 (by decide +kernel) ?_
  refine s_lald (tt := 1) rfl dX10_method_81 ?_
  refine s_aload_n hZ.1 dX10_method_82 rfl ?_
  refine yg7_10 dX10_method_83 zw1030 ?_
  refine s_iconst dX10_method_86 (by decide +kernel) ?_
  refine s_lald (tt := 1) rfl dX10_method_87 ?_
  refine s_lcmp dX10_method_88 ?_
  exact s_if_ne dX10_method_89 (by decide) (wX10_method_126 hZ j hj) (wX10_method_92 hZ j hj)
noncomputable def vX10_method_60 (j : Nat → rx_K) : rx_K := o_ld rx_isR 3 (o_getf 7 10 (o_const 0 (o_ald 1 (o_ld rx_isR 1 (o_getf 7 10 (o_const 0 (o_ald 1 (o_bc (fun x y => lg_cmp x y) (o_c1 rx_eq (vX10_method_76 j) (vX10_method_126 j))))))))))
set_option maxRecDepth 20000 in
theorem wX10_method_60 (hZ : zO b e D A X) (j : Nat → rx_K) (hj : ∀ k pc, [2][k]? = some pc → rx_OK (zV b e D A X) mX10_method 0 pc (j k)) : rx_OK (zV b e D A X) mX10_method 0 60 (vX10_method_60 j) := by
  unfold vX10_method_60
  refine s_aload_n hZ.1 dX10_method_60 rfl ?_
  refine yg7_10 dX10_method_61 zw1030 ?_
  refine s_iconst dX10_method_64 (by decide +kernel) ?_
  refine s_lald (tt := 1) rfl dX10_method_65 ?_
  refine s_aload_n hZ.1 dX10_method_66 rfl ?_
  refine yg7_10 dX10_method_67 zw1030 ?_
  refine s_iconst dX10_method_70 (by decide +kernel) ?_
  refine s_lald (tt := 1) rfl dX10_method_71 ?_
  refine s_lcmp dX10_method_72 ?_
  exact s_if_ne dX10_method_73 (by decide) (wX10_method_126 hZ j hj) (wX10_method_76 hZ j hj)
noncomputable def vX10_method_49 (j : Nat → rx_K) : rx_K := o_ld rx_isR 3 (o_getf 7 9 (o_ld rx_isR 1 (o_getf 7 9 (o_c2 rx_eq (vX10_method_60 j) (vX10_method_126 j)))))
set_option maxRecDepth 20000 in
theorem wX10_method_49 (hZ : zO b e D A X) (j : Nat → rx_K) (hj : ∀ k pc, [2][k]? = some pc → rx_OK (zV b e D A X) mX10_method 0 pc (j k)) : rx_OK (zV b e D A X) mX10_method 0 49 (vX10_method_49 j) := by
  unfold vX10_method_49
  refine s_aload_n hZ.1 dX10_method_49 rfl ?_
  refine yg7_9 dX10_method_50 zw1022 ?_
  refine s_aload_n hZ.1 dX10_method_53 rfl ?_
  refine yg7_9 dX10_method_54 zw1022 ?_
  exact s_icmp_ne dX10_method_57 (by decide) (wX10_method_126 hZ j hj) (wX10_method_60 hZ j hj)
noncomputable def vX10_method_41 (j : Nat → rx_K) : rx_K := o_ld rx_isR 3 (o_getf 7 0 (o_const 8 (o_c2 rx_eq (vX10_method_49 j) (vX10_method_126 j))))
set_option maxRecDepth 20000 in
theorem wX10_method_41 (hZ : zO b e D A X) (j : Nat → rx_K) (hj : ∀ k pc, [2][k]? = some pc → rx_OK (zV b e D A X) mX10_method 0 pc (j k)) : rx_OK (zV b e D A X) mX10_method 0 41 (vX10_method_41 j) := by
  unfold vX10_method_41
  refine s_aload_n hZ.1 dX10_method_41 rfl ?_
  refine yg7_0 dX10_method_42 zw947 ?_
  refine s_iconst dX10_method_45 (by decide +kernel) ?_
  exact s_icmp_ne dX10_method_46 (by decide) (wX10_method_126 hZ j hj) (wX10_method_49 hZ j hj)
noncomputable def vX10_method_29 (j : Nat → rx_K) : rx_K := o_ld rx_isR 3 (o_getf 7 8 (o_ld rx_isR 1 (o_getf 7 8 (o_bc (fun x y => lg_cmp x y) (o_c1 rx_eq (vX10_method_41 j) (vX10_method_126 j))))))
set_option maxRecDepth 20000 in
theorem wX10_method_29 (hZ : zO b e D A X) (j : Nat → rx_K) (hj : ∀ k pc, [2][k]? = some pc → rx_OK (zV b e D A X) mX10_method 0 pc (j k)) : rx_OK (zV b e D A X) mX10_method 0 29 (vX10_method_29 j) := by
  unfold vX10_method_29
  refine s_aload_n hZ.1 dX10_method_29 rfl ?_
  refine yg7_8 dX10_method_30 zw1015 ?_
  refine s_aload_n hZ.1 dX10_method_33 rfl ?_
  refine yg7_8 dX10_method_34 zw1015 ?_
  refine s_lcmp dX10_method_37 ?_
  exact s_if_ne dX10_method_38 (by decide) (wX10_method_126 hZ j hj) (wX10_method_41 hZ j hj)
noncomputable def vX10_method_10 (j : Nat → rx_K) : rx_K := o_ld rx_isR 0 (o_getf 10 14 (o_ld rx_isI 2 (o_ald 5 (o_st rx_isR 3 (o_ld rx_isR 3 (o_getf 7 7 (o_ld rx_isR 1 (o_getf 7 7 (o_bc (fun x y => lg_cmp x y) (o_c1 rx_eq (vX10_method_29 j) (vX10_method_126 j)))))))))))
set_option maxRecDepth 20000 in
theorem wX10_method_10 (hZ : zO b e D A X) (j : Nat → rx_K) (hj : ∀ k pc, [2][k]? = some pc → rx_OK (zV b e D A X) mX10_method 0 pc (j k)) : rx_OK (zV b e D A X) mX10_method 0 10 (vX10_method_10 j) := by
  unfold vX10_method_10
  refine s_aload_n hZ.1 dX10_method_10 rfl ?_
  refine yg10_14 dX10_method_11 zw858 ?_
  refine s_iload_n hZ.1 dX10_method_14 rfl ?_
  refine s_aald (tt := 5) rfl rfl dX10_method_15 ?_
  refine s_astore_n hZ.1 dX10_method_16 rfl (Nat.le_of_ble_eq_true rfl) ?_
  refine s_aload_n hZ.1 dX10_method_17 rfl ?_
  refine yg7_7 dX10_method_18 zw1004 ?_
  refine s_aload_n hZ.1 dX10_method_21 rfl ?_
  refine yg7_7 dX10_method_22 zw1004 ?_
  refine s_lcmp dX10_method_25 ?_
  exact s_if_ne dX10_method_26 (by decide) (wX10_method_126 hZ j hj) (wX10_method_29 hZ j hj)
noncomputable def vX10_method_2 (j : Nat → rx_K) : rx_K := o_ld rx_isI 2 (o_ld rx_isR 0 (o_getf 10 15 (o_c2 rx_lt (vX10_method_10 j) (vX10_method_132 j))))
set_option maxRecDepth 20000 in
theorem wX10_method_2 (hZ : zO b e D A X) (j : Nat → rx_K) (hj : ∀ k pc, [2][k]? = some pc → rx_OK (zV b e D A X) mX10_method 0 pc (j k)) : rx_OK (zV b e D A X) mX10_method 0 2 (vX10_method_2 j) := by
  unfold vX10_method_2
  refine s_iload_n hZ.1 dX10_method_2 rfl ?_
  refine s_aload_n hZ.1 dX10_method_3 rfl ?_
  refine yg10_15 dX10_method_4 zw866 ?_
  exact s_icmp_ge dX10_method_7 (by decide) (wX10_method_132 hZ j hj) (wX10_method_10 hZ j hj)
noncomputable def vX10_method_0 (j : Nat → rx_K) : rx_K := o_const 0 (o_st rx_isI 2 ((vX10_method_2 j)))
set_option maxRecDepth 20000 in
theorem wX10_method_0 (hZ : zO b e D A X) (j : Nat → rx_K) (hj : ∀ k pc, [2][k]? = some pc → rx_OK (zV b e D A X) mX10_method 0 pc (j k)) : rx_OK (zV b e D A X) mX10_method 0 0 (vX10_method_0 j) := by
  unfold vX10_method_0
  refine s_iconst dX10_method_0 (by decide +kernel) ?_
  refine s_istore_n hZ.1 dX10_method_1 rfl (Nat.le_of_ble_eq_true rfl) ?_
  exact (wX10_method_2 hZ j hj)
noncomputable def vhX10_method (j : Nat → rx_K) : List rx_K := [vX10_method_2 j]
theorem vlX10_method (hZ : zO b e D A X) : ∀ n k pc, [2][k]? = some pc → rx_OK (zV b e D A X) mX10_method 0 pc (rx_J (vhX10_method) n k) := rx_loop fun j hj k pc h => by
  match k, h with
  | 0, h =>
    have e9 := Option.some.inj (show some 2 = some pc from h)
    subst e9
    exact wX10_method_2 hZ j hj
  | _ + 1, h => exact absurd h (by simp)
noncomputable def FX10_method : List Nat → rx_H → Option (Nat × rx_H) := rx_ent 4 (vX10_method_0 (rx_J (vhX10_method) 4000000000))
theorem Met_X10_method (hZ : zO b e D A X) : rx_Met (zV b e D A X) 0 yX10_method mX10_method (FX10_method) := rx_entry hZ.1 (wX10_method_0 hZ _ (vlX10_method hZ 4000000000)) (by decide +kernel) rfl (fun h => by cases h)
abbrev mX4_bridge : rx_M := (RX4, cX4_bridge, 4, none, false)
theorem vy_X4_bridge : rx_Y (zV b e D A X) yX4_bridge mX4_bridge 3 := ⟨zw2009, zw420, by decide, by decide +kernel, by decide +kernel, by decide +kernel⟩
noncomputable def vX4_bridge_59 : rx_K := o_ld rx_isR 0 (o_getf 4 1 (o_ld rx_isR 1 (o_ld rx_isR 2 (o_ld rx_isR 3 (o_getf 7 8 (o_callS 4 FX4_addBridge (o_pop (o_ret0))))))))
set_option maxRecDepth 20000 in
theorem wX4_bridge_59 (hZ : zO b e D A X) : rx_OK (zV b e D A X) mX4_bridge 4 59 vX4_bridge_59 := by
  unfold vX4_bridge_59
  refine s_aload_n hZ.1 dX4_bridge_59 rfl ?_
  refine yg4_1 dX4_bridge_60 zw639 ?_
  refine s_aload_n hZ.1 dX4_bridge_63 rfl ?_
  refine s_aload_n hZ.1 dX4_bridge_64 rfl ?_
  refine s_aload_n hZ.1 dX4_bridge_65 rfl ?_
  refine yg7_8 dX4_bridge_66 zw1016 ?_
  refine s_callS hZ.1 (Met_X4_addBridge hZ) (Nat.le_of_ble_eq_true rfl) vy_X4_addBridge zw2019 (Or.inl zw2018) dX4_bridge_69 ?_
  refine s_pop hZ.1 dX4_bridge_72 ?_
  exact s_vret rfl dX4_bridge_73
noncomputable def vX4_bridge_48 : rx_K := o_ld rx_isR 0 (o_const 24 (o_ld rx_isR 1 (o_getf 10 2 (o_callV 2 4 FX4_fail (o_pop (o_ret0))))))
set_option maxRecDepth 20000 in
theorem wX4_bridge_48 (hZ : zO b e D A X) : rx_OK (zV b e D A X) mX4_bridge 4 48 vX4_bridge_48 := by
  unfold vX4_bridge_48
  refine s_aload_n hZ.1 dX4_bridge_48 rfl ?_
  refine s_iconst dX4_bridge_49 (by decide +kernel) ?_
  refine s_aload_n hZ.1 dX4_bridge_50 rfl ?_
  refine yg10_2 dX4_bridge_51 zw779 ?_
  refine s_callV hZ.1 (Met_X4_fail hZ) (Nat.le_of_ble_eq_true rfl) vy_X4_fail zcl4 zw1898 zw43 (Or.inl zw1896) dX4_bridge_54 ?_
  refine s_pop hZ.1 dX4_bridge_57 ?_
  exact s_vret rfl dX4_bridge_58
noncomputable def vX4_bridge_39 : rx_K := o_ld rx_isR 1 (o_callV 0 10 FX10_bridges (o_const 96 (o_c2 rx_lt vX4_bridge_59 vX4_bridge_48)))
set_option maxRecDepth 20000 in
theorem wX4_bridge_39 (hZ : zO b e D A X) : rx_OK (zV b e D A X) mX4_bridge 4 39 vX4_bridge_39 := by
  unfold vX4_bridge_39
  refine s_aload_n hZ.1 dX4_bridge_39 rfl ?_
  refine s_callV hZ.1 (Met_X10_bridges hZ) (Nat.le_of_ble_eq_true rfl) vy_X10_bridges zcl10 zw2015 zw2016 (Or.inl zw2014) dX4_bridge_40 ?_
  refine s_bipush dX4_bridge_43 (by decide +kernel) ?_
  exact s_icmp_lt dX4_bridge_45 (by decide) (wX4_bridge_59 hZ) (wX4_bridge_48 hZ)
noncomputable def vX4_bridge_38 : rx_K := o_ret0
set_option maxRecDepth 20000 in
theorem wX4_bridge_38 (hZ : zO b e D A X) : rx_OK (zV b e D A X) mX4_bridge 4 38 vX4_bridge_38 := by
  unfold vX4_bridge_38
  exact s_vret rfl dX4_bridge_38
noncomputable def vX4_bridge_31 : rx_K := o_ld rx_isR 0 (o_getf 4 2 (o_c1 rx_eq vX4_bridge_39 vX4_bridge_38))
set_option maxRecDepth 20000 in
theorem wX4_bridge_31 (hZ : zO b e D A X) : rx_OK (zV b e D A X) mX4_bridge 4 31 vX4_bridge_31 := by
  unfold vX4_bridge_31
  refine s_aload_n hZ.1 dX4_bridge_31 rfl ?_
  refine yg4_2 dX4_bridge_32 zw640 ?_
  exact s_if_eq dX4_bridge_35 (by decide) (wX4_bridge_39 hZ) (wX4_bridge_38 hZ)
noncomputable def vX4_bridge_23 : rx_K := o_ld rx_isR 1 (o_ld rx_isR 3 (o_callV 1 10 FX10_method (o_nul vX4_bridge_31 vX4_bridge_38)))
set_option maxRecDepth 20000 in
theorem wX4_bridge_23 (hZ : zO b e D A X) : rx_OK (zV b e D A X) mX4_bridge 4 23 vX4_bridge_23 := by
  unfold vX4_bridge_23
  refine s_aload_n hZ.1 dX4_bridge_23 rfl ?_
  refine s_aload_n hZ.1 dX4_bridge_24 rfl ?_
  refine s_callV hZ.1 (Met_X10_method hZ) (Nat.le_of_ble_eq_true rfl) vy_X10_method zcl10 zw2011 zw2012 (Or.inl zw2010) dX4_bridge_25 ?_
  exact s_ifnonnull dX4_bridge_28 (by decide) (wX4_bridge_38 hZ) (wX4_bridge_31 hZ)
noncomputable def vX4_bridge_11 : rx_K := o_ld rx_isR 3 (o_getf 7 8 (o_ld rx_isR 2 (o_getf 7 8 (o_bc (fun x y => lg_cmp x y) (o_c1 rx_eq vX4_bridge_38 vX4_bridge_23)))))
set_option maxRecDepth 20000 in
theorem wX4_bridge_11 (hZ : zO b e D A X) : rx_OK (zV b e D A X) mX4_bridge 4 11 vX4_bridge_11 := by
  unfold vX4_bridge_11
  refine s_aload_n hZ.1 dX4_bridge_11 rfl ?_
  refine yg7_8 dX4_bridge_12 zw1016 ?_
  refine s_aload_n hZ.1 dX4_bridge_15 rfl ?_
  refine yg7_8 dX4_bridge_16 zw1016 ?_
  refine s_lcmp dX4_bridge_19 ?_
  exact s_if_eq dX4_bridge_20 (by decide) (wX4_bridge_38 hZ) (wX4_bridge_23 hZ)
noncomputable def vX4_bridge_4 : rx_K := o_ld rx_isR 3 (o_getf 7 2 (o_c1 rx_eq vX4_bridge_11 vX4_bridge_38))
set_option maxRecDepth 20000 in
theorem wX4_bridge_4 (hZ : zO b e D A X) : rx_OK (zV b e D A X) mX4_bridge 4 4 vX4_bridge_4 := by
  unfold vX4_bridge_4
  refine s_aload_n hZ.1 dX4_bridge_4 rfl ?_
  refine yg7_2 dX4_bridge_5 zw964 ?_
  exact s_if_ne dX4_bridge_8 (by decide) (wX4_bridge_38 hZ) (wX4_bridge_11 hZ)
noncomputable def vX4_bridge_0 : rx_K := o_ld rx_isR 3 (o_nul vX4_bridge_38 vX4_bridge_4)
set_option maxRecDepth 20000 in
theorem wX4_bridge_0 (hZ : zO b e D A X) : rx_OK (zV b e D A X) mX4_bridge 4 0 vX4_bridge_0 := by
  unfold vX4_bridge_0
  refine s_aload_n hZ.1 dX4_bridge_0 rfl ?_
  exact s_ifnull dX4_bridge_1 (by decide) (wX4_bridge_38 hZ) (wX4_bridge_4 hZ)
noncomputable def FX4_bridge : List Nat → rx_H → Option (Nat × rx_H) := rx_ent 4 vX4_bridge_0
theorem Met_X4_bridge (hZ : zO b e D A X) : rx_Met (zV b e D A X) 4 yX4_bridge mX4_bridge (FX4_bridge) := rx_entry hZ.1 (wX4_bridge_0 hZ) (by decide +kernel) rfl (fun h => by cases h)
abbrev mX7_ofObjects : rx_M := (RX7, cX7_ofObjects, 1, (some .boolean), false)
theorem vy_X7_ofObjects : rx_Y (zV b e D A X) yX7_ofObjects mX7_ofObjects 0 := ⟨zw2005, zw426, by decide, by decide +kernel, by decide +kernel, by decide +kernel⟩
noncomputable def vX7_ofObjects_19 : rx_K := o_ret1 rx_isZ
set_option maxRecDepth 20000 in
theorem wX7_ofObjects_19 (hZ : zO b e D A X) : rx_OK (zV b e D A X) mX7_ofObjects 0 19 vX7_ofObjects_19 := by
  unfold vX7_ofObjects_19
  exact s_zret rx_z_ok rfl dX7_ofObjects_19
noncomputable def vX7_ofObjects_18 : rx_K := o_const 0 (vX7_ofObjects_19)
set_option maxRecDepth 20000 in
theorem wX7_ofObjects_18 (hZ : zO b e D A X) : rx_OK (zV b e D A X) mX7_ofObjects 0 18 vX7_ofObjects_18 := by
  unfold vX7_ofObjects_18
  refine s_iconst dX7_ofObjects_18 (by decide +kernel) ?_
  exact (wX7_ofObjects_19 hZ)
noncomputable def vX7_ofObjects_14 : rx_K := o_const 8 (vX7_ofObjects_19)
set_option maxRecDepth 20000 in
theorem wX7_ofObjects_14 (hZ : zO b e D A X) : rx_OK (zV b e D A X) mX7_ofObjects 0 14 vX7_ofObjects_14 := by
  unfold vX7_ofObjects_14
  refine s_iconst dX7_ofObjects_14 (by decide +kernel) ?_
  exact s_goto dX7_ofObjects_15 (by decide) (wX7_ofObjects_19 hZ)
noncomputable def vX7_ofObjects_7 : rx_K := o_ld rx_isR 0 (o_getf 7 1 (o_c1 rx_eq vX7_ofObjects_18 vX7_ofObjects_14))
set_option maxRecDepth 20000 in
theorem wX7_ofObjects_7 (hZ : zO b e D A X) : rx_OK (zV b e D A X) mX7_ofObjects 0 7 vX7_ofObjects_7 := by
  unfold vX7_ofObjects_7
  refine s_aload_n hZ.1 dX7_ofObjects_7 rfl ?_
  refine yg7_1 dX7_ofObjects_8 zw954 ?_
  exact s_if_eq dX7_ofObjects_11 (by decide) (wX7_ofObjects_18 hZ) (wX7_ofObjects_14 hZ)
noncomputable def vX7_ofObjects_0 : rx_K := o_ld rx_isR 0 (o_getf 7 2 (o_c1 rx_eq vX7_ofObjects_7 vX7_ofObjects_18))
set_option maxRecDepth 20000 in
theorem wX7_ofObjects_0 (hZ : zO b e D A X) : rx_OK (zV b e D A X) mX7_ofObjects 0 0 vX7_ofObjects_0 := by
  unfold vX7_ofObjects_0
  refine s_aload_n hZ.1 dX7_ofObjects_0 rfl ?_
  refine yg7_2 dX7_ofObjects_1 zw961 ?_
  exact s_if_ne dX7_ofObjects_4 (by decide) (wX7_ofObjects_18 hZ) (wX7_ofObjects_7 hZ)
noncomputable def FX7_ofObjects : List Nat → rx_H → Option (Nat × rx_H) := rx_ent 1 vX7_ofObjects_0
theorem Met_X7_ofObjects (hZ : zO b e D A X) : rx_Met (zV b e D A X) 0 yX7_ofObjects mX7_ofObjects (FX7_ofObjects) := rx_entry hZ.1 (wX7_ofObjects_0 hZ) (by decide +kernel) rfl (fun h => by cases h)
abbrev mX4_bridges : rx_M := (RX4, cX4_bridges, 9, none, false)
theorem vy_X4_bridges : rx_Y (zV b e D A X) yX4_bridges mX4_bridges 2 := ⟨zw2001, zw420, by decide, by decide +kernel, by decide +kernel, by decide +kernel⟩
noncomputable def vX4_bridges_183 (j : Nat → rx_K) : rx_K := o_ret0
set_option maxRecDepth 20000 in
theorem wX4_bridges_183 (hZ : zO b e D A X) (j : Nat → rx_K) (hj : ∀ k pc, [8, 69, 135][k]? = some pc → rx_OK (zV b e D A X) mX4_bridges 5 pc (j k)) : rx_OK (zV b e D A X) mX4_bridges 5 183 (vX4_bridges_183 j) := by
  unfold vX4_bridges_183
  exact s_vret rfl dX4_bridges_183
noncomputable def vX4_bridges_177 (j : Nat → rx_K) : rx_K := o_inc 4 (1) ((j 0))
set_option maxRecDepth 20000 in
theorem wX4_bridges_177 (hZ : zO b e D A X) (j : Nat → rx_K) (hj : ∀ k pc, [8, 69, 135][k]? = some pc → rx_OK (zV b e D A X) mX4_bridges 5 pc (j k)) : rx_OK (zV b e D A X) mX4_bridges 5 177 (vX4_bridges_177 j) := by
  unfold vX4_bridges_177
  refine s_iinc hZ.1 dX4_bridges_177 (Nat.le_of_ble_eq_true rfl) ?_
  exact s_goto dX4_bridges_180 (by decide) (hj 0 8 rfl)
noncomputable def vX4_bridges_142 (j : Nat → rx_K) : rx_K := o_ld rx_isR 0 (o_ld rx_isR 1 (o_ld rx_isR 5 (o_ld rx_isR 0 (o_ld rx_isR 0 (o_getf 4 0 (o_getf 11 10 (o_ld rx_isI 2 (o_const 512 (o_bi (fun x y => x * y) (o_ld rx_isI 8 (o_bi (fun x y => x + y) (o_ald 0 (o_ld rx_isI 2 (o_ld rx_isR 5 (o_callV 3 4 FX4_aboveIn (o_callV 3 4 FX4_bridge (o_inc 8 (1) ((j 2)))))))))))))))))))
set_option maxRecDepth 20000 in
theorem wX4_bridges_142 (hZ : zO b e D A X) (j : Nat → rx_K) (hj : ∀ k pc, [8, 69, 135][k]? = some pc → rx_OK (zV b e D A X) mX4_bridges 5 pc (j k)) : rx_OK (zV b e D A X) mX4_bridges 5 142 (vX4_bridges_142 j) := by
  unfold vX4_bridges_142
  refine s_aload_n hZ.1 dX4_bridges_142 rfl ?_
  refine s_aload_n hZ.1 dX4_bridges_143 rfl ?_
  refine s_aload hZ.1 dX4_bridges_144 ?_
  refine s_aload_n hZ.1 dX4_bridges_146 rfl ?_
  refine s_aload_n hZ.1 dX4_bridges_147 rfl ?_
  refine yg4_0 dX4_bridges_148 zw638 ?_
  refine yg11_10 dX4_bridges_151 zw1283 ?_
  refine s_iload_n hZ.1 dX4_bridges_154 rfl ?_
  refine s_bipush dX4_bridges_155 (by decide +kernel) ?_
  refine s_imul dX4_bridges_157 ?_
  refine s_iload hZ.1 dX4_bridges_158 ?_
  refine s_iadd dX4_bridges_160 ?_
  refine s_iald (tt := 0) rfl dX4_bridges_161 ?_
  refine s_iload_n hZ.1 dX4_bridges_162 rfl ?_
  refine s_aload hZ.1 dX4_bridges_163 ?_
  refine s_callV hZ.1 (Met_X4_aboveIn hZ) (Nat.le_of_ble_eq_true rfl) vy_X4_aboveIn zcl4 zw1962 zw51 (Or.inl zw1960) dX4_bridges_165 ?_
  refine s_callV hZ.1 (Met_X4_bridge hZ) (Nat.le_of_ble_eq_true rfl) vy_X4_bridge zcl4 zw2008 zw55 (Or.inl zw2006) dX4_bridges_168 ?_
  refine s_iinc hZ.1 dX4_bridges_171 (Nat.le_of_ble_eq_true rfl) ?_
  exact s_goto dX4_bridges_174 (by decide) (hj 2 135 rfl)
noncomputable def vX4_bridges_135 (j : Nat → rx_K) : rx_K := o_ld rx_isI 8 (o_ld rx_isI 7 (o_c2 rx_lt (vX4_bridges_142 j) (vX4_bridges_177 j)))
set_option maxRecDepth 20000 in
theorem wX4_bridges_135 (hZ : zO b e D A X) (j : Nat → rx_K) (hj : ∀ k pc, [8, 69, 135][k]? = some pc → rx_OK (zV b e D A X) mX4_bridges 5 pc (j k)) : rx_OK (zV b e D A X) mX4_bridges 5 135 (vX4_bridges_135 j) := by
  unfold vX4_bridges_135
  refine s_iload hZ.1 dX4_bridges_135 ?_
  refine s_iload hZ.1 dX4_bridges_137 ?_
  exact s_icmp_ge dX4_bridges_139 (by decide) (wX4_bridges_177 hZ j hj) (wX4_bridges_142 hZ j hj)
noncomputable def vX4_bridges_122 (j : Nat → rx_K) : rx_K := o_ld rx_isR 0 (o_getf 4 0 (o_ld rx_isI 2 (o_callV 1 11 FX11_faces (o_st rx_isI 7 (o_const 0 (o_st rx_isI 8 ((vX4_bridges_135 j))))))))
set_option maxRecDepth 20000 in
theorem wX4_bridges_122 (hZ : zO b e D A X) (j : Nat → rx_K) (hj : ∀ k pc, [8, 69, 135][k]? = some pc → rx_OK (zV b e D A X) mX4_bridges 5 pc (j k)) : rx_OK (zV b e D A X) mX4_bridges 5 122 (vX4_bridges_122 j) := by
  unfold vX4_bridges_122
  refine s_aload_n hZ.1 dX4_bridges_122 rfl ?_
  refine yg4_0 dX4_bridges_123 zw638 ?_
  refine s_iload_n hZ.1 dX4_bridges_126 rfl ?_
  refine s_callV hZ.1 (Met_X11_faces hZ) (Nat.le_of_ble_eq_true rfl) vy_X11_faces zcl11 zw1984 zw1985 (Or.inl zw1983) dX4_bridges_127 ?_
  refine s_istore hZ.1 dX4_bridges_130 (Nat.le_of_ble_eq_true rfl) ?_
  refine s_iconst dX4_bridges_132 (by decide +kernel) ?_
  refine s_istore hZ.1 dX4_bridges_133 (Nat.le_of_ble_eq_true rfl) ?_
  exact (wX4_bridges_135 hZ j hj)
noncomputable def vX4_bridges_88 (j : Nat → rx_K) : rx_K := o_ld rx_isR 0 (o_ld rx_isR 1 (o_ld rx_isR 5 (o_ld rx_isR 0 (o_ld rx_isI 6 (o_ld rx_isI 2 (o_ld rx_isR 5 (o_callV 3 4 FX4_aboveIn (o_callV 3 4 FX4_bridge (o_ld rx_isR 0 (o_getf 4 0 (o_getf 11 3 (o_ld rx_isI 6 (o_ald 0 (o_st rx_isI 6 (o_inc 7 (1) ((j 1)))))))))))))))))
set_option maxRecDepth 20000 in
theorem wX4_bridges_88 (hZ : zO b e D A X) (j : Nat → rx_K) (hj : ∀ k pc, [8, 69, 135][k]? = some pc → rx_OK (zV b e D A X) mX4_bridges 5 pc (j k)) : rx_OK (zV b e D A X) mX4_bridges 5 88 (vX4_bridges_88 j) := by
  unfold vX4_bridges_88
  refine s_aload_n hZ.1 dX4_bridges_88 rfl ?_
  refine s_aload_n hZ.1 dX4_bridges_89 rfl ?_
  refine s_aload hZ.1 dX4_bridges_90 ?_
  refine s_aload_n hZ.1 dX4_bridges_92 rfl ?_
  refine s_iload hZ.1 dX4_bridges_93 ?_
  refine s_iload_n hZ.1 dX4_bridges_95 rfl ?_
  refine s_aload hZ.1 dX4_bridges_96 ?_
  refine s_callV hZ.1 (Met_X4_aboveIn hZ) (Nat.le_of_ble_eq_true rfl) vy_X4_aboveIn zcl4 zw1962 zw51 (Or.inl zw1960) dX4_bridges_98 ?_
  refine s_callV hZ.1 (Met_X4_bridge hZ) (Nat.le_of_ble_eq_true rfl) vy_X4_bridge zcl4 zw2008 zw55 (Or.inl zw2006) dX4_bridges_101 ?_
  refine s_aload_n hZ.1 dX4_bridges_104 rfl ?_
  refine yg4_0 dX4_bridges_105 zw638 ?_
  refine yg11_3 dX4_bridges_108 zw1266 ?_
  refine s_iload hZ.1 dX4_bridges_111 ?_
  refine s_iald (tt := 0) rfl dX4_bridges_113 ?_
  refine s_istore hZ.1 dX4_bridges_114 (Nat.le_of_ble_eq_true rfl) ?_
  refine s_iinc hZ.1 dX4_bridges_116 (Nat.le_of_ble_eq_true rfl) ?_
  exact s_goto dX4_bridges_119 (by decide) (hj 1 69 rfl)
noncomputable def vX4_bridges_83 (j : Nat → rx_K) : rx_K := o_ld rx_isI 6 (o_c1 rx_lt (vX4_bridges_122 j) (vX4_bridges_88 j))
set_option maxRecDepth 20000 in
theorem wX4_bridges_83 (hZ : zO b e D A X) (j : Nat → rx_K) (hj : ∀ k pc, [8, 69, 135][k]? = some pc → rx_OK (zV b e D A X) mX4_bridges 5 pc (j k)) : rx_OK (zV b e D A X) mX4_bridges 5 83 (vX4_bridges_83 j) := by
  unfold vX4_bridges_83
  refine s_iload hZ.1 dX4_bridges_83 ?_
  exact s_if_lt dX4_bridges_85 (by decide) (wX4_bridges_122 hZ j hj) (wX4_bridges_88 hZ j hj)
noncomputable def vX4_bridges_69 (j : Nat → rx_K) : rx_K := o_ld rx_isI 7 (o_ld rx_isR 0 (o_getf 4 0 (o_getf 11 4 (o_ld rx_isI 2 (o_ald 0 (o_c2 rx_lt (vX4_bridges_83 j) (vX4_bridges_122 j)))))))
set_option maxRecDepth 20000 in
theorem wX4_bridges_69 (hZ : zO b e D A X) (j : Nat → rx_K) (hj : ∀ k pc, [8, 69, 135][k]? = some pc → rx_OK (zV b e D A X) mX4_bridges 5 pc (j k)) : rx_OK (zV b e D A X) mX4_bridges 5 69 (vX4_bridges_69 j) := by
  unfold vX4_bridges_69
  refine s_iload hZ.1 dX4_bridges_69 ?_
  refine s_aload_n hZ.1 dX4_bridges_71 rfl ?_
  refine yg4_0 dX4_bridges_72 zw638 ?_
  refine yg11_4 dX4_bridges_75 zw1269 ?_
  refine s_iload_n hZ.1 dX4_bridges_78 rfl ?_
  refine s_iald (tt := 0) rfl dX4_bridges_79 ?_
  exact s_icmp_ge dX4_bridges_80 (by decide) (wX4_bridges_122 hZ j hj) (wX4_bridges_83 hZ j hj)
noncomputable def vX4_bridges_55 (j : Nat → rx_K) : rx_K := o_ld rx_isR 0 (o_getf 4 0 (o_getf 11 3 (o_ld rx_isI 2 (o_ald 0 (o_st rx_isI 6 (o_const 0 (o_st rx_isI 7 ((vX4_bridges_69 j)))))))))
set_option maxRecDepth 20000 in
theorem wX4_bridges_55 (hZ : zO b e D A X) (j : Nat → rx_K) (hj : ∀ k pc, [8, 69, 135][k]? = some pc → rx_OK (zV b e D A X) mX4_bridges 5 pc (j k)) : rx_OK (zV b e D A X) mX4_bridges 5 55 (vX4_bridges_55 j) := by
  unfold vX4_bridges_55
  refine s_aload_n hZ.1 dX4_bridges_55 rfl ?_
  refine yg4_0 dX4_bridges_56 zw638 ?_
  refine yg11_3 dX4_bridges_59 zw1266 ?_
  refine s_iload_n hZ.1 dX4_bridges_62 rfl ?_
  refine s_iald (tt := 0) rfl dX4_bridges_63 ?_
  refine s_istore hZ.1 dX4_bridges_64 (Nat.le_of_ble_eq_true rfl) ?_
  refine s_iconst dX4_bridges_66 (by decide +kernel) ?_
  refine s_istore hZ.1 dX4_bridges_67 (Nat.le_of_ble_eq_true rfl) ?_
  exact (wX4_bridges_69 hZ j hj)
noncomputable def vX4_bridges_47 (j : Nat → rx_K) : rx_K := o_ld rx_isR 5 (o_getf 7 4 (o_c1 rx_eq (vX4_bridges_55 j) (vX4_bridges_177 j)))
set_option maxRecDepth 20000 in
theorem wX4_bridges_47 (hZ : zO b e D A X) (j : Nat → rx_K) (hj : ∀ k pc, [8, 69, 135][k]? = some pc → rx_OK (zV b e D A X) mX4_bridges 5 pc (j k)) : rx_OK (zV b e D A X) mX4_bridges 5 47 (vX4_bridges_47 j) := by
  unfold vX4_bridges_47
  refine s_aload hZ.1 dX4_bridges_47 ?_
  refine yg7_4 dX4_bridges_49 zw980 ?_
  exact s_if_ne dX4_bridges_52 (by decide) (wX4_bridges_177 hZ j hj) (wX4_bridges_55 hZ j hj)
noncomputable def vX4_bridges_39 (j : Nat → rx_K) : rx_K := o_ld rx_isR 5 (o_callV 0 7 FX7_ofObjects (o_c1 rx_eq (vX4_bridges_177 j) (vX4_bridges_47 j)))
set_option maxRecDepth 20000 in
theorem wX4_bridges_39 (hZ : zO b e D A X) (j : Nat → rx_K) (hj : ∀ k pc, [8, 69, 135][k]? = some pc → rx_OK (zV b e D A X) mX4_bridges 5 pc (j k)) : rx_OK (zV b e D A X) mX4_bridges 5 39 (vX4_bridges_39 j) := by
  unfold vX4_bridges_39
  refine s_aload hZ.1 dX4_bridges_39 ?_
  refine s_callV hZ.1 (Met_X7_ofObjects hZ) (Nat.le_of_ble_eq_true rfl) vy_X7_ofObjects zcl7 zw2003 zw2004 (Or.inl zw2002) dX4_bridges_41 ?_
  exact s_if_eq dX4_bridges_44 (by decide) (wX4_bridges_177 hZ j hj) (wX4_bridges_47 hZ j hj)
noncomputable def vX4_bridges_21 (j : Nat → rx_K) : rx_K := o_ld rx_isR 1 (o_getf 10 14 (o_ld rx_isI 4 (o_ald 5 (o_st rx_isR 5 (o_ld rx_isR 5 (o_getf 7 0 (o_const 8 (o_c2 rx_eq (vX4_bridges_39 j) (vX4_bridges_177 j)))))))))
set_option maxRecDepth 20000 in
theorem wX4_bridges_21 (hZ : zO b e D A X) (j : Nat → rx_K) (hj : ∀ k pc, [8, 69, 135][k]? = some pc → rx_OK (zV b e D A X) mX4_bridges 5 pc (j k)) : rx_OK (zV b e D A X) mX4_bridges 5 21 (vX4_bridges_21 j) := by
  unfold vX4_bridges_21
  refine s_aload_n hZ.1 dX4_bridges_21 rfl ?_
  refine yg10_14 dX4_bridges_22 zw864 ?_
  refine s_iload hZ.1 dX4_bridges_25 ?_
  refine s_aald (tt := 5) rfl rfl dX4_bridges_27 ?_
  refine s_astore hZ.1 dX4_bridges_28 (Nat.le_of_ble_eq_true rfl) ?_
  refine s_aload hZ.1 dX4_bridges_30 ?_
  refine yg7_0 dX4_bridges_32 zw946 ?_
  refine s_iconst dX4_bridges_35 (by decide +kernel) ?_
  exact s_icmp_ne dX4_bridges_36 (by decide) (wX4_bridges_177 hZ j hj) (wX4_bridges_39 hZ j hj)
noncomputable def vX4_bridges_14 (j : Nat → rx_K) : rx_K := o_ld rx_isR 0 (o_getf 4 2 (o_c1 rx_eq (vX4_bridges_21 j) (vX4_bridges_183 j)))
set_option maxRecDepth 20000 in
theorem wX4_bridges_14 (hZ : zO b e D A X) (j : Nat → rx_K) (hj : ∀ k pc, [8, 69, 135][k]? = some pc → rx_OK (zV b e D A X) mX4_bridges 5 pc (j k)) : rx_OK (zV b e D A X) mX4_bridges 5 14 (vX4_bridges_14 j) := by
  unfold vX4_bridges_14
  refine s_aload_n hZ.1 dX4_bridges_14 rfl ?_
  refine yg4_2 dX4_bridges_15 zw640 ?_
  exact s_if_ne dX4_bridges_18 (by decide) (wX4_bridges_183 hZ j hj) (wX4_bridges_21 hZ j hj)
noncomputable def vX4_bridges_8 (j : Nat → rx_K) : rx_K := o_ld rx_isI 4 (o_ld rx_isI 3 (o_c2 rx_lt (vX4_bridges_14 j) (vX4_bridges_183 j)))
set_option maxRecDepth 20000 in
theorem wX4_bridges_8 (hZ : zO b e D A X) (j : Nat → rx_K) (hj : ∀ k pc, [8, 69, 135][k]? = some pc → rx_OK (zV b e D A X) mX4_bridges 5 pc (j k)) : rx_OK (zV b e D A X) mX4_bridges 5 8 (vX4_bridges_8 j) := by
  unfold vX4_bridges_8
  refine s_iload hZ.1 dX4_bridges_8 ?_
  refine s_iload_n hZ.1 dX4_bridges_10 rfl ?_
  exact s_icmp_ge dX4_bridges_11 (by decide) (wX4_bridges_183 hZ j hj) (wX4_bridges_14 hZ j hj)
noncomputable def vX4_bridges_0 (j : Nat → rx_K) : rx_K := o_ld rx_isR 1 (o_getf 10 15 (o_st rx_isI 3 (o_const 0 (o_st rx_isI 4 ((vX4_bridges_8 j))))))
set_option maxRecDepth 20000 in
theorem wX4_bridges_0 (hZ : zO b e D A X) (j : Nat → rx_K) (hj : ∀ k pc, [8, 69, 135][k]? = some pc → rx_OK (zV b e D A X) mX4_bridges 5 pc (j k)) : rx_OK (zV b e D A X) mX4_bridges 5 0 (vX4_bridges_0 j) := by
  unfold vX4_bridges_0
  refine s_aload_n hZ.1 dX4_bridges_0 rfl ?_
  refine yg10_15 dX4_bridges_1 zw872 ?_
  refine s_istore_n hZ.1 dX4_bridges_4 rfl (Nat.le_of_ble_eq_true rfl) ?_
  refine s_iconst dX4_bridges_5 (by decide +kernel) ?_
  refine s_istore hZ.1 dX4_bridges_6 (Nat.le_of_ble_eq_true rfl) ?_
  exact (wX4_bridges_8 hZ j hj)
noncomputable def vhX4_bridges (j : Nat → rx_K) : List rx_K := [vX4_bridges_8 j, vX4_bridges_69 j, vX4_bridges_135 j]
theorem vlX4_bridges (hZ : zO b e D A X) : ∀ n k pc, [8, 69, 135][k]? = some pc → rx_OK (zV b e D A X) mX4_bridges 5 pc (rx_J (vhX4_bridges) n k) := rx_loop fun j hj k pc h => by
  match k, h with
  | 0, h =>
    have e9 := Option.some.inj (show some 8 = some pc from h)
    subst e9
    exact wX4_bridges_8 hZ j hj
  | 1, h =>
    have e9 := Option.some.inj (show some 69 = some pc from h)
    subst e9
    exact wX4_bridges_69 hZ j hj
  | 2, h =>
    have e9 := Option.some.inj (show some 135 = some pc from h)
    subst e9
    exact wX4_bridges_135 hZ j hj
  | _ + 3, h => exact absurd h (by simp)
noncomputable def FX4_bridges : List Nat → rx_H → Option (Nat × rx_H) := rx_ent 9 (vX4_bridges_0 (rx_J (vhX4_bridges) 4000000000))
theorem Met_X4_bridges (hZ : zO b e D A X) : rx_Met (zV b e D A X) 5 yX4_bridges mX4_bridges (FX4_bridges) := rx_entry hZ.1 (wX4_bridges_0 hZ _ (vlX4_bridges hZ 4000000000)) (by decide +kernel) rfl (fun h => by cases h)
abbrev mX4_barred : rx_M := (RX4, cX4_barred, 4, (some .boolean), false)
theorem vy_X4_barred : rx_Y (zV b e D A X) yX4_barred mX4_barred 2 := ⟨zw1905, zw420, by decide, by decide +kernel, by decide +kernel, by decide +kernel⟩
noncomputable def vX4_barred_61 : rx_K := o_ret1 rx_isZ
set_option maxRecDepth 20000 in
theorem wX4_barred_61 (hZ : zO b e D A X) : rx_OK (zV b e D A X) mX4_barred 1 61 vX4_barred_61 := by
  unfold vX4_barred_61
  exact s_zret rx_z_ok rfl dX4_barred_61
noncomputable def vX4_barred_60 : rx_K := o_const 0 (vX4_barred_61)
set_option maxRecDepth 20000 in
theorem wX4_barred_60 (hZ : zO b e D A X) : rx_OK (zV b e D A X) mX4_barred 1 60 vX4_barred_60 := by
  unfold vX4_barred_60
  refine s_iconst dX4_barred_60 (by decide +kernel) ?_
  exact (wX4_barred_61 hZ)
noncomputable def vX4_barred_56 : rx_K := o_const 8 (vX4_barred_61)
set_option maxRecDepth 20000 in
theorem wX4_barred_56 (hZ : zO b e D A X) : rx_OK (zV b e D A X) mX4_barred 1 56 vX4_barred_56 := by
  unfold vX4_barred_56
  refine s_iconst dX4_barred_56 (by decide +kernel) ?_
  exact s_goto dX4_barred_57 (by decide) (wX4_barred_61 hZ)
noncomputable def vX4_barred_44 : rx_K := o_ld rx_isR 3 (o_const 16 (o_ld rx_isR 2 (o_getf 10 1 (o_callV 2 10 FX10_has (o_c1 rx_eq vX4_barred_56 vX4_barred_60)))))
set_option maxRecDepth 20000 in
theorem wX4_barred_44 (hZ : zO b e D A X) : rx_OK (zV b e D A X) mX4_barred 1 44 vX4_barred_44 := by
  unfold vX4_barred_44
  refine s_aload_n hZ.1 dX4_barred_44 rfl ?_
  refine s_iconst dX4_barred_45 (by decide +kernel) ?_
  refine s_aload_n hZ.1 dX4_barred_46 rfl ?_
  refine yg10_1 dX4_barred_47 zw772 ?_
  refine s_callV hZ.1 (Met_X10_has hZ) (Nat.le_of_ble_eq_true rfl) vy_X10_has zcl10 zw1578 zw1579 (Or.inl zw1906) dX4_barred_50 ?_
  exact s_if_ne dX4_barred_53 (by decide) (wX4_barred_60 hZ) (wX4_barred_56 hZ)
noncomputable def vX4_barred_35 : rx_K := o_ld rx_isR 3 (o_getf 10 11 (o_const 16 (o_ald 0 (o_c1 (fun h x y => rx_lt h y x) vX4_barred_44 vX4_barred_60))))
set_option maxRecDepth 20000 in
theorem wX4_barred_35 (hZ : zO b e D A X) : rx_OK (zV b e D A X) mX4_barred 1 35 vX4_barred_35 := by
  unfold vX4_barred_35
  refine s_aload_n hZ.1 dX4_barred_35 rfl ?_
  refine yg10_11 dX4_barred_36 zw840 ?_
  refine s_iconst dX4_barred_39 (by decide +kernel) ?_
  refine s_iald (tt := 0) rfl dX4_barred_40 ?_
  exact s_if_le dX4_barred_41 (by decide) (wX4_barred_60 hZ) (wX4_barred_44 hZ)
noncomputable def vX4_barred_17 : rx_K := o_ld rx_isR 3 (o_getf 10 1 (o_const 472 (o_bs (fun x y => (x.toUInt64 >>> (y.toInt64.toUInt64 &&& Int64.toUInt64 63)).toInt64) (o_ld rx_isR 2 (o_getf 10 1 (o_const 472 (o_bs (fun x y => (x.toUInt64 >>> (y.toInt64.toUInt64 &&& Int64.toUInt64 63)).toInt64) (o_bc (fun x y => lg_cmp x y) (o_c1 rx_eq vX4_barred_35 vX4_barred_56)))))))))
set_option maxRecDepth 20000 in
theorem wX4_barred_17 (hZ : zO b e D A X) : rx_OK (zV b e D A X) mX4_barred 1 17 vX4_barred_17 := by
  unfold vX4_barred_17
  refine s_aload_n hZ.1 dX4_barred_17 rfl ?_
  refine yg10_1 dX4_barred_18 zw772 ?_
  refine s_bipush dX4_barred_21 (by decide +kernel) ?_
  refine s_lushr dX4_barred_23 ?_
  refine s_aload_n hZ.1 dX4_barred_24 rfl ?_
  refine yg10_1 dX4_barred_25 zw772 ?_
  refine s_bipush dX4_barred_28 (by decide +kernel) ?_
  refine s_lushr dX4_barred_30 ?_
  refine s_lcmp dX4_barred_31 ?_
  exact s_if_ne dX4_barred_32 (by decide) (wX4_barred_56 hZ) (wX4_barred_35 hZ)
noncomputable def vX4_barred_0 : rx_K := o_ld rx_isR 0 (o_getf 4 0 (o_getf 11 1 (o_ld rx_isI 1 (o_ald 4 (o_st rx_isR 3 (o_ld rx_isR 3 (o_getf 10 3 (o_c1 rx_eq vX4_barred_17 vX4_barred_35))))))))
set_option maxRecDepth 20000 in
theorem wX4_barred_0 (hZ : zO b e D A X) : rx_OK (zV b e D A X) mX4_barred 1 0 vX4_barred_0 := by
  unfold vX4_barred_0
  refine s_aload_n hZ.1 dX4_barred_0 rfl ?_
  refine yg4_0 dX4_barred_1 zw638 ?_
  refine yg11_1 dX4_barred_4 zw1254 ?_
  refine s_iload_n hZ.1 dX4_barred_7 rfl ?_
  refine s_aald (tt := 4) rfl rfl dX4_barred_8 ?_
  refine s_astore_n hZ.1 dX4_barred_9 rfl (Nat.le_of_ble_eq_true rfl) ?_
  refine s_aload_n hZ.1 dX4_barred_10 rfl ?_
  refine yg10_3 dX4_barred_11 zw785 ?_
  exact s_if_ne dX4_barred_14 (by decide) (wX4_barred_35 hZ) (wX4_barred_17 hZ)
noncomputable def FX4_barred : List Nat → rx_H → Option (Nat × rx_H) := rx_ent 4 vX4_barred_0
theorem Met_X4_barred (hZ : zO b e D A X) : rx_Met (zV b e D A X) 1 yX4_barred mX4_barred (FX4_barred) := rx_entry hZ.1 (wX4_barred_0 hZ) (by decide +kernel) rfl (fun h => by cases h)
abbrev mX4_within : rx_M := (RX4, cX4_within, 6, (some .boolean), false)
theorem vy_X4_within : rx_Y (zV b e D A X) yX4_within mX4_within 2 := ⟨zw1911, zw420, by decide, by decide +kernel, by decide +kernel, by decide +kernel⟩
noncomputable def vX4_within_190 (j : Nat → rx_K) : rx_K := o_const 8 (o_ret1 rx_isZ)
set_option maxRecDepth 20000 in
theorem wX4_within_190 (hZ : zO b e D A X) (j : Nat → rx_K) (hj : ∀ k pc, [78, 144][k]? = some pc → rx_OK (zV b e D A X) mX4_within 1 pc (j k)) : rx_OK (zV b e D A X) mX4_within 1 190 (vX4_within_190 j) := by
  unfold vX4_within_190
  refine s_iconst dX4_within_190 (by decide +kernel) ?_
  exact s_zret rx_z_ok rfl dX4_within_191
noncomputable def vX4_within_181 (j : Nat → rx_K) : rx_K := o_inc 3 (2) (o_inc 4 (1) ((j 1)))
set_option maxRecDepth 20000 in
theorem wX4_within_181 (hZ : zO b e D A X) (j : Nat → rx_K) (hj : ∀ k pc, [78, 144][k]? = some pc → rx_OK (zV b e D A X) mX4_within 1 pc (j k)) : rx_OK (zV b e D A X) mX4_within 1 181 (vX4_within_181 j) := by
  unfold vX4_within_181
  refine s_iinc hZ.1 dX4_within_181 (Nat.le_of_ble_eq_true rfl) ?_
  refine s_iinc hZ.1 dX4_within_184 (Nat.le_of_ble_eq_true rfl) ?_
  exact s_goto dX4_within_187 (by decide) (hj 1 144 rfl)
noncomputable def vX4_within_172 (j : Nat → rx_K) : rx_K := o_ld rx_isR 0 (o_const 40 (o_ld rx_isI 3 (o_const 8 (o_bi (fun x y => x + y) (o_callV 2 4 FX4_fail (o_ret1 rx_isZ))))))
set_option maxRecDepth 20000 in
theorem wX4_within_172 (hZ : zO b e D A X) (j : Nat → rx_K) (hj : ∀ k pc, [78, 144][k]? = some pc → rx_OK (zV b e D A X) mX4_within 1 pc (j k)) : rx_OK (zV b e D A X) mX4_within 1 172 (vX4_within_172 j) := by
  unfold vX4_within_172
  refine s_aload_n hZ.1 dX4_within_172 rfl ?_
  refine s_iconst dX4_within_173 (by decide +kernel) ?_
  refine s_iload_n hZ.1 dX4_within_174 rfl ?_
  refine s_iconst dX4_within_175 (by decide +kernel) ?_
  refine s_iadd dX4_within_176 ?_
  refine s_callV hZ.1 (Met_X4_fail hZ) (Nat.le_of_ble_eq_true rfl) vy_X4_fail zcl4 zw1898 zw43 (Or.inl zw1896) dX4_within_177 ?_
  exact s_zret rx_z_ok rfl dX4_within_180
noncomputable def vX4_within_155 (j : Nat → rx_K) : rx_K := o_ld rx_isR 0 (o_getf 4 1 (o_ld rx_isR 1 (o_const 16 (o_ld rx_isI 4 (o_callV 2 10 FX10_listedAt (o_callV 1 1 FX1_named (o_nul (vX4_within_172 j) (vX4_within_181 j))))))))
set_option maxRecDepth 20000 in
theorem wX4_within_155 (hZ : zO b e D A X) (j : Nat → rx_K) (hj : ∀ k pc, [78, 144][k]? = some pc → rx_OK (zV b e D A X) mX4_within 1 pc (j k)) : rx_OK (zV b e D A X) mX4_within 1 155 (vX4_within_155 j) := by
  unfold vX4_within_155
  refine s_aload_n hZ.1 dX4_within_155 rfl ?_
  refine yg4_1 dX4_within_156 zw639 ?_
  refine s_aload_n hZ.1 dX4_within_159 rfl ?_
  refine s_iconst dX4_within_160 (by decide +kernel) ?_
  refine s_iload hZ.1 dX4_within_161 ?_
  refine s_callV hZ.1 (Met_X10_listedAt hZ) (Nat.le_of_ble_eq_true rfl) vy_X10_listedAt zcl10 zw1586 zw1587 (Or.inl zw1907) dX4_within_163 ?_
  refine s_callV hZ.1 (Met_X1_named hZ) (Nat.le_of_ble_eq_true rfl) vy_X1_named zcl1 zw1914 zw1915 (Or.inl zw1913) dX4_within_166 ?_
  exact s_ifnonnull dX4_within_169 (by decide) (wX4_within_181 hZ j hj) (wX4_within_172 hZ j hj)
noncomputable def vX4_within_144 (j : Nat → rx_K) : rx_K := o_ld rx_isI 4 (o_ld rx_isR 1 (o_getf 10 11 (o_const 16 (o_ald 0 (o_c2 rx_lt (vX4_within_155 j) (vX4_within_190 j))))))
set_option maxRecDepth 20000 in
theorem wX4_within_144 (hZ : zO b e D A X) (j : Nat → rx_K) (hj : ∀ k pc, [78, 144][k]? = some pc → rx_OK (zV b e D A X) mX4_within 1 pc (j k)) : rx_OK (zV b e D A X) mX4_within 1 144 (vX4_within_144 j) := by
  unfold vX4_within_144
  refine s_iload hZ.1 dX4_within_144 ?_
  refine s_aload_n hZ.1 dX4_within_146 rfl ?_
  refine yg10_11 dX4_within_147 zw840 ?_
  refine s_iconst dX4_within_150 (by decide +kernel) ?_
  refine s_iald (tt := 0) rfl dX4_within_151 ?_
  exact s_icmp_ge dX4_within_152 (by decide) (wX4_within_190 hZ j hj) (wX4_within_155 hZ j hj)
noncomputable def vX4_within_141 (j : Nat → rx_K) : rx_K := o_const 0 (o_st rx_isI 4 ((vX4_within_144 j)))
set_option maxRecDepth 20000 in
theorem wX4_within_141 (hZ : zO b e D A X) (j : Nat → rx_K) (hj : ∀ k pc, [78, 144][k]? = some pc → rx_OK (zV b e D A X) mX4_within 1 pc (j k)) : rx_OK (zV b e D A X) mX4_within 1 141 (vX4_within_141 j) := by
  unfold vX4_within_141
  refine s_iconst dX4_within_141 (by decide +kernel) ?_
  refine s_istore hZ.1 dX4_within_142 (Nat.le_of_ble_eq_true rfl) ?_
  exact (wX4_within_144 hZ j hj)
noncomputable def vX4_within_132 (j : Nat → rx_K) : rx_K := o_inc 3 (2) (o_inc 4 (1) ((j 0)))
set_option maxRecDepth 20000 in
theorem wX4_within_132 (hZ : zO b e D A X) (j : Nat → rx_K) (hj : ∀ k pc, [78, 144][k]? = some pc → rx_OK (zV b e D A X) mX4_within 1 pc (j k)) : rx_OK (zV b e D A X) mX4_within 1 132 (vX4_within_132 j) := by
  unfold vX4_within_132
  refine s_iinc hZ.1 dX4_within_132 (Nat.le_of_ble_eq_true rfl) ?_
  refine s_iinc hZ.1 dX4_within_135 (Nat.le_of_ble_eq_true rfl) ?_
  exact s_goto dX4_within_138 (by decide) (hj 0 78 rfl)
noncomputable def vX4_within_123 (j : Nat → rx_K) : rx_K := o_ld rx_isR 0 (o_const 40 (o_ld rx_isI 3 (o_const 8 (o_bi (fun x y => x + y) (o_callV 2 4 FX4_fail (o_ret1 rx_isZ))))))
set_option maxRecDepth 20000 in
theorem wX4_within_123 (hZ : zO b e D A X) (j : Nat → rx_K) (hj : ∀ k pc, [78, 144][k]? = some pc → rx_OK (zV b e D A X) mX4_within 1 pc (j k)) : rx_OK (zV b e D A X) mX4_within 1 123 (vX4_within_123 j) := by
  unfold vX4_within_123
  refine s_aload_n hZ.1 dX4_within_123 rfl ?_
  refine s_iconst dX4_within_124 (by decide +kernel) ?_
  refine s_iload_n hZ.1 dX4_within_125 rfl ?_
  refine s_iconst dX4_within_126 (by decide +kernel) ?_
  refine s_iadd dX4_within_127 ?_
  refine s_callV hZ.1 (Met_X4_fail hZ) (Nat.le_of_ble_eq_true rfl) vy_X4_fail zcl4 zw1898 zw43 (Or.inl zw1896) dX4_within_128 ?_
  exact s_zret rx_z_ok rfl dX4_within_131
noncomputable def vX4_within_110 (j : Nat → rx_K) : rx_K := o_ld rx_isR 5 (o_getf 10 9 (o_ld rx_isR 1 (o_getf 10 1 (o_bc (fun x y => lg_cmp x y) (o_c1 rx_eq (vX4_within_132 j) (vX4_within_123 j))))))
set_option maxRecDepth 20000 in
theorem wX4_within_110 (hZ : zO b e D A X) (j : Nat → rx_K) (hj : ∀ k pc, [78, 144][k]? = some pc → rx_OK (zV b e D A X) mX4_within 1 pc (j k)) : rx_OK (zV b e D A X) mX4_within 1 110 (vX4_within_110 j) := by
  unfold vX4_within_110
  refine s_aload hZ.1 dX4_within_110 ?_
  refine yg10_9 dX4_within_112 zw830 ?_
  refine s_aload_n hZ.1 dX4_within_115 rfl ?_
  refine yg10_1 dX4_within_116 zw772 ?_
  refine s_lcmp dX4_within_119 ?_
  exact s_if_eq dX4_within_120 (by decide) (wX4_within_132 hZ j hj) (wX4_within_123 hZ j hj)
noncomputable def vX4_within_89 (j : Nat → rx_K) : rx_K := o_ld rx_isR 0 (o_getf 4 1 (o_ld rx_isR 1 (o_const 8 (o_ld rx_isI 4 (o_callV 2 10 FX10_listedAt (o_callV 1 1 FX1_named (o_st rx_isR 5 (o_ld rx_isR 5 (o_nul (vX4_within_123 j) (vX4_within_110 j))))))))))
set_option maxRecDepth 20000 in
theorem wX4_within_89 (hZ : zO b e D A X) (j : Nat → rx_K) (hj : ∀ k pc, [78, 144][k]? = some pc → rx_OK (zV b e D A X) mX4_within 1 pc (j k)) : rx_OK (zV b e D A X) mX4_within 1 89 (vX4_within_89 j) := by
  unfold vX4_within_89
  refine s_aload_n hZ.1 dX4_within_89 rfl ?_
  refine yg4_1 dX4_within_90 zw639 ?_
  refine s_aload_n hZ.1 dX4_within_93 rfl ?_
  refine s_iconst dX4_within_94 (by decide +kernel) ?_
  refine s_iload hZ.1 dX4_within_95 ?_
  refine s_callV hZ.1 (Met_X10_listedAt hZ) (Nat.le_of_ble_eq_true rfl) vy_X10_listedAt zcl10 zw1586 zw1587 (Or.inl zw1907) dX4_within_97 ?_
  refine s_callV hZ.1 (Met_X1_named hZ) (Nat.le_of_ble_eq_true rfl) vy_X1_named zcl1 zw1914 zw1915 (Or.inl zw1913) dX4_within_100 ?_
  refine s_astore hZ.1 dX4_within_103 (Nat.le_of_ble_eq_true rfl) ?_
  refine s_aload hZ.1 dX4_within_105 ?_
  exact s_ifnull dX4_within_107 (by decide) (wX4_within_123 hZ j hj) (wX4_within_110 hZ j hj)
noncomputable def vX4_within_78 (j : Nat → rx_K) : rx_K := o_ld rx_isI 4 (o_ld rx_isR 1 (o_getf 10 11 (o_const 8 (o_ald 0 (o_c2 rx_lt (vX4_within_89 j) (vX4_within_141 j))))))
set_option maxRecDepth 20000 in
theorem wX4_within_78 (hZ : zO b e D A X) (j : Nat → rx_K) (hj : ∀ k pc, [78, 144][k]? = some pc → rx_OK (zV b e D A X) mX4_within 1 pc (j k)) : rx_OK (zV b e D A X) mX4_within 1 78 (vX4_within_78 j) := by
  unfold vX4_within_78
  refine s_iload hZ.1 dX4_within_78 ?_
  refine s_aload_n hZ.1 dX4_within_80 rfl ?_
  refine yg10_11 dX4_within_81 zw840 ?_
  refine s_iconst dX4_within_84 (by decide +kernel) ?_
  refine s_iald (tt := 0) rfl dX4_within_85 ?_
  exact s_icmp_ge dX4_within_86 (by decide) (wX4_within_141 hZ j hj) (wX4_within_89 hZ j hj)
noncomputable def vX4_within_75 (j : Nat → rx_K) : rx_K := o_const 0 (o_st rx_isI 4 ((vX4_within_78 j)))
set_option maxRecDepth 20000 in
theorem wX4_within_75 (hZ : zO b e D A X) (j : Nat → rx_K) (hj : ∀ k pc, [78, 144][k]? = some pc → rx_OK (zV b e D A X) mX4_within 1 pc (j k)) : rx_OK (zV b e D A X) mX4_within 1 75 (vX4_within_75 j) := by
  unfold vX4_within_75
  refine s_iconst dX4_within_75 (by decide +kernel) ?_
  refine s_istore hZ.1 dX4_within_76 (Nat.le_of_ble_eq_true rfl) ?_
  exact (wX4_within_78 hZ j hj)
noncomputable def vX4_within_72 (j : Nat → rx_K) : rx_K := o_inc 3 (2) ((vX4_within_75 j))
set_option maxRecDepth 20000 in
theorem wX4_within_72 (hZ : zO b e D A X) (j : Nat → rx_K) (hj : ∀ k pc, [78, 144][k]? = some pc → rx_OK (zV b e D A X) mX4_within 1 pc (j k)) : rx_OK (zV b e D A X) mX4_within 1 72 (vX4_within_72 j) := by
  unfold vX4_within_72
  refine s_iinc hZ.1 dX4_within_72 (Nat.le_of_ble_eq_true rfl) ?_
  exact (wX4_within_75 hZ j hj)
noncomputable def vX4_within_63 (j : Nat → rx_K) : rx_K := o_ld rx_isR 0 (o_const 40 (o_ld rx_isI 3 (o_const 8 (o_bi (fun x y => x + y) (o_callV 2 4 FX4_fail (o_ret1 rx_isZ))))))
set_option maxRecDepth 20000 in
theorem wX4_within_63 (hZ : zO b e D A X) (j : Nat → rx_K) (hj : ∀ k pc, [78, 144][k]? = some pc → rx_OK (zV b e D A X) mX4_within 1 pc (j k)) : rx_OK (zV b e D A X) mX4_within 1 63 (vX4_within_63 j) := by
  unfold vX4_within_63
  refine s_aload_n hZ.1 dX4_within_63 rfl ?_
  refine s_iconst dX4_within_64 (by decide +kernel) ?_
  refine s_iload_n hZ.1 dX4_within_65 rfl ?_
  refine s_iconst dX4_within_66 (by decide +kernel) ?_
  refine s_iadd dX4_within_67 ?_
  refine s_callV hZ.1 (Met_X4_fail hZ) (Nat.le_of_ble_eq_true rfl) vy_X4_fail zcl4 zw1898 zw43 (Or.inl zw1896) dX4_within_68 ?_
  exact s_zret rx_z_ok rfl dX4_within_71
noncomputable def vX4_within_50 (j : Nat → rx_K) : rx_K := o_ld rx_isR 4 (o_const 8 (o_ld rx_isR 1 (o_getf 10 1 (o_callV 2 10 FX10_has (o_c1 rx_eq (vX4_within_63 j) (vX4_within_72 j))))))
set_option maxRecDepth 20000 in
theorem wX4_within_50 (hZ : zO b e D A X) (j : Nat → rx_K) (hj : ∀ k pc, [78, 144][k]? = some pc → rx_OK (zV b e D A X) mX4_within 1 pc (j k)) : rx_OK (zV b e D A X) mX4_within 1 50 (vX4_within_50 j) := by
  unfold vX4_within_50
  refine s_aload hZ.1 dX4_within_50 ?_
  refine s_iconst dX4_within_52 (by decide +kernel) ?_
  refine s_aload_n hZ.1 dX4_within_53 rfl ?_
  refine yg10_1 dX4_within_54 zw772 ?_
  refine s_callV hZ.1 (Met_X10_has hZ) (Nat.le_of_ble_eq_true rfl) vy_X10_has zcl10 zw1578 zw1579 (Or.inl zw1906) dX4_within_57 ?_
  exact s_if_ne dX4_within_60 (by decide) (wX4_within_72 hZ j hj) (wX4_within_63 hZ j hj)
noncomputable def vX4_within_31 (j : Nat → rx_K) : rx_K := o_ld rx_isR 4 (o_getf 10 1 (o_const 472 (o_bs (fun x y => (x.toUInt64 >>> (y.toInt64.toUInt64 &&& Int64.toUInt64 63)).toInt64) (o_ld rx_isR 1 (o_getf 10 1 (o_const 472 (o_bs (fun x y => (x.toUInt64 >>> (y.toInt64.toUInt64 &&& Int64.toUInt64 63)).toInt64) (o_bc (fun x y => lg_cmp x y) (o_c1 rx_eq (vX4_within_50 j) (vX4_within_63 j))))))))))
set_option maxRecDepth 20000 in
theorem wX4_within_31 (hZ : zO b e D A X) (j : Nat → rx_K) (hj : ∀ k pc, [78, 144][k]? = some pc → rx_OK (zV b e D A X) mX4_within 1 pc (j k)) : rx_OK (zV b e D A X) mX4_within 1 31 (vX4_within_31 j) := by
  unfold vX4_within_31
  refine s_aload hZ.1 dX4_within_31 ?_
  refine yg10_1 dX4_within_33 zw772 ?_
  refine s_bipush dX4_within_36 (by decide +kernel) ?_
  refine s_lushr dX4_within_38 ?_
  refine s_aload_n hZ.1 dX4_within_39 rfl ?_
  refine yg10_1 dX4_within_40 zw772 ?_
  refine s_bipush dX4_within_43 (by decide +kernel) ?_
  refine s_lushr dX4_within_45 ?_
  refine s_lcmp dX4_within_46 ?_
  exact s_if_ne dX4_within_47 (by decide) (wX4_within_63 hZ j hj) (wX4_within_50 hZ j hj)
noncomputable def vX4_within_13 (j : Nat → rx_K) : rx_K := o_ld rx_isR 0 (o_getf 4 1 (o_ld rx_isR 1 (o_getf 10 9 (o_callV 1 1 FX1_named (o_st rx_isR 4 (o_ld rx_isR 4 (o_nul (vX4_within_63 j) (vX4_within_31 j))))))))
set_option maxRecDepth 20000 in
theorem wX4_within_13 (hZ : zO b e D A X) (j : Nat → rx_K) (hj : ∀ k pc, [78, 144][k]? = some pc → rx_OK (zV b e D A X) mX4_within 1 pc (j k)) : rx_OK (zV b e D A X) mX4_within 1 13 (vX4_within_13 j) := by
  unfold vX4_within_13
  refine s_aload_n hZ.1 dX4_within_13 rfl ?_
  refine yg4_1 dX4_within_14 zw639 ?_
  refine s_aload_n hZ.1 dX4_within_17 rfl ?_
  refine yg10_9 dX4_within_18 zw830 ?_
  refine s_callV hZ.1 (Met_X1_named hZ) (Nat.le_of_ble_eq_true rfl) vy_X1_named zcl1 zw1914 zw1915 (Or.inl zw1913) dX4_within_21 ?_
  refine s_astore hZ.1 dX4_within_24 (Nat.le_of_ble_eq_true rfl) ?_
  refine s_aload hZ.1 dX4_within_26 ?_
  exact s_ifnull dX4_within_28 (by decide) (wX4_within_63 hZ j hj) (wX4_within_31 hZ j hj)
noncomputable def vX4_within_0 (j : Nat → rx_K) : rx_K := o_ld rx_isI 2 (o_st rx_isI 3 (o_ld rx_isR 1 (o_getf 10 9 (o_const 147573952589676412897 (o_bc (fun x y => lg_cmp x y) (o_c1 rx_eq (vX4_within_75 j) (vX4_within_13 j)))))))
set_option maxRecDepth 20000 in
theorem wX4_within_0 (hZ : zO b e D A X) (j : Nat → rx_K) (hj : ∀ k pc, [78, 144][k]? = some pc → rx_OK (zV b e D A X) mX4_within 1 pc (j k)) : rx_OK (zV b e D A X) mX4_within 1 0 (vX4_within_0 j) := by
  unfold vX4_within_0
  refine s_iload_n hZ.1 dX4_within_0 rfl ?_
  refine s_istore_n hZ.1 dX4_within_1 rfl (Nat.le_of_ble_eq_true rfl) ?_
  refine s_aload_n hZ.1 dX4_within_2 rfl ?_
  refine yg10_9 dX4_within_3 zw830 ?_
  refine s_ldc2 dX4_within_6 zw1912 (by decide +kernel) ?_
  refine s_lcmp dX4_within_9 ?_
  exact s_if_eq dX4_within_10 (by decide) (wX4_within_75 hZ j hj) (wX4_within_13 hZ j hj)
noncomputable def vhX4_within (j : Nat → rx_K) : List rx_K := [vX4_within_78 j, vX4_within_144 j]
theorem vlX4_within (hZ : zO b e D A X) : ∀ n k pc, [78, 144][k]? = some pc → rx_OK (zV b e D A X) mX4_within 1 pc (rx_J (vhX4_within) n k) := rx_loop fun j hj k pc h => by
  match k, h with
  | 0, h =>
    have e9 := Option.some.inj (show some 78 = some pc from h)
    subst e9
    exact wX4_within_78 hZ j hj
  | 1, h =>
    have e9 := Option.some.inj (show some 144 = some pc from h)
    subst e9
    exact wX4_within_144 hZ j hj
  | _ + 2, h => exact absurd h (by simp)
noncomputable def FX4_within : List Nat → rx_H → Option (Nat × rx_H) := rx_ent 6 (vX4_within_0 (rx_J (vhX4_within) 4000000000))
theorem Met_X4_within (hZ : zO b e D A X) : rx_Met (zV b e D A X) 1 yX4_within mX4_within (FX4_within) := rx_entry hZ.1 (wX4_within_0 hZ _ (vlX4_within hZ 4000000000)) (by decide +kernel) rfl (fun h => by cases h)
end ZM13

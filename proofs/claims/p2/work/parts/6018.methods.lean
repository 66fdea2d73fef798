section ZM18
variable {b : Nat} {e : Nat → Value} {D : va_G} {A : Nat → ClassId} {X : State → Prop}
abbrev mX5_askSuper : rx_M := (RX5, cX5_askSuper, 6, (some .int), false)
theorem vy_X5_askSuper : rx_Y (zV b e D A X) yX5_askSuper mX5_askSuper 2 := ⟨zw2547, zw428, by decide, by decide +kernel, by decide +kernel, by decide +kernel⟩
noncomputable def vX5_askSuper_139 (j : Nat → rx_K) : rx_K := o_ld rx_isR 0 (o_ld rx_isR 0 (o_getf 5 0 (o_getf 11 17 (o_putf rx_isR 5 11 (o_ld rx_isR 0 (o_ld rx_isR 0 (o_getf 5 0 (o_getf 11 18 (o_putf rx_isI 5 12 (o_const 0 (o_ret1 rx_isI)))))))))))
set_option maxRecDepth 20000 in
theorem wX5_askSuper_139 (hZ : zO b e D A X) (j : Nat → rx_K) (hj : ∀ k pc, [11][k]? = some pc → rx_OK (zV b e D A X) mX5_askSuper 2 pc (j k)) : rx_OK (zV b e D A X) mX5_askSuper 2 139 (vX5_askSuper_139 j) := by
  unfold vX5_askSuper_139
  refine s_aload_n hZ.1 dX5_askSuper_139 rfl ?_
  refine s_aload_n hZ.1 dX5_askSuper_140 rfl ?_
  refine yg5_0 dX5_askSuper_141 zw1350 ?_
  refine yg11_17 dX5_askSuper_144 zw1295 ?_
  refine yp5_11 hZ.1 dX5_askSuper_147 zw1366 ?_
  refine s_aload_n hZ.1 dX5_askSuper_150 rfl ?_
  refine s_aload_n hZ.1 dX5_askSuper_151 rfl ?_
  refine yg5_0 dX5_askSuper_152 zw1350 ?_
  refine yg11_18 dX5_askSuper_155 zw1298 ?_
  refine yp5_12 hZ.1 dX5_askSuper_158 zw1369 ?_
  refine s_iconst dX5_askSuper_161 (by decide +kernel) ?_
  exact s_iret hZ.1 rfl dX5_askSuper_162
noncomputable def vX5_askSuper_138 (j : Nat → rx_K) : rx_K := o_ret1 rx_isI
set_option maxRecDepth 20000 in
theorem wX5_askSuper_138 (hZ : zO b e D A X) (j : Nat → rx_K) (hj : ∀ k pc, [11][k]? = some pc → rx_OK (zV b e D A X) mX5_askSuper 2 pc (j k)) : rx_OK (zV b e D A X) mX5_askSuper 2 138 (vX5_askSuper_138 j) := by
  unfold vX5_askSuper_138
  exact s_iret hZ.1 rfl dX5_askSuper_138
noncomputable def vX5_askSuper_136 (j : Nat → rx_K) : rx_K := o_const 48 ((vX5_askSuper_138 j))
set_option maxRecDepth 20000 in
theorem wX5_askSuper_136 (hZ : zO b e D A X) (j : Nat → rx_K) (hj : ∀ k pc, [11][k]? = some pc → rx_OK (zV b e D A X) mX5_askSuper 2 pc (j k)) : rx_OK (zV b e D A X) mX5_askSuper 2 136 (vX5_askSuper_136 j) := by
  unfold vX5_askSuper_136
  refine s_bipush dX5_askSuper_136 (by decide +kernel) ?_
  exact (wX5_askSuper_138 hZ j hj)
noncomputable def vX5_askSuper_132 (j : Nat → rx_K) : rx_K := o_const 24 ((vX5_askSuper_138 j))
set_option maxRecDepth 20000 in
theorem wX5_askSuper_132 (hZ : zO b e D A X) (j : Nat → rx_K) (hj : ∀ k pc, [11][k]? = some pc → rx_OK (zV b e D A X) mX5_askSuper 2 pc (j k)) : rx_OK (zV b e D A X) mX5_askSuper 2 132 (vX5_askSuper_132 j) := by
  unfold vX5_askSuper_132
  refine s_iconst dX5_askSuper_132 (by decide +kernel) ?_
  exact s_goto dX5_askSuper_133 (by decide) (wX5_askSuper_138 hZ j hj)
noncomputable def vX5_askSuper_126 (j : Nat → rx_K) : rx_K := o_ld rx_isI 4 (o_const 8 (o_c2 (fun h x y => rx_lt h y x) (vX5_askSuper_132 j) (vX5_askSuper_136 j)))
set_option maxRecDepth 20000 in
theorem wX5_askSuper_126 (hZ : zO b e D A X) (j : Nat → rx_K) (hj : ∀ k pc, [11][k]? = some pc → rx_OK (zV b e D A X) mX5_askSuper 2 pc (j k)) : rx_OK (zV b e D A X) mX5_askSuper 2 126 (vX5_askSuper_126 j) := by
  unfold vX5_askSuper_126
  refine s_iload hZ.1 dX5_askSuper_126 ?_
  refine s_iconst dX5_askSuper_128 (by decide +kernel) ?_
  exact s_icmp_le dX5_askSuper_129 (by decide) (wX5_askSuper_136 hZ j hj) (wX5_askSuper_132 hZ j hj)
noncomputable def vX5_askSuper_118 (j : Nat → rx_K) : rx_K := o_st rx_isI 4 (o_ld rx_isI 4 (o_const 8 (o_c2 rx_eq (vX5_askSuper_139 j) (vX5_askSuper_126 j))))
set_option maxRecDepth 20000 in
theorem wX5_askSuper_118 (hZ : zO b e D A X) (j : Nat → rx_K) (hj : ∀ k pc, [11][k]? = some pc → rx_OK (zV b e D A X) mX5_askSuper 2 pc (j k)) : rx_OK (zV b e D A X) mX5_askSuper 2 118 (vX5_askSuper_118 j) := by
  unfold vX5_askSuper_118
  refine s_istore hZ.1 dX5_askSuper_118 (Nat.le_of_ble_eq_true rfl) ?_
  refine s_iload hZ.1 dX5_askSuper_120 ?_
  refine s_iconst dX5_askSuper_122 (by decide +kernel) ?_
  exact s_icmp_eq dX5_askSuper_123 (by decide) (wX5_askSuper_139 hZ j hj) (wX5_askSuper_126 hZ j hj)
noncomputable def vX5_askSuper_109 (j : Nat → rx_K) : rx_K := o_ld rx_isR 0 (o_getf 5 0 (o_ld rx_isI 1 (o_ld rx_isR 2 (o_callV 2 11 FX11_mostSpecial ((vX5_askSuper_118 j))))))
set_option maxRecDepth 20000 in
theorem wX5_askSuper_109 (hZ : zO b e D A X) (j : Nat → rx_K) (hj : ∀ k pc, [11][k]? = some pc → rx_OK (zV b e D A X) mX5_askSuper 2 pc (j k)) : rx_OK (zV b e D A X) mX5_askSuper 2 109 (vX5_askSuper_109 j) := by
  unfold vX5_askSuper_109
  refine s_aload_n hZ.1 dX5_askSuper_109 rfl ?_
  refine yg5_0 dX5_askSuper_110 zw1350 ?_
  refine s_iload_n hZ.1 dX5_askSuper_113 rfl ?_
  refine s_aload_n hZ.1 dX5_askSuper_114 rfl ?_
  refine s_callV hZ.1 (Met_X11_mostSpecial hZ) (Nat.le_of_ble_eq_true rfl) vy_X11_mostSpecial zcl11 zw2040 zw2041 (Or.inl zw2542) dX5_askSuper_115 ?_
  exact (wX5_askSuper_118 hZ j hj)
noncomputable def vX5_askSuper_105 (j : Nat → rx_K) : rx_K := o_const 0 ((vX5_askSuper_118 j))
set_option maxRecDepth 20000 in
theorem wX5_askSuper_105 (hZ : zO b e D A X) (j : Nat → rx_K) (hj : ∀ k pc, [11][k]? = some pc → rx_OK (zV b e D A X) mX5_askSuper 2 pc (j k)) : rx_OK (zV b e D A X) mX5_askSuper 2 105 (vX5_askSuper_105 j) := by
  unfold vX5_askSuper_105
  refine s_iconst dX5_askSuper_105 (by decide +kernel) ?_
  exact s_goto dX5_askSuper_106 (by decide) (wX5_askSuper_118 hZ j hj)
noncomputable def vX5_askSuper_101 (j : Nat → rx_K) : rx_K := o_ld rx_isI 1 (o_c1 rx_lt (vX5_askSuper_105 j) (vX5_askSuper_109 j))
set_option maxRecDepth 20000 in
theorem wX5_askSuper_101 (hZ : zO b e D A X) (j : Nat → rx_K) (hj : ∀ k pc, [11][k]? = some pc → rx_OK (zV b e D A X) mX5_askSuper 2 pc (j k)) : rx_OK (zV b e D A X) mX5_askSuper 2 101 (vX5_askSuper_101 j) := by
  unfold vX5_askSuper_101
  refine s_iload_n hZ.1 dX5_askSuper_101 rfl ?_
  exact s_if_ge dX5_askSuper_102 (by decide) (wX5_askSuper_109 hZ j hj) (wX5_askSuper_105 hZ j hj)
noncomputable def vX5_askSuper_85 (j : Nat → rx_K) : rx_K := o_ld rx_isR 0 (o_getf 5 0 (o_getf 11 3 (o_ld rx_isI 3 (o_ald 0 (o_st rx_isI 3 (o_inc 4 (1) ((j 0))))))))
set_option maxRecDepth 20000 in
theorem wX5_askSuper_85 (hZ : zO b e D A X) (j : Nat → rx_K) (hj : ∀ k pc, [11][k]? = some pc → rx_OK (zV b e D A X) mX5_askSuper 2 pc (j k)) : rx_OK (zV b e D A X) mX5_askSuper 2 85 (vX5_askSuper_85 j) := by
  unfold vX5_askSuper_85
  refine s_aload_n hZ.1 dX5_askSuper_85 rfl ?_
  refine yg5_0 dX5_askSuper_86 zw1350 ?_
  refine yg11_3 dX5_askSuper_89 zw1264 ?_
  refine s_iload_n hZ.1 dX5_askSuper_92 rfl ?_
  refine s_iald (tt := 0) rfl dX5_askSuper_93 ?_
  refine s_istore_n hZ.1 dX5_askSuper_94 rfl (Nat.le_of_ble_eq_true rfl) ?_
  refine s_iinc hZ.1 dX5_askSuper_95 (Nat.le_of_ble_eq_true rfl) ?_
  exact s_goto dX5_askSuper_98 (by decide) (hj 0 11 rfl)
noncomputable def vX5_askSuper_72 (j : Nat → rx_K) : rx_K := o_ld rx_isR 0 (o_ld rx_isR 5 (o_putf rx_isR 5 11 (o_ld rx_isR 0 (o_ld rx_isI 3 (o_putf rx_isI 5 12 (o_const 0 (o_ret1 rx_isI)))))))
set_option maxRecDepth 20000 in
theorem wX5_askSuper_72 (hZ : zO b e D A X) (j : Nat → rx_K) (hj : ∀ k pc, [11][k]? = some pc → rx_OK (zV b e D A X) mX5_askSuper 2 pc (j k)) : rx_OK (zV b e D A X) mX5_askSuper 2 72 (vX5_askSuper_72 j) := by
  unfold vX5_askSuper_72
  refine s_aload_n hZ.1 dX5_askSuper_72 rfl ?_
  refine s_aload hZ.1 dX5_askSuper_73 ?_
  refine yp5_11 hZ.1 dX5_askSuper_75 zw1366 ?_
  refine s_aload_n hZ.1 dX5_askSuper_78 rfl ?_
  refine s_iload_n hZ.1 dX5_askSuper_79 rfl ?_
  refine yp5_12 hZ.1 dX5_askSuper_80 zw1369 ?_
  refine s_iconst dX5_askSuper_83 (by decide +kernel) ?_
  exact s_iret hZ.1 rfl dX5_askSuper_84
noncomputable def vX5_askSuper_69 (j : Nat → rx_K) : rx_K := o_const 48 (o_ret1 rx_isI)
set_option maxRecDepth 20000 in
theorem wX5_askSuper_69 (hZ : zO b e D A X) (j : Nat → rx_K) (hj : ∀ k pc, [11][k]? = some pc → rx_OK (zV b e D A X) mX5_askSuper 2 pc (j k)) : rx_OK (zV b e D A X) mX5_askSuper 2 69 (vX5_askSuper_69 j) := by
  unfold vX5_askSuper_69
  refine s_bipush dX5_askSuper_69 (by decide +kernel) ?_
  exact s_iret hZ.1 rfl dX5_askSuper_71
noncomputable def vX5_askSuper_61 (j : Nat → rx_K) : rx_K := o_ld rx_isR 5 (o_getf 7 4 (o_c1 rx_eq (vX5_askSuper_72 j) (vX5_askSuper_69 j)))
set_option maxRecDepth 20000 in
theorem wX5_askSuper_61 (hZ : zO b e D A X) (j : Nat → rx_K) (hj : ∀ k pc, [11][k]? = some pc → rx_OK (zV b e D A X) mX5_askSuper 2 pc (j k)) : rx_OK (zV b e D A X) mX5_askSuper 2 61 (vX5_askSuper_61 j) := by
  unfold vX5_askSuper_61
  refine s_aload hZ.1 dX5_askSuper_61 ?_
  refine yg7_4 dX5_askSuper_63 zw984 ?_
  exact s_if_eq dX5_askSuper_66 (by decide) (wX5_askSuper_72 hZ j hj) (wX5_askSuper_69 hZ j hj)
noncomputable def vX5_askSuper_53 (j : Nat → rx_K) : rx_K := o_ld rx_isR 5 (o_getf 7 2 (o_c1 rx_eq (vX5_askSuper_61 j) (vX5_askSuper_85 j)))
set_option maxRecDepth 20000 in
theorem wX5_askSuper_53 (hZ : zO b e D A X) (j : Nat → rx_K) (hj : ∀ k pc, [11][k]? = some pc → rx_OK (zV b e D A X) mX5_askSuper 2 pc (j k)) : rx_OK (zV b e D A X) mX5_askSuper 2 53 (vX5_askSuper_53 j) := by
  unfold vX5_askSuper_53
  refine s_aload hZ.1 dX5_askSuper_53 ?_
  refine yg7_2 dX5_askSuper_55 zw969 ?_
  exact s_if_ne dX5_askSuper_58 (by decide) (wX5_askSuper_85 hZ j hj) (wX5_askSuper_61 hZ j hj)
noncomputable def vX5_askSuper_33 (j : Nat → rx_K) : rx_K := o_ld rx_isR 0 (o_getf 5 0 (o_getf 11 1 (o_ld rx_isI 3 (o_ald 4 (o_ld rx_isR 2 (o_callV 1 10 FX10_method (o_st rx_isR 5 (o_ld rx_isR 5 (o_nul (vX5_askSuper_85 j) (vX5_askSuper_53 j))))))))))
set_option maxRecDepth 20000 in
theorem wX5_askSuper_33 (hZ : zO b e D A X) (j : Nat → rx_K) (hj : ∀ k pc, [11][k]? = some pc → rx_OK (zV b e D A X) mX5_askSuper 2 pc (j k)) : rx_OK (zV b e D A X) mX5_askSuper 2 33 (vX5_askSuper_33 j) := by
  unfold vX5_askSuper_33
  refine s_aload_n hZ.1 dX5_askSuper_33 rfl ?_
  refine yg5_0 dX5_askSuper_34 zw1350 ?_
  refine yg11_1 dX5_askSuper_37 zw1253 ?_
  refine s_iload_n hZ.1 dX5_askSuper_40 rfl ?_
  refine s_aald (tt := 4) rfl rfl dX5_askSuper_41 ?_
  refine s_aload_n hZ.1 dX5_askSuper_42 rfl ?_
  refine s_callV hZ.1 (Met_X10_method hZ) (Nat.le_of_ble_eq_true rfl) vy_X10_method zcl10 zw2011 zw2012 (Or.inl zw2540) dX5_askSuper_43 ?_
  refine s_astore hZ.1 dX5_askSuper_46 (Nat.le_of_ble_eq_true rfl) ?_
  refine s_aload hZ.1 dX5_askSuper_48 ?_
  exact s_ifnull dX5_askSuper_50 (by decide) (wX5_askSuper_85 hZ j hj) (wX5_askSuper_53 hZ j hj)
noncomputable def vX5_askSuper_29 (j : Nat → rx_K) : rx_K := o_ld rx_isI 3 (o_c1 rx_lt (vX5_askSuper_101 j) (vX5_askSuper_33 j))
set_option maxRecDepth 20000 in
theorem wX5_askSuper_29 (hZ : zO b e D A X) (j : Nat → rx_K) (hj : ∀ k pc, [11][k]? = some pc → rx_OK (zV b e D A X) mX5_askSuper 2 pc (j k)) : rx_OK (zV b e D A X) mX5_askSuper 2 29 (vX5_askSuper_29 j) := by
  unfold vX5_askSuper_29
  refine s_iload_n hZ.1 dX5_askSuper_29 rfl ?_
  exact s_if_lt dX5_askSuper_30 (by decide) (wX5_askSuper_101 hZ j hj) (wX5_askSuper_33 hZ j hj)
noncomputable def vX5_askSuper_15 (j : Nat → rx_K) : rx_K := o_ld rx_isI 4 (o_ld rx_isR 0 (o_getf 5 0 (o_getf 11 4 (o_ld rx_isI 1 (o_ald 0 (o_c2 (fun h x y => rx_lt h y x) (vX5_askSuper_101 j) (vX5_askSuper_29 j)))))))
set_option maxRecDepth 20000 in
theorem wX5_askSuper_15 (hZ : zO b e D A X) (j : Nat → rx_K) (hj : ∀ k pc, [11][k]? = some pc → rx_OK (zV b e D A X) mX5_askSuper 2 pc (j k)) : rx_OK (zV b e D A X) mX5_askSuper 2 15 (vX5_askSuper_15 j) := by
  unfold vX5_askSuper_15
  refine s_iload hZ.1 dX5_askSuper_15 ?_
  refine s_aload_n hZ.1 dX5_askSuper_17 rfl ?_
  refine yg5_0 dX5_askSuper_18 zw1350 ?_
  refine yg11_4 dX5_askSuper_21 zw1268 ?_
  refine s_iload_n hZ.1 dX5_askSuper_24 rfl ?_
  refine s_iald (tt := 0) rfl dX5_askSuper_25 ?_
  exact s_icmp_gt dX5_askSuper_26 (by decide) (wX5_askSuper_101 hZ j hj) (wX5_askSuper_29 hZ j hj)
noncomputable def vX5_askSuper_11 (j : Nat → rx_K) : rx_K := o_ld rx_isI 1 (o_c1 rx_lt (vX5_askSuper_101 j) (vX5_askSuper_15 j))
set_option maxRecDepth 20000 in
theorem wX5_askSuper_11 (hZ : zO b e D A X) (j : Nat → rx_K) (hj : ∀ k pc, [11][k]? = some pc → rx_OK (zV b e D A X) mX5_askSuper 2 pc (j k)) : rx_OK (zV b e D A X) mX5_askSuper 2 11 (vX5_askSuper_11 j) := by
  unfold vX5_askSuper_11
  refine s_iload_n hZ.1 dX5_askSuper_11 rfl ?_
  exact s_if_lt dX5_askSuper_12 (by decide) (wX5_askSuper_101 hZ j hj) (wX5_askSuper_15 hZ j hj)
noncomputable def vX5_askSuper_0 (j : Nat → rx_K) : rx_K := o_ld rx_isI 1 (o_st rx_isI 3 (o_ld rx_isR 0 (o_const 34359738352 (o_putf rx_isI 5 12 (o_const 0 (o_st rx_isI 4 ((vX5_askSuper_11 j))))))))
set_option maxRecDepth 20000 in
theorem wX5_askSuper_0 (hZ : zO b e D A X) (j : Nat → rx_K) (hj : ∀ k pc, [11][k]? = some pc → rx_OK (zV b e D A X) mX5_askSuper 2 pc (j k)) : rx_OK (zV b e D A X) mX5_askSuper 2 0 (vX5_askSuper_0 j) := by
  unfold vX5_askSuper_0
  refine s_iload_n hZ.1 dX5_askSuper_0 rfl ?_
  refine s_istore_n hZ.1 dX5_askSuper_1 rfl (Nat.le_of_ble_eq_true rfl) ?_
  refine s_aload_n hZ.1 dX5_askSuper_2 rfl ?_
  refine s_bipush dX5_askSuper_3 (by decide +kernel) ?_
  refine yp5_12 hZ.1 dX5_askSuper_5 zw1369 ?_
  refine s_iconst dX5_askSuper_8 (by decide +kernel) ?_
  refine s_istore hZ.1 dX5_askSuper_9 (Nat.le_of_ble_eq_true rfl) ?_
  exact (wX5_askSuper_11 hZ j hj)
noncomputable def vhX5_askSuper (j : Nat → rx_K) : List rx_K := [vX5_askSuper_11 j]
theorem vlX5_askSuper (hZ : zO b e D A X) : ∀ n k pc, [11][k]? = some pc → rx_OK (zV b e D A X) mX5_askSuper 2 pc (rx_J (vhX5_askSuper) n k) := rx_loop fun j hj k pc h => by
  match k, h with
  | 0, h =>
    have e9 := Option.some.inj (show some 11 = some pc from h)
    subst e9
    exact wX5_askSuper_11 hZ j hj
  | _ + 1, h => exact absurd h (by simp)
noncomputable def FX5_askSuper : List Nat → rx_H → Option (Nat × rx_H) := rx_ent 6 (vX5_askSuper_0 (rx_J (vhX5_askSuper) 4000000000))
theorem Met_X5_askSuper (hZ : zO b e D A X) : rx_Met (zV b e D A X) 2 yX5_askSuper mX5_askSuper (FX5_askSuper) := rx_entry hZ.1 (wX5_askSuper_0 hZ _ (vlX5_askSuper hZ 4000000000)) (by decide +kernel) rfl (fun h => by cases h)
abbrev mX5_resolve : rx_M := (RX5, cX5_resolve, 7, (some (.object "LinkHouse$Member")), false)
theorem vy_X5_resolve : rx_Y (zV b e D A X) yX5_resolve mX5_resolve 2 := ⟨zw2539, zw428, by decide, by decide +kernel, by decide +kernel, by decide +kernel⟩
noncomputable def vX5_resolve_246 (j : Nat → rx_K) : rx_K := o_const 3 (o_ret1 rx_isR)
set_option maxRecDepth 20000 in
theorem wX5_resolve_246 (hZ : zO b e D A X) (j : Nat → rx_K) (hj : ∀ k pc, [5, 103, 174][k]? = some pc → rx_OK (zV b e D A X) mX5_resolve 2 pc (j k)) : rx_OK (zV b e D A X) mX5_resolve 2 246 (vX5_resolve_246 j) := by
  unfold vX5_resolve_246
  refine s_null dX5_resolve_246 ?_
  exact s_aret hZ.1 rfl (Or.inl ⟨_, rfl⟩) dX5_resolve_247
noncomputable def vX5_resolve_240 (j : Nat → rx_K) : rx_K := o_inc 5 (1) ((j 2))
set_option maxRecDepth 20000 in
theorem wX5_resolve_240 (hZ : zO b e D A X) (j : Nat → rx_K) (hj : ∀ k pc, [5, 103, 174][k]? = some pc → rx_OK (zV b e D A X) mX5_resolve 2 pc (j k)) : rx_OK (zV b e D A X) mX5_resolve 2 240 (vX5_resolve_240 j) := by
  unfold vX5_resolve_240
  refine s_iinc hZ.1 dX5_resolve_240 (Nat.le_of_ble_eq_true rfl) ?_
  exact s_goto dX5_resolve_243 (by decide) (hj 2 174 rfl)
noncomputable def vX5_resolve_237 (j : Nat → rx_K) : rx_K := o_ld rx_isR 6 (o_ret1 rx_isR)
set_option maxRecDepth 20000 in
theorem wX5_resolve_237 (hZ : zO b e D A X) (j : Nat → rx_K) (hj : ∀ k pc, [5, 103, 174][k]? = some pc → rx_OK (zV b e D A X) mX5_resolve 2 pc (j k)) : rx_OK (zV b e D A X) mX5_resolve 2 237 (vX5_resolve_237 j) := by
  unfold vX5_resolve_237
  refine s_aload hZ.1 dX5_resolve_237 ?_
  exact s_aret hZ.1 rfl (Or.inl ⟨_, rfl⟩) dX5_resolve_239
noncomputable def vX5_resolve_229 (j : Nat → rx_K) : rx_K := o_ld rx_isR 6 (o_callV 0 7 FX7_ofObjects (o_c1 rx_eq (vX5_resolve_240 j) (vX5_resolve_237 j)))
set_option maxRecDepth 20000 in
theorem wX5_resolve_229 (hZ : zO b e D A X) (j : Nat → rx_K) (hj : ∀ k pc, [5, 103, 174][k]? = some pc → rx_OK (zV b e D A X) mX5_resolve 2 pc (j k)) : rx_OK (zV b e D A X) mX5_resolve 2 229 (vX5_resolve_229 j) := by
  unfold vX5_resolve_229
  refine s_aload hZ.1 dX5_resolve_229 ?_
  refine s_callV hZ.1 (Met_X7_ofObjects hZ) (Nat.le_of_ble_eq_true rfl) vy_X7_ofObjects zcl7 zw2003 zw2004 (Or.inl zw2543) dX5_resolve_231 ?_
  exact s_if_eq dX5_resolve_234 (by decide) (wX5_resolve_240 hZ j hj) (wX5_resolve_237 hZ j hj)
noncomputable def vX5_resolve_181 (j : Nat → rx_K) : rx_K := o_ld rx_isR 0 (o_getf 5 0 (o_ld rx_isR 0 (o_getf 5 0 (o_getf 11 10 (o_ld rx_isI 1 (o_const 512 (o_bi (fun x y => x * y) (o_ld rx_isI 5 (o_bi (fun x y => x + y) (o_ald 0 (o_putf rx_isI 11 18 (o_ld rx_isR 0 (o_getf 5 0 (o_getf 11 1 (o_ld rx_isR 0 (o_getf 5 0 (o_getf 11 18 (o_ald 4 (o_ld rx_isR 2 (o_callV 1 10 FX10_method (o_st rx_isR 6 (o_ld rx_isR 6 (o_nul (vX5_resolve_240 j) (vX5_resolve_229 j))))))))))))))))))))))))
set_option maxRecDepth 20000 in
theorem wX5_resolve_181 (hZ : zO b e D A X) (j : Nat → rx_K) (hj : ∀ k pc, [5, 103, 174][k]? = some pc → rx_OK (zV b e D A X) mX5_resolve 2 pc (j k)) : rx_OK (zV b e D A X) mX5_resolve 2 181 (vX5_resolve_181 j) := by
  unfold vX5_resolve_181
  refine s_aload_n hZ.1 dX5_resolve_181 rfl ?_
  refine yg5_0 dX5_resolve_182 zw1350 ?_
  refine s_aload_n hZ.1 dX5_resolve_185 rfl ?_
  refine yg5_0 dX5_resolve_186 zw1350 ?_
  refine yg11_10 dX5_resolve_189 zw1284 ?_
  refine s_iload_n hZ.1 dX5_resolve_192 rfl ?_
  refine s_bipush dX5_resolve_193 (by decide +kernel) ?_
  refine s_imul dX5_resolve_195 ?_
  refine s_iload hZ.1 dX5_resolve_196 ?_
  refine s_iadd dX5_resolve_198 ?_
  refine s_iald (tt := 0) rfl dX5_resolve_199 ?_
  refine yp11_18 hZ.1 dX5_resolve_200 zw1298 ?_
  refine s_aload_n hZ.1 dX5_resolve_203 rfl ?_
  refine yg5_0 dX5_resolve_204 zw1350 ?_
  refine yg11_1 dX5_resolve_207 zw1253 ?_
  refine s_aload_n hZ.1 dX5_resolve_210 rfl ?_
  refine yg5_0 dX5_resolve_211 zw1350 ?_
  refine yg11_18 dX5_resolve_214 zw1298 ?_
  refine s_aald (tt := 4) rfl rfl dX5_resolve_217 ?_
  refine s_aload_n hZ.1 dX5_resolve_218 rfl ?_
  refine s_callV hZ.1 (Met_X10_method hZ) (Nat.le_of_ble_eq_true rfl) vy_X10_method zcl10 zw2011 zw2012 (Or.inl zw2540) dX5_resolve_219 ?_
  refine s_astore hZ.1 dX5_resolve_222 (Nat.le_of_ble_eq_true rfl) ?_
  refine s_aload hZ.1 dX5_resolve_224 ?_
  exact s_ifnull dX5_resolve_226 (by decide) (wX5_resolve_240 hZ j hj) (wX5_resolve_229 hZ j hj)
noncomputable def vX5_resolve_174 (j : Nat → rx_K) : rx_K := o_ld rx_isI 5 (o_ld rx_isI 4 (o_c2 rx_lt (vX5_resolve_181 j) (vX5_resolve_246 j)))
set_option maxRecDepth 20000 in
theorem wX5_resolve_174 (hZ : zO b e D A X) (j : Nat → rx_K) (hj : ∀ k pc, [5, 103, 174][k]? = some pc → rx_OK (zV b e D A X) mX5_resolve 2 pc (j k)) : rx_OK (zV b e D A X) mX5_resolve 2 174 (vX5_resolve_174 j) := by
  unfold vX5_resolve_174
  refine s_iload hZ.1 dX5_resolve_174 ?_
  refine s_iload hZ.1 dX5_resolve_176 ?_
  exact s_icmp_ge dX5_resolve_178 (by decide) (wX5_resolve_246 hZ j hj) (wX5_resolve_181 hZ j hj)
noncomputable def vX5_resolve_171 (j : Nat → rx_K) : rx_K := o_const 0 (o_st rx_isI 5 ((vX5_resolve_174 j)))
set_option maxRecDepth 20000 in
theorem wX5_resolve_171 (hZ : zO b e D A X) (j : Nat → rx_K) (hj : ∀ k pc, [5, 103, 174][k]? = some pc → rx_OK (zV b e D A X) mX5_resolve 2 pc (j k)) : rx_OK (zV b e D A X) mX5_resolve 2 171 (vX5_resolve_171 j) := by
  unfold vX5_resolve_171
  refine s_iconst dX5_resolve_171 (by decide +kernel) ?_
  refine s_istore hZ.1 dX5_resolve_172 (Nat.le_of_ble_eq_true rfl) ?_
  exact (wX5_resolve_174 hZ j hj)
noncomputable def vX5_resolve_163 (j : Nat → rx_K) : rx_K := o_ld rx_isR 0 (o_getf 5 0 (o_getf 11 17 (o_ret1 rx_isR)))
set_option maxRecDepth 20000 in
theorem wX5_resolve_163 (hZ : zO b e D A X) (j : Nat → rx_K) (hj : ∀ k pc, [5, 103, 174][k]? = some pc → rx_OK (zV b e D A X) mX5_resolve 2 pc (j k)) : rx_OK (zV b e D A X) mX5_resolve 2 163 (vX5_resolve_163 j) := by
  unfold vX5_resolve_163
  refine s_aload_n hZ.1 dX5_resolve_163 rfl ?_
  refine yg5_0 dX5_resolve_164 zw1350 ?_
  refine yg11_17 dX5_resolve_167 zw1295 ?_
  exact s_aret hZ.1 rfl (Or.inl ⟨_, rfl⟩) dX5_resolve_170
noncomputable def vX5_resolve_150 (j : Nat → rx_K) : rx_K := o_ld rx_isR 0 (o_getf 5 0 (o_ld rx_isI 1 (o_ld rx_isR 2 (o_callV 2 11 FX11_mostSpecial (o_const 8 (o_c2 rx_eq (vX5_resolve_163 j) (vX5_resolve_171 j)))))))
set_option maxRecDepth 20000 in
theorem wX5_resolve_150 (hZ : zO b e D A X) (j : Nat → rx_K) (hj : ∀ k pc, [5, 103, 174][k]? = some pc → rx_OK (zV b e D A X) mX5_resolve 2 pc (j k)) : rx_OK (zV b e D A X) mX5_resolve 2 150 (vX5_resolve_150 j) := by
  unfold vX5_resolve_150
  refine s_aload_n hZ.1 dX5_resolve_150 rfl ?_
  refine yg5_0 dX5_resolve_151 zw1350 ?_
  refine s_iload_n hZ.1 dX5_resolve_154 rfl ?_
  refine s_aload_n hZ.1 dX5_resolve_155 rfl ?_
  refine s_callV hZ.1 (Met_X11_mostSpecial hZ) (Nat.le_of_ble_eq_true rfl) vy_X11_mostSpecial zcl11 zw2040 zw2041 (Or.inl zw2542) dX5_resolve_156 ?_
  refine s_iconst dX5_resolve_159 (by decide +kernel) ?_
  exact s_icmp_ne dX5_resolve_160 (by decide) (wX5_resolve_171 hZ j hj) (wX5_resolve_163 hZ j hj)
noncomputable def vX5_resolve_110 (j : Nat → rx_K) : rx_K := o_ld rx_isR 0 (o_getf 5 15 (o_ld rx_isR 0 (o_getf 5 16 (o_ld rx_isR 0 (o_getf 5 0 (o_getf 11 10 (o_ld rx_isI 1 (o_const 512 (o_bi (fun x y => x * y) (o_ld rx_isI 5 (o_bi (fun x y => x + y) (o_ald 0 (o_ast 0 (fun v => v) rx_isI (o_ld rx_isR 0 (o_dup (o_getf 5 16 (o_const 8 (o_bi (fun x y => x + y) (o_putf rx_isI 5 16 (o_inc 5 (1) ((j 1))))))))))))))))))))))
set_option maxRecDepth 20000 in
theorem wX5_resolve_110 (hZ : zO b e D A X) (j : Nat → rx_K) (hj : ∀ k pc, [5, 103, 174][k]? = some pc → rx_OK (zV b e D A X) mX5_resolve 2 pc (j k)) : rx_OK (zV b e D A X) mX5_resolve 2 110 (vX5_resolve_110 j) := by
  unfold vX5_resolve_110
  refine s_aload_n hZ.1 dX5_resolve_110 rfl ?_
  refine yg5_15 dX5_resolve_111 zw1375 ?_
  refine s_aload_n hZ.1 dX5_resolve_114 rfl ?_
  refine yg5_16 dX5_resolve_115 zw1377 ?_
  refine s_aload_n hZ.1 dX5_resolve_118 rfl ?_
  refine yg5_0 dX5_resolve_119 zw1350 ?_
  refine yg11_10 dX5_resolve_122 zw1284 ?_
  refine s_iload_n hZ.1 dX5_resolve_125 rfl ?_
  refine s_bipush dX5_resolve_126 (by decide +kernel) ?_
  refine s_imul dX5_resolve_128 ?_
  refine s_iload hZ.1 dX5_resolve_129 ?_
  refine s_iadd dX5_resolve_131 ?_
  refine s_iald (tt := 0) rfl dX5_resolve_132 ?_
  refine s_iast hZ.1 (tt := 0) rfl dX5_resolve_133 ?_
  refine s_aload_n hZ.1 dX5_resolve_134 rfl ?_
  refine s_dup hZ.1 dX5_resolve_135 ?_
  refine yg5_16 dX5_resolve_136 zw1377 ?_
  refine s_iconst dX5_resolve_139 (by decide +kernel) ?_
  refine s_iadd dX5_resolve_140 ?_
  refine yp5_16 hZ.1 dX5_resolve_141 zw1377 ?_
  refine s_iinc hZ.1 dX5_resolve_144 (Nat.le_of_ble_eq_true rfl) ?_
  exact s_goto dX5_resolve_147 (by decide) (hj 1 103 rfl)
noncomputable def vX5_resolve_103 (j : Nat → rx_K) : rx_K := o_ld rx_isI 5 (o_ld rx_isI 4 (o_c2 rx_lt (vX5_resolve_110 j) (vX5_resolve_150 j)))
set_option maxRecDepth 20000 in
theorem wX5_resolve_103 (hZ : zO b e D A X) (j : Nat → rx_K) (hj : ∀ k pc, [5, 103, 174][k]? = some pc → rx_OK (zV b e D A X) mX5_resolve 2 pc (j k)) : rx_OK (zV b e D A X) mX5_resolve 2 103 (vX5_resolve_103 j) := by
  unfold vX5_resolve_103
  refine s_iload hZ.1 dX5_resolve_103 ?_
  refine s_iload hZ.1 dX5_resolve_105 ?_
  exact s_icmp_ge dX5_resolve_107 (by decide) (wX5_resolve_150 hZ j hj) (wX5_resolve_110 hZ j hj)
noncomputable def vX5_resolve_90 (j : Nat → rx_K) : rx_K := o_ld rx_isR 0 (o_getf 5 0 (o_ld rx_isI 1 (o_callV 1 11 FX11_faces (o_st rx_isI 4 (o_const 0 (o_st rx_isI 5 ((vX5_resolve_103 j))))))))
set_option maxRecDepth 20000 in
theorem wX5_resolve_90 (hZ : zO b e D A X) (j : Nat → rx_K) (hj : ∀ k pc, [5, 103, 174][k]? = some pc → rx_OK (zV b e D A X) mX5_resolve 2 pc (j k)) : rx_OK (zV b e D A X) mX5_resolve 2 90 (vX5_resolve_90 j) := by
  unfold vX5_resolve_90
  refine s_aload_n hZ.1 dX5_resolve_90 rfl ?_
  refine yg5_0 dX5_resolve_91 zw1350 ?_
  refine s_iload_n hZ.1 dX5_resolve_94 rfl ?_
  refine s_callV hZ.1 (Met_X11_faces hZ) (Nat.le_of_ble_eq_true rfl) vy_X11_faces zcl11 zw1984 zw1985 (Or.inl zw2541) dX5_resolve_95 ?_
  refine s_istore hZ.1 dX5_resolve_98 (Nat.le_of_ble_eq_true rfl) ?_
  refine s_iconst dX5_resolve_100 (by decide +kernel) ?_
  refine s_istore hZ.1 dX5_resolve_101 (Nat.le_of_ble_eq_true rfl) ?_
  exact (wX5_resolve_103 hZ j hj)
noncomputable def vX5_resolve_74 (j : Nat → rx_K) : rx_K := o_ld rx_isR 0 (o_getf 5 0 (o_getf 11 3 (o_ld rx_isI 3 (o_ald 0 (o_st rx_isI 3 (o_inc 4 (1) ((j 0))))))))
set_option maxRecDepth 20000 in
theorem wX5_resolve_74 (hZ : zO b e D A X) (j : Nat → rx_K) (hj : ∀ k pc, [5, 103, 174][k]? = some pc → rx_OK (zV b e D A X) mX5_resolve 2 pc (j k)) : rx_OK (zV b e D A X) mX5_resolve 2 74 (vX5_resolve_74 j) := by
  unfold vX5_resolve_74
  refine s_aload_n hZ.1 dX5_resolve_74 rfl ?_
  refine yg5_0 dX5_resolve_75 zw1350 ?_
  refine yg11_3 dX5_resolve_78 zw1264 ?_
  refine s_iload_n hZ.1 dX5_resolve_81 rfl ?_
  refine s_iald (tt := 0) rfl dX5_resolve_82 ?_
  refine s_istore_n hZ.1 dX5_resolve_83 rfl (Nat.le_of_ble_eq_true rfl) ?_
  refine s_iinc hZ.1 dX5_resolve_84 (Nat.le_of_ble_eq_true rfl) ?_
  exact s_goto dX5_resolve_87 (by decide) (hj 0 5 rfl)
noncomputable def vX5_resolve_63 (j : Nat → rx_K) : rx_K := o_ld rx_isR 0 (o_getf 5 0 (o_ld rx_isI 3 (o_putf rx_isI 11 18 (o_ld rx_isR 5 (o_ret1 rx_isR)))))
set_option maxRecDepth 20000 in
theorem wX5_resolve_63 (hZ : zO b e D A X) (j : Nat → rx_K) (hj : ∀ k pc, [5, 103, 174][k]? = some pc → rx_OK (zV b e D A X) mX5_resolve 2 pc (j k)) : rx_OK (zV b e D A X) mX5_resolve 2 63 (vX5_resolve_63 j) := by
  unfold vX5_resolve_63
  refine s_aload_n hZ.1 dX5_resolve_63 rfl ?_
  refine yg5_0 dX5_resolve_64 zw1350 ?_
  refine s_iload_n hZ.1 dX5_resolve_67 rfl ?_
  refine yp11_18 hZ.1 dX5_resolve_68 zw1298 ?_
  refine s_aload hZ.1 dX5_resolve_71 ?_
  exact s_aret hZ.1 rfl (Or.inl ⟨_, rfl⟩) dX5_resolve_73
noncomputable def vX5_resolve_23 (j : Nat → rx_K) : rx_K := o_ld rx_isR 0 (o_getf 5 15 (o_ld rx_isR 0 (o_getf 5 16 (o_ld rx_isI 3 (o_ast 0 (fun v => v) rx_isI (o_ld rx_isR 0 (o_dup (o_getf 5 16 (o_const 8 (o_bi (fun x y => x + y) (o_putf rx_isI 5 16 (o_ld rx_isR 0 (o_getf 5 0 (o_getf 11 1 (o_ld rx_isI 3 (o_ald 4 (o_ld rx_isR 2 (o_callV 1 10 FX10_method (o_st rx_isR 5 (o_ld rx_isR 5 (o_nul (vX5_resolve_74 j) (vX5_resolve_63 j))))))))))))))))))))))
set_option maxRecDepth 20000 in
theorem wX5_resolve_23 (hZ : zO b e D A X) (j : Nat → rx_K) (hj : ∀ k pc, [5, 103, 174][k]? = some pc → rx_OK (zV b e D A X) mX5_resolve 2 pc (j k)) : rx_OK (zV b e D A X) mX5_resolve 2 23 (vX5_resolve_23 j) := by
  unfold vX5_resolve_23
  refine s_aload_n hZ.1 dX5_resolve_23 rfl ?_
  refine yg5_15 dX5_resolve_24 zw1375 ?_
  refine s_aload_n hZ.1 dX5_resolve_27 rfl ?_
  refine yg5_16 dX5_resolve_28 zw1377 ?_
  refine s_iload_n hZ.1 dX5_resolve_31 rfl ?_
  refine s_iast hZ.1 (tt := 0) rfl dX5_resolve_32 ?_
  refine s_aload_n hZ.1 dX5_resolve_33 rfl ?_
  refine s_dup hZ.1 dX5_resolve_34 ?_
  refine yg5_16 dX5_resolve_35 zw1377 ?_
  refine s_iconst dX5_resolve_38 (by decide +kernel) ?_
  refine s_iadd dX5_resolve_39 ?_
  refine yp5_16 hZ.1 dX5_resolve_40 zw1377 ?_
  refine s_aload_n hZ.1 dX5_resolve_43 rfl ?_
  refine yg5_0 dX5_resolve_44 zw1350 ?_
  refine yg11_1 dX5_resolve_47 zw1253 ?_
  refine s_iload_n hZ.1 dX5_resolve_50 rfl ?_
  refine s_aald (tt := 4) rfl rfl dX5_resolve_51 ?_
  refine s_aload_n hZ.1 dX5_resolve_52 rfl ?_
  refine s_callV hZ.1 (Met_X10_method hZ) (Nat.le_of_ble_eq_true rfl) vy_X10_method zcl10 zw2011 zw2012 (Or.inl zw2540) dX5_resolve_53 ?_
  refine s_astore hZ.1 dX5_resolve_56 (Nat.le_of_ble_eq_true rfl) ?_
  refine s_aload hZ.1 dX5_resolve_58 ?_
  exact s_ifnull dX5_resolve_60 (by decide) (wX5_resolve_74 hZ j hj) (wX5_resolve_63 hZ j hj)
noncomputable def vX5_resolve_19 (j : Nat → rx_K) : rx_K := o_ld rx_isI 3 (o_c1 rx_lt (vX5_resolve_90 j) (vX5_resolve_23 j))
set_option maxRecDepth 20000 in
theorem wX5_resolve_19 (hZ : zO b e D A X) (j : Nat → rx_K) (hj : ∀ k pc, [5, 103, 174][k]? = some pc → rx_OK (zV b e D A X) mX5_resolve 2 pc (j k)) : rx_OK (zV b e D A X) mX5_resolve 2 19 (vX5_resolve_19 j) := by
  unfold vX5_resolve_19
  refine s_iload_n hZ.1 dX5_resolve_19 rfl ?_
  exact s_if_lt dX5_resolve_20 (by decide) (wX5_resolve_90 hZ j hj) (wX5_resolve_23 hZ j hj)
noncomputable def vX5_resolve_5 (j : Nat → rx_K) : rx_K := o_ld rx_isI 4 (o_ld rx_isR 0 (o_getf 5 0 (o_getf 11 4 (o_ld rx_isI 1 (o_ald 0 (o_c2 (fun h x y => rx_lt h y x) (vX5_resolve_90 j) (vX5_resolve_19 j)))))))
set_option maxRecDepth 20000 in
theorem wX5_resolve_5 (hZ : zO b e D A X) (j : Nat → rx_K) (hj : ∀ k pc, [5, 103, 174][k]? = some pc → rx_OK (zV b e D A X) mX5_resolve 2 pc (j k)) : rx_OK (zV b e D A X) mX5_resolve 2 5 (vX5_resolve_5 j) := by
  unfold vX5_resolve_5
  refine s_iload hZ.1 dX5_resolve_5 ?_
  refine s_aload_n hZ.1 dX5_resolve_7 rfl ?_
  refine yg5_0 dX5_resolve_8 zw1350 ?_
  refine yg11_4 dX5_resolve_11 zw1268 ?_
  refine s_iload_n hZ.1 dX5_resolve_14 rfl ?_
  refine s_iald (tt := 0) rfl dX5_resolve_15 ?_
  exact s_icmp_gt dX5_resolve_16 (by decide) (wX5_resolve_90 hZ j hj) (wX5_resolve_19 hZ j hj)
noncomputable def vX5_resolve_0 (j : Nat → rx_K) : rx_K := o_ld rx_isI 1 (o_st rx_isI 3 (o_const 0 (o_st rx_isI 4 ((vX5_resolve_5 j)))))
set_option maxRecDepth 20000 in
theorem wX5_resolve_0 (hZ : zO b e D A X) (j : Nat → rx_K) (hj : ∀ k pc, [5, 103, 174][k]? = some pc → rx_OK (zV b e D A X) mX5_resolve 2 pc (j k)) : rx_OK (zV b e D A X) mX5_resolve 2 0 (vX5_resolve_0 j) := by
  unfold vX5_resolve_0
  refine s_iload_n hZ.1 dX5_resolve_0 rfl ?_
  refine s_istore_n hZ.1 dX5_resolve_1 rfl (Nat.le_of_ble_eq_true rfl) ?_
  refine s_iconst dX5_resolve_2 (by decide +kernel) ?_
  refine s_istore hZ.1 dX5_resolve_3 (Nat.le_of_ble_eq_true rfl) ?_
  exact (wX5_resolve_5 hZ j hj)
noncomputable def vhX5_resolve (j : Nat → rx_K) : List rx_K := [vX5_resolve_5 j, vX5_resolve_103 j, vX5_resolve_174 j]
theorem vlX5_resolve (hZ : zO b e D A X) : ∀ n k pc, [5, 103, 174][k]? = some pc → rx_OK (zV b e D A X) mX5_resolve 2 pc (rx_J (vhX5_resolve) n k) := rx_loop fun j hj k pc h => by
  match k, h with
  | 0, h =>
    have e9 := Option.some.inj (show some 5 = some pc from h)
    subst e9
    exact wX5_resolve_5 hZ j hj
  | 1, h =>
    have e9 := Option.some.inj (show some 103 = some pc from h)
    subst e9
    exact wX5_resolve_103 hZ j hj
  | 2, h =>
    have e9 := Option.some.inj (show some 174 = some pc from h)
    subst e9
    exact wX5_resolve_174 hZ j hj
  | _ + 3, h => exact absurd h (by simp)
noncomputable def FX5_resolve : List Nat → rx_H → Option (Nat × rx_H) := rx_ent 7 (vX5_resolve_0 (rx_J (vhX5_resolve) 4000000000))
theorem Met_X5_resolve (hZ : zO b e D A X) : rx_Met (zV b e D A X) 2 yX5_resolve mX5_resolve (FX5_resolve) := rx_entry hZ.1 (wX5_resolve_0 hZ _ (vlX5_resolve hZ 4000000000)) (by decide +kernel) rfl (fun h => by cases h)
abbrev mX5_askMethod : rx_M := (RX5, cX5_askMethod, 7, (some .int), false)
theorem vy_X5_askMethod : rx_Y (zV b e D A X) yX5_askMethod mX5_askMethod 4 := ⟨zw2535, zw428, by decide, by decide +kernel, by decide +kernel, by decide +kernel⟩
noncomputable def vX5_askMethod_135 : rx_K := o_ret1 rx_isI
set_option maxRecDepth 20000 in
theorem wX5_askMethod_135 (hZ : zO b e D A X) : rx_OK (zV b e D A X) mX5_askMethod 3 135 vX5_askMethod_135 := by
  unfold vX5_askMethod_135
  exact s_iret hZ.1 rfl dX5_askMethod_135
noncomputable def vX5_askMethod_130 : rx_K := o_ld rx_isR 4 (o_callV 2 5 FX5_askSuper (vX5_askMethod_135))
set_option maxRecDepth 20000 in
theorem wX5_askMethod_130 (hZ : zO b e D A X) : rx_OK (zV b e D A X) mX5_askMethod 3 130 vX5_askMethod_130 := by
  unfold vX5_askMethod_130
  refine s_aload hZ.1 dX5_askMethod_130 ?_
  refine s_callV hZ.1 (Met_X5_askSuper hZ) (Nat.le_of_ble_eq_true rfl) vy_X5_askSuper zcl5 zw2546 zw135 (Or.inl zw2544) dX5_askMethod_132 ?_
  exact (wX5_askMethod_135 hZ)
noncomputable def vX5_askMethod_129 : rx_K := o_ld rx_isI 2 (vX5_askMethod_130)
set_option maxRecDepth 20000 in
theorem wX5_askMethod_129 (hZ : zO b e D A X) : rx_OK (zV b e D A X) mX5_askMethod 3 129 vX5_askMethod_129 := by
  unfold vX5_askMethod_129
  refine s_iload_n hZ.1 dX5_askMethod_129 rfl ?_
  exact (wX5_askMethod_130 hZ)
noncomputable def vX5_askMethod_117 : rx_K := o_ld rx_isR 0 (o_getf 5 0 (o_getf 11 3 (o_ld rx_isI 1 (o_ald 0 (vX5_askMethod_130)))))
set_option maxRecDepth 20000 in
theorem wX5_askMethod_117 (hZ : zO b e D A X) : rx_OK (zV b e D A X) mX5_askMethod 3 117 vX5_askMethod_117 := by
  unfold vX5_askMethod_117
  refine s_aload_n hZ.1 dX5_askMethod_117 rfl ?_
  refine yg5_0 dX5_askMethod_118 zw1350 ?_
  refine yg11_3 dX5_askMethod_121 zw1264 ?_
  refine s_iload_n hZ.1 dX5_askMethod_124 rfl ?_
  refine s_iald (tt := 0) rfl dX5_askMethod_125 ?_
  exact s_goto dX5_askMethod_126 (by decide) (wX5_askMethod_130 hZ)
noncomputable def vX5_askMethod_110 : rx_K := o_ld rx_isR 0 (o_ld rx_isI 3 (o_const 88 (o_c2 rx_eq vX5_askMethod_117 vX5_askMethod_129)))
set_option maxRecDepth 20000 in
theorem wX5_askMethod_110 (hZ : zO b e D A X) : rx_OK (zV b e D A X) mX5_askMethod 3 110 vX5_askMethod_110 := by
  unfold vX5_askMethod_110
  refine s_aload_n hZ.1 dX5_askMethod_110 rfl ?_
  refine s_iload_n hZ.1 dX5_askMethod_111 rfl ?_
  refine s_bipush dX5_askMethod_112 (by decide +kernel) ?_
  exact s_icmp_ne dX5_askMethod_114 (by decide) (wX5_askMethod_129 hZ) (wX5_askMethod_117 hZ)
noncomputable def vX5_askMethod_106 : rx_K := o_const 0 (vX5_askMethod_135)
set_option maxRecDepth 20000 in
theorem wX5_askMethod_106 (hZ : zO b e D A X) : rx_OK (zV b e D A X) mX5_askMethod 3 106 vX5_askMethod_106 := by
  unfold vX5_askMethod_106
  refine s_iconst dX5_askMethod_106 (by decide +kernel) ?_
  exact s_goto dX5_askMethod_107 (by decide) (wX5_askMethod_135 hZ)
noncomputable def vX5_askMethod_100 : rx_K := o_ld rx_isI 3 (o_const 88 (o_c2 rx_lt vX5_askMethod_106 vX5_askMethod_110))
set_option maxRecDepth 20000 in
theorem wX5_askMethod_100 (hZ : zO b e D A X) : rx_OK (zV b e D A X) mX5_askMethod 3 100 vX5_askMethod_100 := by
  unfold vX5_askMethod_100
  refine s_iload_n hZ.1 dX5_askMethod_100 rfl ?_
  refine s_bipush dX5_askMethod_101 (by decide +kernel) ?_
  exact s_icmp_ge dX5_askMethod_103 (by decide) (wX5_askMethod_110 hZ) (wX5_askMethod_106 hZ)
noncomputable def vX5_askMethod_98 : rx_K := o_const 24 (o_ret1 rx_isI)
set_option maxRecDepth 20000 in
theorem wX5_askMethod_98 (hZ : zO b e D A X) : rx_OK (zV b e D A X) mX5_askMethod 3 98 vX5_askMethod_98 := by
  unfold vX5_askMethod_98
  refine s_iconst dX5_askMethod_98 (by decide +kernel) ?_
  exact s_iret hZ.1 rfl dX5_askMethod_99
noncomputable def vX5_askMethod_86 : rx_K := o_st rx_isI 6 (o_ld rx_isR 5 (o_getf 7 2 (o_ld rx_isI 6 (o_c2 rx_eq vX5_askMethod_100 vX5_askMethod_98))))
set_option maxRecDepth 20000 in
theorem wX5_askMethod_86 (hZ : zO b e D A X) : rx_OK (zV b e D A X) mX5_askMethod 3 86 vX5_askMethod_86 := by
  unfold vX5_askMethod_86
  refine s_istore hZ.1 dX5_askMethod_86 (Nat.le_of_ble_eq_true rfl) ?_
  refine s_aload hZ.1 dX5_askMethod_88 ?_
  refine yg7_2 dX5_askMethod_90 zw969 ?_
  refine s_iload hZ.1 dX5_askMethod_93 ?_
  exact s_icmp_eq dX5_askMethod_95 (by decide) (wX5_askMethod_100 hZ) (wX5_askMethod_98 hZ)
noncomputable def vX5_askMethod_85 : rx_K := o_const 0 (vX5_askMethod_86)
set_option maxRecDepth 20000 in
theorem wX5_askMethod_85 (hZ : zO b e D A X) : rx_OK (zV b e D A X) mX5_askMethod 3 85 vX5_askMethod_85 := by
  unfold vX5_askMethod_85
  refine s_iconst dX5_askMethod_85 (by decide +kernel) ?_
  exact (wX5_askMethod_86 hZ)
noncomputable def vX5_askMethod_81 : rx_K := o_const 8 (vX5_askMethod_86)
set_option maxRecDepth 20000 in
theorem wX5_askMethod_81 (hZ : zO b e D A X) : rx_OK (zV b e D A X) mX5_askMethod 3 81 vX5_askMethod_81 := by
  unfold vX5_askMethod_81
  refine s_iconst dX5_askMethod_81 (by decide +kernel) ?_
  exact s_goto dX5_askMethod_82 (by decide) (wX5_askMethod_86 hZ)
noncomputable def vX5_askMethod_75 : rx_K := o_ld rx_isI 3 (o_const 80 (o_c2 rx_eq vX5_askMethod_81 vX5_askMethod_85))
set_option maxRecDepth 20000 in
theorem wX5_askMethod_75 (hZ : zO b e D A X) : rx_OK (zV b e D A X) mX5_askMethod 3 75 vX5_askMethod_75 := by
  unfold vX5_askMethod_75
  refine s_iload_n hZ.1 dX5_askMethod_75 rfl ?_
  refine s_bipush dX5_askMethod_76 (by decide +kernel) ?_
  exact s_icmp_ne dX5_askMethod_78 (by decide) (wX5_askMethod_85 hZ) (wX5_askMethod_81 hZ)
noncomputable def vX5_askMethod_69 : rx_K := o_ld rx_isI 3 (o_const 72 (o_c2 rx_eq vX5_askMethod_81 vX5_askMethod_75))
set_option maxRecDepth 20000 in
theorem wX5_askMethod_69 (hZ : zO b e D A X) : rx_OK (zV b e D A X) mX5_askMethod 3 69 vX5_askMethod_69 := by
  unfold vX5_askMethod_69
  refine s_iload_n hZ.1 dX5_askMethod_69 rfl ?_
  refine s_bipush dX5_askMethod_70 (by decide +kernel) ?_
  exact s_icmp_eq dX5_askMethod_72 (by decide) (wX5_askMethod_81 hZ) (wX5_askMethod_75 hZ)
noncomputable def vX5_askMethod_67 : rx_K := o_const 16 (o_ret1 rx_isI)
set_option maxRecDepth 20000 in
theorem wX5_askMethod_67 (hZ : zO b e D A X) : rx_OK (zV b e D A X) mX5_askMethod 3 67 vX5_askMethod_67 := by
  unfold vX5_askMethod_67
  refine s_iconst dX5_askMethod_67 (by decide +kernel) ?_
  exact s_iret hZ.1 rfl dX5_askMethod_68
noncomputable def vX5_askMethod_52 : rx_K := o_ld rx_isR 0 (o_ld rx_isR 5 (o_ld rx_isR 0 (o_getf 5 12 (o_ld rx_isI 2 (o_ld rx_isI 1 (o_callV 4 5 FX5_isLet (o_c1 rx_eq vX5_askMethod_67 vX5_askMethod_69)))))))
set_option maxRecDepth 20000 in
theorem wX5_askMethod_52 (hZ : zO b e D A X) : rx_OK (zV b e D A X) mX5_askMethod 3 52 vX5_askMethod_52 := by
  unfold vX5_askMethod_52
  refine s_aload_n hZ.1 dX5_askMethod_52 rfl ?_
  refine s_aload hZ.1 dX5_askMethod_53 ?_
  refine s_aload_n hZ.1 dX5_askMethod_55 rfl ?_
  refine yg5_12 dX5_askMethod_56 zw1369 ?_
  refine s_iload_n hZ.1 dX5_askMethod_59 rfl ?_
  refine s_iload_n hZ.1 dX5_askMethod_60 rfl ?_
  refine s_callV hZ.1 (Met_X5_isLet hZ) (Nat.le_of_ble_eq_true rfl) vy_X5_isLet zcl5 zw2525 zw131 (Or.inl zw2523) dX5_askMethod_61 ?_
  exact s_if_ne dX5_askMethod_64 (by decide) (wX5_askMethod_69 hZ) (wX5_askMethod_67 hZ)
noncomputable def vX5_askMethod_50 : rx_K := o_const 40 (o_ret1 rx_isI)
set_option maxRecDepth 20000 in
theorem wX5_askMethod_50 (hZ : zO b e D A X) : rx_OK (zV b e D A X) mX5_askMethod 3 50 vX5_askMethod_50 := by
  unfold vX5_askMethod_50
  refine s_iconst dX5_askMethod_50 (by decide +kernel) ?_
  exact s_iret hZ.1 rfl dX5_askMethod_51
noncomputable def vX5_askMethod_45 : rx_K := o_ld rx_isR 5 (o_nul vX5_askMethod_50 vX5_askMethod_52)
set_option maxRecDepth 20000 in
theorem wX5_askMethod_45 (hZ : zO b e D A X) : rx_OK (zV b e D A X) mX5_askMethod 3 45 vX5_askMethod_45 := by
  unfold vX5_askMethod_45
  refine s_aload hZ.1 dX5_askMethod_45 ?_
  exact s_ifnonnull dX5_askMethod_47 (by decide) (wX5_askMethod_52 hZ) (wX5_askMethod_50 hZ)
noncomputable def vX5_askMethod_40 : rx_K := o_ld rx_isR 0 (o_const 3 (o_putf rx_isR 5 11 (vX5_askMethod_45)))
set_option maxRecDepth 20000 in
theorem wX5_askMethod_40 (hZ : zO b e D A X) : rx_OK (zV b e D A X) mX5_askMethod 3 40 vX5_askMethod_40 := by
  unfold vX5_askMethod_40
  refine s_aload_n hZ.1 dX5_askMethod_40 rfl ?_
  refine s_null dX5_askMethod_41 ?_
  refine yp5_11 hZ.1 dX5_askMethod_42 zw1366 ?_
  exact (wX5_askMethod_45 hZ)
noncomputable def vX5_askMethod_34 : rx_K := o_ld rx_isI 3 (o_const 96 (o_c2 rx_eq vX5_askMethod_40 vX5_askMethod_45))
set_option maxRecDepth 20000 in
theorem wX5_askMethod_34 (hZ : zO b e D A X) : rx_OK (zV b e D A X) mX5_askMethod 3 34 vX5_askMethod_34 := by
  unfold vX5_askMethod_34
  refine s_iload_n hZ.1 dX5_askMethod_34 rfl ?_
  refine s_bipush dX5_askMethod_35 (by decide +kernel) ?_
  exact s_icmp_ne dX5_askMethod_37 (by decide) (wX5_askMethod_45 hZ) (wX5_askMethod_40 hZ)
noncomputable def vX5_askMethod_0 : rx_K := o_ld rx_isR 0 (o_ld rx_isR 0 (o_ld rx_isI 2 (o_ld rx_isR 4 (o_callV 2 5 FX5_resolve (o_putf rx_isR 5 11 (o_ld rx_isR 0 (o_ld rx_isR 0 (o_getf 5 0 (o_getf 11 18 (o_putf rx_isI 5 12 (o_ld rx_isR 0 (o_getf 5 11 (o_st rx_isR 5 (o_ld rx_isI 3 (o_const 88 (o_c2 rx_eq vX5_askMethod_40 vX5_askMethod_34))))))))))))))))
set_option maxRecDepth 20000 in
theorem wX5_askMethod_0 (hZ : zO b e D A X) : rx_OK (zV b e D A X) mX5_askMethod 3 0 vX5_askMethod_0 := by
  unfold vX5_askMethod_0
  refine s_aload_n hZ.1 dX5_askMethod_0 rfl ?_
  refine s_aload_n hZ.1 dX5_askMethod_1 rfl ?_
  refine s_iload_n hZ.1 dX5_askMethod_2 rfl ?_
  refine s_aload hZ.1 dX5_askMethod_3 ?_
  refine s_callV hZ.1 (Met_X5_resolve hZ) (Nat.le_of_ble_eq_true rfl) vy_X5_resolve zcl5 zw2538 zw134 (Or.inl zw2536) dX5_askMethod_5 ?_
  refine yp5_11 hZ.1 dX5_askMethod_8 zw1366 ?_
  refine s_aload_n hZ.1 dX5_askMethod_11 rfl ?_
  refine s_aload_n hZ.1 dX5_askMethod_12 rfl ?_
  refine yg5_0 dX5_askMethod_13 zw1350 ?_
  refine yg11_18 dX5_askMethod_16 zw1298 ?_
  refine yp5_12 hZ.1 dX5_askMethod_19 zw1369 ?_
  refine s_aload_n hZ.1 dX5_askMethod_22 rfl ?_
  refine yg5_11 dX5_askMethod_23 zw1366 ?_
  refine s_astore hZ.1 dX5_askMethod_26 (Nat.le_of_ble_eq_true rfl) ?_
  refine s_iload_n hZ.1 dX5_askMethod_28 rfl ?_
  refine s_bipush dX5_askMethod_29 (by decide +kernel) ?_
  exact s_icmp_eq dX5_askMethod_31 (by decide) (wX5_askMethod_40 hZ) (wX5_askMethod_34 hZ)
noncomputable def FX5_askMethod : List Nat → rx_H → Option (Nat × rx_H) := rx_ent 7 vX5_askMethod_0
theorem Met_X5_askMethod (hZ : zO b e D A X) : rx_Met (zV b e D A X) 3 yX5_askMethod mX5_askMethod (FX5_askMethod) := rx_entry hZ.1 (wX5_askMethod_0 hZ) (by decide +kernel) rfl (fun h => by cases h)
abbrev mX5_askMember : rx_M := (RX5, cX5_askMember, 7, (some .int), false)
theorem vy_X5_askMember : rx_Y (zV b e D A X) yX5_askMember mX5_askMember 4 := ⟨zw2518, zw428, by decide, by decide +kernel, by decide +kernel, by decide +kernel⟩
noncomputable def vX5_askMember_184 : rx_K := o_ret1 rx_isI
set_option maxRecDepth 20000 in
theorem wX5_askMember_184 (hZ : zO b e D A X) : rx_OK (zV b e D A X) mX5_askMember 4 184 vX5_askMember_184 := by
  unfold vX5_askMember_184
  exact s_iret hZ.1 rfl dX5_askMember_184
noncomputable def vX5_askMember_175 : rx_K := o_ld rx_isR 0 (o_ld rx_isI 1 (o_ld rx_isI 2 (o_ld rx_isI 3 (o_ld rx_isR 4 (o_callV 4 5 FX5_askMethod (vX5_askMember_184))))))
set_option maxRecDepth 20000 in
theorem wX5_askMember_175 (hZ : zO b e D A X) : rx_OK (zV b e D A X) mX5_askMember 4 175 vX5_askMember_175 := by
  unfold vX5_askMember_175
  refine s_aload_n hZ.1 dX5_askMember_175 rfl ?_
  refine s_iload_n hZ.1 dX5_askMember_176 rfl ?_
  refine s_iload_n hZ.1 dX5_askMember_177 rfl ?_
  refine s_iload_n hZ.1 dX5_askMember_178 rfl ?_
  refine s_aload hZ.1 dX5_askMember_179 ?_
  refine s_callV hZ.1 (Met_X5_askMethod hZ) (Nat.le_of_ble_eq_true rfl) vy_X5_askMethod zcl5 zw2534 zw133 (Or.inl zw2532) dX5_askMember_181 ?_
  exact (wX5_askMember_184 hZ)
noncomputable def vX5_askMember_171 : rx_K := o_const 24 (vX5_askMember_184)
set_option maxRecDepth 20000 in
theorem wX5_askMember_171 (hZ : zO b e D A X) : rx_OK (zV b e D A X) mX5_askMember 4 171 vX5_askMember_171 := by
  unfold vX5_askMember_171
  refine s_iconst dX5_askMember_171 (by decide +kernel) ?_
  exact s_goto dX5_askMember_172 (by decide) (wX5_askMember_184 hZ)
noncomputable def vX5_askMember_159 : rx_K := o_st rx_isI 6 (o_ld rx_isR 5 (o_getf 10 4 (o_ld rx_isI 6 (o_c2 rx_eq vX5_askMember_175 vX5_askMember_171))))
set_option maxRecDepth 20000 in
theorem wX5_askMember_159 (hZ : zO b e D A X) : rx_OK (zV b e D A X) mX5_askMember 4 159 vX5_askMember_159 := by
  unfold vX5_askMember_159
  refine s_istore hZ.1 dX5_askMember_159 (Nat.le_of_ble_eq_true rfl) ?_
  refine s_aload hZ.1 dX5_askMember_161 ?_
  refine yg10_4 dX5_askMember_163 zw794 ?_
  refine s_iload hZ.1 dX5_askMember_166 ?_
  exact s_icmp_eq dX5_askMember_168 (by decide) (wX5_askMember_175 hZ) (wX5_askMember_171 hZ)
noncomputable def vX5_askMember_158 : rx_K := o_const 0 (vX5_askMember_159)
set_option maxRecDepth 20000 in
theorem wX5_askMember_158 (hZ : zO b e D A X) : rx_OK (zV b e D A X) mX5_askMember 4 158 vX5_askMember_158 := by
  unfold vX5_askMember_158
  refine s_iconst dX5_askMember_158 (by decide +kernel) ?_
  exact (wX5_askMember_159 hZ)
noncomputable def vX5_askMember_154 : rx_K := o_const 8 (vX5_askMember_159)
set_option maxRecDepth 20000 in
theorem wX5_askMember_154 (hZ : zO b e D A X) : rx_OK (zV b e D A X) mX5_askMember 4 154 vX5_askMember_154 := by
  unfold vX5_askMember_154
  refine s_iconst dX5_askMember_154 (by decide +kernel) ?_
  exact s_goto dX5_askMember_155 (by decide) (wX5_askMember_159 hZ)
noncomputable def vX5_askMember_148 : rx_K := o_ld rx_isI 3 (o_const 96 (o_c2 rx_eq vX5_askMember_154 vX5_askMember_158))
set_option maxRecDepth 20000 in
theorem wX5_askMember_148 (hZ : zO b e D A X) : rx_OK (zV b e D A X) mX5_askMember 4 148 vX5_askMember_148 := by
  unfold vX5_askMember_148
  refine s_iload_n hZ.1 dX5_askMember_148 rfl ?_
  refine s_bipush dX5_askMember_149 (by decide +kernel) ?_
  exact s_icmp_ne dX5_askMember_151 (by decide) (wX5_askMember_158 hZ) (wX5_askMember_154 hZ)
noncomputable def vX5_askMember_142 : rx_K := o_ld rx_isI 3 (o_const 80 (o_c2 rx_eq vX5_askMember_154 vX5_askMember_148))
set_option maxRecDepth 20000 in
theorem wX5_askMember_142 (hZ : zO b e D A X) : rx_OK (zV b e D A X) mX5_askMember 4 142 vX5_askMember_142 := by
  unfold vX5_askMember_142
  refine s_iload_n hZ.1 dX5_askMember_142 rfl ?_
  refine s_bipush dX5_askMember_143 (by decide +kernel) ?_
  exact s_icmp_eq dX5_askMember_145 (by decide) (wX5_askMember_154 hZ) (wX5_askMember_148 hZ)
noncomputable def vX5_askMember_136 : rx_K := o_ld rx_isI 3 (o_const 64 (o_c2 rx_eq vX5_askMember_154 vX5_askMember_142))
set_option maxRecDepth 20000 in
theorem wX5_askMember_136 (hZ : zO b e D A X) : rx_OK (zV b e D A X) mX5_askMember 4 136 vX5_askMember_136 := by
  unfold vX5_askMember_136
  refine s_iload_n hZ.1 dX5_askMember_136 rfl ?_
  refine s_bipush dX5_askMember_137 (by decide +kernel) ?_
  exact s_icmp_eq dX5_askMember_139 (by decide) (wX5_askMember_154 hZ) (wX5_askMember_142 hZ)
noncomputable def vX5_askMember_126 : rx_K := o_ld rx_isR 0 (o_ld rx_isI 1 (o_ld rx_isI 2 (o_ld rx_isI 3 (o_ld rx_isR 4 (o_callV 4 5 FX5_askField (o_ret1 rx_isI))))))
set_option maxRecDepth 20000 in
theorem wX5_askMember_126 (hZ : zO b e D A X) : rx_OK (zV b e D A X) mX5_askMember 4 126 vX5_askMember_126 := by
  unfold vX5_askMember_126
  refine s_aload_n hZ.1 dX5_askMember_126 rfl ?_
  refine s_iload_n hZ.1 dX5_askMember_127 rfl ?_
  refine s_iload_n hZ.1 dX5_askMember_128 rfl ?_
  refine s_iload_n hZ.1 dX5_askMember_129 rfl ?_
  refine s_aload hZ.1 dX5_askMember_130 ?_
  refine s_callV hZ.1 (Met_X5_askField hZ) (Nat.le_of_ble_eq_true rfl) vy_X5_askField zcl5 zw2530 zw132 (Or.inl zw2528) dX5_askMember_132 ?_
  exact s_iret hZ.1 rfl dX5_askMember_135
noncomputable def vX5_askMember_120 : rx_K := o_ld rx_isI 3 (o_const 48 (o_c2 (fun h x y => rx_lt h y x) vX5_askMember_136 vX5_askMember_126))
set_option maxRecDepth 20000 in
theorem wX5_askMember_120 (hZ : zO b e D A X) : rx_OK (zV b e D A X) mX5_askMember 4 120 vX5_askMember_120 := by
  unfold vX5_askMember_120
  refine s_iload_n hZ.1 dX5_askMember_120 rfl ?_
  refine s_bipush dX5_askMember_121 (by decide +kernel) ?_
  exact s_icmp_gt dX5_askMember_123 (by decide) (wX5_askMember_136 hZ) (wX5_askMember_126 hZ)
noncomputable def vX5_askMember_119 : rx_K := o_ret1 rx_isI
set_option maxRecDepth 20000 in
theorem wX5_askMember_119 (hZ : zO b e D A X) : rx_OK (zV b e D A X) mX5_askMember 4 119 vX5_askMember_119 := by
  unfold vX5_askMember_119
  exact s_iret hZ.1 rfl dX5_askMember_119
noncomputable def vX5_askMember_118 : rx_K := o_const 16 (vX5_askMember_119)
set_option maxRecDepth 20000 in
theorem wX5_askMember_118 (hZ : zO b e D A X) : rx_OK (zV b e D A X) mX5_askMember 4 118 vX5_askMember_118 := by
  unfold vX5_askMember_118
  refine s_iconst dX5_askMember_118 (by decide +kernel) ?_
  exact (wX5_askMember_119 hZ)
noncomputable def vX5_askMember_114 : rx_K := o_const 0 (vX5_askMember_119)
set_option maxRecDepth 20000 in
theorem wX5_askMember_114 (hZ : zO b e D A X) : rx_OK (zV b e D A X) mX5_askMember 4 114 vX5_askMember_114 := by
  unfold vX5_askMember_114
  refine s_iconst dX5_askMember_114 (by decide +kernel) ?_
  exact s_goto dX5_askMember_115 (by decide) (wX5_askMember_119 hZ)
noncomputable def vX5_askMember_100 : rx_K := o_ld rx_isR 0 (o_ld rx_isR 0 (o_getf 5 11 (o_ld rx_isI 2 (o_ld rx_isI 2 (o_ld rx_isI 1 (o_callV 4 5 FX5_isLet (o_c1 rx_eq vX5_askMember_118 vX5_askMember_114)))))))
set_option maxRecDepth 20000 in
theorem wX5_askMember_100 (hZ : zO b e D A X) : rx_OK (zV b e D A X) mX5_askMember 4 100 vX5_askMember_100 := by
  unfold vX5_askMember_100
  refine s_aload_n hZ.1 dX5_askMember_100 rfl ?_
  refine s_aload_n hZ.1 dX5_askMember_101 rfl ?_
  refine yg5_11 dX5_askMember_102 zw1366 ?_
  refine s_iload_n hZ.1 dX5_askMember_105 rfl ?_
  refine s_iload_n hZ.1 dX5_askMember_106 rfl ?_
  refine s_iload_n hZ.1 dX5_askMember_107 rfl ?_
  refine s_callV hZ.1 (Met_X5_isLet hZ) (Nat.le_of_ble_eq_true rfl) vy_X5_isLet zcl5 zw2525 zw131 (Or.inl zw2523) dX5_askMember_108 ?_
  exact s_if_eq dX5_askMember_111 (by decide) (wX5_askMember_118 hZ) (wX5_askMember_114 hZ)
noncomputable def vX5_askMember_96 : rx_K := o_const 40 (vX5_askMember_119)
set_option maxRecDepth 20000 in
theorem wX5_askMember_96 (hZ : zO b e D A X) : rx_OK (zV b e D A X) mX5_askMember 4 96 vX5_askMember_96 := by
  unfold vX5_askMember_96
  refine s_iconst dX5_askMember_96 (by decide +kernel) ?_
  exact s_goto dX5_askMember_97 (by decide) (wX5_askMember_119 hZ)
noncomputable def vX5_askMember_61 : rx_K := o_ld rx_isR 0 (o_const 8 (o_putf rx_isI 5 16 (o_ld rx_isR 0 (o_getf 5 15 (o_const 0 (o_ld rx_isI 2 (o_ast 0 (fun v => v) rx_isI (o_ld rx_isR 0 (o_ld rx_isR 5 (o_ld rx_isR 4 (o_callV 1 10 FX10_maker (o_putf rx_isR 5 11 (o_ld rx_isR 0 (o_ld rx_isI 2 (o_putf rx_isI 5 12 (o_ld rx_isR 0 (o_getf 5 11 (o_nul vX5_askMember_96 vX5_askMember_100))))))))))))))))))
set_option maxRecDepth 20000 in
theorem wX5_askMember_61 (hZ : zO b e D A X) : rx_OK (zV b e D A X) mX5_askMember 4 61 vX5_askMember_61 := by
  unfold vX5_askMember_61
  refine s_aload_n hZ.1 dX5_askMember_61 rfl ?_
  refine s_iconst dX5_askMember_62 (by decide +kernel) ?_
  refine yp5_16 hZ.1 dX5_askMember_63 zw1377 ?_
  refine s_aload_n hZ.1 dX5_askMember_66 rfl ?_
  refine yg5_15 dX5_askMember_67 zw1375 ?_
  refine s_iconst dX5_askMember_70 (by decide +kernel) ?_
  refine s_iload_n hZ.1 dX5_askMember_71 rfl ?_
  refine s_iast hZ.1 (tt := 0) rfl dX5_askMember_72 ?_
  refine s_aload_n hZ.1 dX5_askMember_73 rfl ?_
  refine s_aload hZ.1 dX5_askMember_74 ?_
  refine s_aload hZ.1 dX5_askMember_76 ?_
  refine s_callV hZ.1 (Met_X10_maker hZ) (Nat.le_of_ble_eq_true rfl) vy_X10_maker zcl10 zw2520 zw2521 (Or.inl zw2519) dX5_askMember_78 ?_
  refine yp5_11 hZ.1 dX5_askMember_81 zw1366 ?_
  refine s_aload_n hZ.1 dX5_askMember_84 rfl ?_
  refine s_iload_n hZ.1 dX5_askMember_85 rfl ?_
  refine yp5_12 hZ.1 dX5_askMember_86 zw1369 ?_
  refine s_aload_n hZ.1 dX5_askMember_89 rfl ?_
  refine yg5_11 dX5_askMember_90 zw1366 ?_
  exact s_ifnonnull dX5_askMember_93 (by decide) (wX5_askMember_100 hZ) (wX5_askMember_96 hZ)
noncomputable def vX5_askMember_59 : rx_K := o_const 24 (o_ret1 rx_isI)
set_option maxRecDepth 20000 in
theorem wX5_askMember_59 (hZ : zO b e D A X) : rx_OK (zV b e D A X) mX5_askMember 4 59 vX5_askMember_59 := by
  unfold vX5_askMember_59
  refine s_iconst dX5_askMember_59 (by decide +kernel) ?_
  exact s_iret hZ.1 rfl dX5_askMember_60
noncomputable def vX5_askMember_51 : rx_K := o_ld rx_isR 5 (o_getf 10 4 (o_c1 rx_eq vX5_askMember_61 vX5_askMember_59))
set_option maxRecDepth 20000 in
theorem wX5_askMember_51 (hZ : zO b e D A X) : rx_OK (zV b e D A X) mX5_askMember 4 51 vX5_askMember_51 := by
  unfold vX5_askMember_51
  refine s_aload hZ.1 dX5_askMember_51 ?_
  refine yg10_4 dX5_askMember_53 zw794 ?_
  exact s_if_eq dX5_askMember_56 (by decide) (wX5_askMember_61 hZ) (wX5_askMember_59 hZ)
noncomputable def vX5_askMember_46 : rx_K := o_ld rx_isI 3 (o_const 16 (o_c2 rx_eq vX5_askMember_51 vX5_askMember_120))
set_option maxRecDepth 20000 in
theorem wX5_askMember_46 (hZ : zO b e D A X) : rx_OK (zV b e D A X) mX5_askMember 4 46 vX5_askMember_46 := by
  unfold vX5_askMember_46
  refine s_iload_n hZ.1 dX5_askMember_46 rfl ?_
  refine s_iconst dX5_askMember_47 (by decide +kernel) ?_
  exact s_icmp_ne dX5_askMember_48 (by decide) (wX5_askMember_120 hZ) (wX5_askMember_51 hZ)
noncomputable def vX5_askMember_44 : rx_K := o_const 8 (o_ret1 rx_isI)
set_option maxRecDepth 20000 in
theorem wX5_askMember_44 (hZ : zO b e D A X) : rx_OK (zV b e D A X) mX5_askMember 4 44 vX5_askMember_44 := by
  unfold vX5_askMember_44
  refine s_iconst dX5_askMember_44 (by decide +kernel) ?_
  exact s_iret hZ.1 rfl dX5_askMember_45
noncomputable def vX5_askMember_39 : rx_K := o_ld rx_isR 4 (o_nul vX5_askMember_44 vX5_askMember_46)
set_option maxRecDepth 20000 in
theorem wX5_askMember_39 (hZ : zO b e D A X) : rx_OK (zV b e D A X) mX5_askMember 4 39 vX5_askMember_39 := by
  unfold vX5_askMember_39
  refine s_aload hZ.1 dX5_askMember_39 ?_
  exact s_ifnonnull dX5_askMember_41 (by decide) (wX5_askMember_46 hZ) (wX5_askMember_44 hZ)
noncomputable def vX5_askMember_38 : rx_K := o_ret1 rx_isI
set_option maxRecDepth 20000 in
theorem wX5_askMember_38 (hZ : zO b e D A X) : rx_OK (zV b e D A X) mX5_askMember 4 38 vX5_askMember_38 := by
  unfold vX5_askMember_38
  exact s_iret hZ.1 rfl dX5_askMember_38
noncomputable def vX5_askMember_37 : rx_K := o_const 0 (vX5_askMember_38)
set_option maxRecDepth 20000 in
theorem wX5_askMember_37 (hZ : zO b e D A X) : rx_OK (zV b e D A X) mX5_askMember 4 37 vX5_askMember_37 := by
  unfold vX5_askMember_37
  refine s_iconst dX5_askMember_37 (by decide +kernel) ?_
  exact (wX5_askMember_38 hZ)
noncomputable def vX5_askMember_32 : rx_K := o_const 56 (vX5_askMember_38)
set_option maxRecDepth 20000 in
theorem wX5_askMember_32 (hZ : zO b e D A X) : rx_OK (zV b e D A X) mX5_askMember 4 32 vX5_askMember_32 := by
  unfold vX5_askMember_32
  refine s_bipush dX5_askMember_32 (by decide +kernel) ?_
  exact s_goto dX5_askMember_34 (by decide) (wX5_askMember_38 hZ)
noncomputable def vX5_askMember_24 : rx_K := o_ld rx_isR 5 (o_getf 10 6 (o_c1 rx_eq vX5_askMember_37 vX5_askMember_32))
set_option maxRecDepth 20000 in
theorem wX5_askMember_24 (hZ : zO b e D A X) : rx_OK (zV b e D A X) mX5_askMember 4 24 vX5_askMember_24 := by
  unfold vX5_askMember_24
  refine s_aload hZ.1 dX5_askMember_24 ?_
  refine yg10_6 dX5_askMember_26 zw810 ?_
  exact s_if_eq dX5_askMember_29 (by decide) (wX5_askMember_37 hZ) (wX5_askMember_32 hZ)
noncomputable def vX5_askMember_16 : rx_K := o_ld rx_isR 5 (o_getf 10 4 (o_c1 rx_eq vX5_askMember_24 vX5_askMember_32))
set_option maxRecDepth 20000 in
theorem wX5_askMember_16 (hZ : zO b e D A X) : rx_OK (zV b e D A X) mX5_askMember 4 16 vX5_askMember_16 := by
  unfold vX5_askMember_16
  refine s_aload hZ.1 dX5_askMember_16 ?_
  refine yg10_4 dX5_askMember_18 zw794 ?_
  exact s_if_ne dX5_askMember_21 (by decide) (wX5_askMember_32 hZ) (wX5_askMember_24 hZ)
noncomputable def vX5_askMember_0 : rx_K := o_ld rx_isR 0 (o_getf 5 0 (o_getf 11 1 (o_ld rx_isI 2 (o_ald 4 (o_st rx_isR 5 (o_ld rx_isI 3 (o_const 8 (o_c2 rx_eq vX5_askMember_16 vX5_askMember_39))))))))
set_option maxRecDepth 20000 in
theorem wX5_askMember_0 (hZ : zO b e D A X) : rx_OK (zV b e D A X) mX5_askMember 4 0 vX5_askMember_0 := by
  unfold vX5_askMember_0
  refine s_aload_n hZ.1 dX5_askMember_0 rfl ?_
  refine yg5_0 dX5_askMember_1 zw1350 ?_
  refine yg11_1 dX5_askMember_4 zw1253 ?_
  refine s_iload_n hZ.1 dX5_askMember_7 rfl ?_
  refine s_aald (tt := 4) rfl rfl dX5_askMember_8 ?_
  refine s_astore hZ.1 dX5_askMember_9 (Nat.le_of_ble_eq_true rfl) ?_
  refine s_iload_n hZ.1 dX5_askMember_11 rfl ?_
  refine s_iconst dX5_askMember_12 (by decide +kernel) ?_
  exact s_icmp_ne dX5_askMember_13 (by decide) (wX5_askMember_39 hZ) (wX5_askMember_16 hZ)
noncomputable def FX5_askMember : List Nat → rx_H → Option (Nat × rx_H) := rx_ent 7 vX5_askMember_0
theorem Met_X5_askMember (hZ : zO b e D A X) : rx_Met (zV b e D A X) 4 yX5_askMember mX5_askMember (FX5_askMember) := rx_entry hZ.1 (wX5_askMember_0 hZ) (by decide +kernel) rfl (fun h => by cases h)
abbrev mX5_ask : rx_M := (RX5, cX5_ask, 9, (some .int), false)
theorem vy_X5_ask : rx_Y (zV b e D A X) yX5_ask mX5_ask 2 := ⟨zw2483, zw428, by decide, by decide +kernel, by decide +kernel, by decide +kernel⟩
noncomputable def vX5_ask_335 : rx_K := o_putf rx_isL 5 13 (o_ld rx_isI 7 (o_ret1 rx_isI))
set_option maxRecDepth 20000 in
theorem wX5_ask_335 (hZ : zO b e D A X) : rx_OK (zV b e D A X) mX5_ask 5 335 vX5_ask_335 := by
  unfold vX5_ask_335
  refine yp5_13 hZ.1 dX5_ask_335 zw1371 ?_
  refine s_iload hZ.1 dX5_ask_338 ?_
  exact s_iret hZ.1 rfl dX5_ask_340
noncomputable def vX5_ask_320 : rx_K := o_ld rx_isR 0 (o_getf 5 0 (o_getf 11 1 (o_ld rx_isR 0 (o_getf 5 12 (o_ald 4 (o_getf 10 1 (vX5_ask_335)))))))
set_option maxRecDepth 20000 in
theorem wX5_ask_320 (hZ : zO b e D A X) : rx_OK (zV b e D A X) mX5_ask 5 320 vX5_ask_320 := by
  unfold vX5_ask_320
  refine s_aload_n hZ.1 dX5_ask_320 rfl ?_
  refine yg5_0 dX5_ask_321 zw1350 ?_
  refine yg11_1 dX5_ask_324 zw1253 ?_
  refine s_aload_n hZ.1 dX5_ask_327 rfl ?_
  refine yg5_12 dX5_ask_328 zw1369 ?_
  refine s_aald (tt := 4) rfl rfl dX5_ask_331 ?_
  refine yg10_1 dX5_ask_332 zw775 ?_
  exact (wX5_ask_335 hZ)
noncomputable def vX5_ask_314 : rx_K := o_const 147573952589676412897 (vX5_ask_335)
set_option maxRecDepth 20000 in
theorem wX5_ask_314 (hZ : zO b e D A X) : rx_OK (zV b e D A X) mX5_ask 5 314 vX5_ask_314 := by
  unfold vX5_ask_314
  refine s_ldc2 dX5_ask_314 zw2484 (by decide +kernel) ?_
  exact s_goto dX5_ask_317 (by decide) (wX5_ask_335 hZ)
noncomputable def vX5_ask_306 : rx_K := o_ld rx_isR 0 (o_ld rx_isR 0 (o_getf 5 12 (o_c1 rx_lt vX5_ask_314 vX5_ask_320)))
set_option maxRecDepth 20000 in
theorem wX5_ask_306 (hZ : zO b e D A X) : rx_OK (zV b e D A X) mX5_ask 5 306 vX5_ask_306 := by
  unfold vX5_ask_306
  refine s_aload_n hZ.1 dX5_ask_306 rfl ?_
  refine s_aload_n hZ.1 dX5_ask_307 rfl ?_
  refine yg5_12 dX5_ask_308 zw1369 ?_
  exact s_if_ge dX5_ask_311 (by decide) (wX5_ask_320 hZ) (wX5_ask_314 hZ)
noncomputable def vX5_ask_287 : rx_K := o_ld rx_isR 0 (o_ld rx_isI 1 (o_ld rx_isI 8 (o_ld rx_isI 6 (o_ld rx_isR 4 (o_getf 1 13 (o_ld rx_isI 5 (o_ald 5 (o_callV 4 5 FX5_askMember (o_st rx_isI 7 (vX5_ask_306))))))))))
set_option maxRecDepth 20000 in
theorem wX5_ask_287 (hZ : zO b e D A X) : rx_OK (zV b e D A X) mX5_ask 5 287 vX5_ask_287 := by
  unfold vX5_ask_287
  refine s_aload_n hZ.1 dX5_ask_287 rfl ?_
  refine s_iload_n hZ.1 dX5_ask_288 rfl ?_
  refine s_iload hZ.1 dX5_ask_289 ?_
  refine s_iload hZ.1 dX5_ask_291 ?_
  refine s_aload hZ.1 dX5_ask_293 ?_
  refine yg1_13 dX5_ask_295 zw1158 ?_
  refine s_iload hZ.1 dX5_ask_298 ?_
  refine s_aald (tt := 5) rfl rfl dX5_ask_300 ?_
  refine s_callV hZ.1 (Met_X5_askMember hZ) (Nat.le_of_ble_eq_true rfl) vy_X5_askMember zcl5 zw2517 zw130 (Or.inl zw2515) dX5_ask_301 ?_
  refine s_istore hZ.1 dX5_ask_304 (Nat.le_of_ble_eq_true rfl) ?_
  exact (wX5_ask_306 hZ)
noncomputable def vX5_ask_280 : rx_K := o_ld rx_isI 6 (o_const 96 (o_c2 (fun h x y => rx_lt h y x) vX5_ask_306 vX5_ask_287))
set_option maxRecDepth 20000 in
theorem wX5_ask_280 (hZ : zO b e D A X) : rx_OK (zV b e D A X) mX5_ask 5 280 vX5_ask_280 := by
  unfold vX5_ask_280
  refine s_iload hZ.1 dX5_ask_280 ?_
  refine s_bipush dX5_ask_282 (by decide +kernel) ?_
  exact s_icmp_gt dX5_ask_284 (by decide) (wX5_ask_306 hZ) (wX5_ask_287 hZ)
noncomputable def vX5_ask_275 : rx_K := o_ld rx_isI 7 (o_c1 rx_eq vX5_ask_280 vX5_ask_306)
set_option maxRecDepth 20000 in
theorem wX5_ask_275 (hZ : zO b e D A X) : rx_OK (zV b e D A X) mX5_ask 5 275 vX5_ask_275 := by
  unfold vX5_ask_275
  refine s_iload hZ.1 dX5_ask_275 ?_
  exact s_if_ne dX5_ask_277 (by decide) (wX5_ask_306 hZ) (wX5_ask_280 hZ)
noncomputable def vX5_ask_272 : rx_K := o_const 16 (o_st rx_isI 7 (vX5_ask_275))
set_option maxRecDepth 20000 in
theorem wX5_ask_272 (hZ : zO b e D A X) : rx_OK (zV b e D A X) mX5_ask 5 272 vX5_ask_272 := by
  unfold vX5_ask_272
  refine s_iconst dX5_ask_272 (by decide +kernel) ?_
  refine s_istore hZ.1 dX5_ask_273 (Nat.le_of_ble_eq_true rfl) ?_
  exact (wX5_ask_275 hZ)
noncomputable def vX5_ask_259 : rx_K := o_ld rx_isR 0 (o_getf 5 0 (o_ld rx_isI 8 (o_ld rx_isI 1 (o_callV 2 11 FX11_isLet (o_c1 rx_eq vX5_ask_272 vX5_ask_275)))))
set_option maxRecDepth 20000 in
theorem wX5_ask_259 (hZ : zO b e D A X) : rx_OK (zV b e D A X) mX5_ask 5 259 vX5_ask_259 := by
  unfold vX5_ask_259
  refine s_aload_n hZ.1 dX5_ask_259 rfl ?_
  refine yg5_0 dX5_ask_260 zw1350 ?_
  refine s_iload hZ.1 dX5_ask_263 ?_
  refine s_iload_n hZ.1 dX5_ask_265 rfl ?_
  refine s_callV hZ.1 (Met_X11_isLet hZ) (Nat.le_of_ble_eq_true rfl) vy_X11_isLet zcl11 zw1945 zw1946 (Or.inl zw2514) dX5_ask_266 ?_
  exact s_if_ne dX5_ask_269 (by decide) (wX5_ask_275 hZ) (wX5_ask_272 hZ)
noncomputable def vX5_ask_252 : rx_K := o_st rx_isI 7 (o_ld rx_isI 7 (o_c1 rx_eq vX5_ask_259 vX5_ask_275))
set_option maxRecDepth 20000 in
theorem wX5_ask_252 (hZ : zO b e D A X) : rx_OK (zV b e D A X) mX5_ask 5 252 vX5_ask_252 := by
  unfold vX5_ask_252
  refine s_istore hZ.1 dX5_ask_252 (Nat.le_of_ble_eq_true rfl) ?_
  refine s_iload hZ.1 dX5_ask_254 ?_
  exact s_if_ne dX5_ask_256 (by decide) (wX5_ask_275 hZ) (wX5_ask_259 hZ)
noncomputable def vX5_ask_246 : rx_K := o_ld rx_isR 0 (o_ld rx_isI 8 (o_callV 1 5 FX5_load (vX5_ask_252)))
set_option maxRecDepth 20000 in
theorem wX5_ask_246 (hZ : zO b e D A X) : rx_OK (zV b e D A X) mX5_ask 5 246 vX5_ask_246 := by
  unfold vX5_ask_246
  refine s_aload_n hZ.1 dX5_ask_246 rfl ?_
  refine s_iload hZ.1 dX5_ask_247 ?_
  refine s_callV hZ.1 (Met_X5_load hZ) (Nat.le_of_ble_eq_true rfl) vy_X5_load zcl5 zw2493 zw2494 (Or.inl zw2492) dX5_ask_249 ?_
  exact (wX5_ask_252 hZ)
noncomputable def vX5_ask_242 : rx_K := o_const 8 (vX5_ask_252)
set_option maxRecDepth 20000 in
theorem wX5_ask_242 (hZ : zO b e D A X) : rx_OK (zV b e D A X) mX5_ask 5 242 vX5_ask_242 := by
  unfold vX5_ask_242
  refine s_iconst dX5_ask_242 (by decide +kernel) ?_
  exact s_goto dX5_ask_243 (by decide) (wX5_ask_252 hZ)
noncomputable def vX5_ask_214 : rx_K := o_ld rx_isR 0 (o_getf 5 0 (o_ld rx_isR 4 (o_getf 1 12 (o_ld rx_isI 5 (o_ald 1 (o_callV 1 11 FX11_find (o_st rx_isI 8 (o_ld rx_isR 0 (o_ld rx_isI 8 (o_putf rx_isI 5 14 (o_ld rx_isI 8 (o_c1 rx_lt vX5_ask_242 vX5_ask_246))))))))))))
set_option maxRecDepth 20000 in
theorem wX5_ask_214 (hZ : zO b e D A X) : rx_OK (zV b e D A X) mX5_ask 5 214 vX5_ask_214 := by
  unfold vX5_ask_214
  refine s_aload_n hZ.1 dX5_ask_214 rfl ?_
  refine yg5_0 dX5_ask_215 zw1350 ?_
  refine s_aload hZ.1 dX5_ask_218 ?_
  refine yg1_12 dX5_ask_220 zw1154 ?_
  refine s_iload hZ.1 dX5_ask_223 ?_
  refine s_lald (tt := 1) rfl dX5_ask_225 ?_
  refine s_callV hZ.1 (Met_X11_find hZ) (Nat.le_of_ble_eq_true rfl) vy_X11_find zcl11 zw1574 zw1575 (Or.inl zw2489) dX5_ask_226 ?_
  refine s_istore hZ.1 dX5_ask_229 (Nat.le_of_ble_eq_true rfl) ?_
  refine s_aload_n hZ.1 dX5_ask_231 rfl ?_
  refine s_iload hZ.1 dX5_ask_232 ?_
  refine yp5_14 hZ.1 dX5_ask_234 zw1373 ?_
  refine s_iload hZ.1 dX5_ask_237 ?_
  exact s_if_ge dX5_ask_239 (by decide) (wX5_ask_246 hZ) (wX5_ask_242 hZ)
noncomputable def vX5_ask_213 : rx_K := o_ret1 rx_isI
set_option maxRecDepth 20000 in
theorem wX5_ask_213 (hZ : zO b e D A X) : rx_OK (zV b e D A X) mX5_ask 5 213 vX5_ask_213 := by
  unfold vX5_ask_213
  exact s_iret hZ.1 rfl dX5_ask_213
noncomputable def vX5_ask_212 : rx_K := o_const 16 (vX5_ask_213)
set_option maxRecDepth 20000 in
theorem wX5_ask_212 (hZ : zO b e D A X) : rx_OK (zV b e D A X) mX5_ask 5 212 vX5_ask_212 := by
  unfold vX5_ask_212
  refine s_iconst dX5_ask_212 (by decide +kernel) ?_
  exact (wX5_ask_213 hZ)
noncomputable def vX5_ask_207 : rx_K := o_ld rx_isI 7 (vX5_ask_213)
set_option maxRecDepth 20000 in
theorem wX5_ask_207 (hZ : zO b e D A X) : rx_OK (zV b e D A X) mX5_ask 5 207 vX5_ask_207 := by
  unfold vX5_ask_207
  refine s_iload hZ.1 dX5_ask_207 ?_
  exact s_goto dX5_ask_209 (by decide) (wX5_ask_213 hZ)
noncomputable def vX5_ask_192 : rx_K := o_ld rx_isR 0 (o_getf 5 0 (o_ld rx_isR 0 (o_getf 5 14 (o_ld rx_isI 1 (o_callV 2 11 FX11_isLet (o_c1 rx_eq vX5_ask_212 vX5_ask_207))))))
set_option maxRecDepth 20000 in
theorem wX5_ask_192 (hZ : zO b e D A X) : rx_OK (zV b e D A X) mX5_ask 5 192 vX5_ask_192 := by
  unfold vX5_ask_192
  refine s_aload_n hZ.1 dX5_ask_192 rfl ?_
  refine yg5_0 dX5_ask_193 zw1350 ?_
  refine s_aload_n hZ.1 dX5_ask_196 rfl ?_
  refine yg5_14 dX5_ask_197 zw1373 ?_
  refine s_iload_n hZ.1 dX5_ask_200 rfl ?_
  refine s_callV hZ.1 (Met_X11_isLet hZ) (Nat.le_of_ble_eq_true rfl) vy_X11_isLet zcl11 zw1945 zw1946 (Or.inl zw2514) dX5_ask_201 ?_
  exact s_if_eq dX5_ask_204 (by decide) (wX5_ask_212 hZ) (wX5_ask_207 hZ)
noncomputable def vX5_ask_173 : rx_K := o_ld rx_isR 0 (o_ld rx_isR 4 (o_getf 1 12 (o_ld rx_isI 5 (o_ald 1 (o_callV 1 5 FX5_askCatch (o_st rx_isI 7 (o_ld rx_isI 7 (o_c1 rx_eq vX5_ask_192 vX5_ask_207))))))))
set_option maxRecDepth 20000 in
theorem wX5_ask_173 (hZ : zO b e D A X) : rx_OK (zV b e D A X) mX5_ask 5 173 vX5_ask_173 := by
  unfold vX5_ask_173
  refine s_aload_n hZ.1 dX5_ask_173 rfl ?_
  refine s_aload hZ.1 dX5_ask_174 ?_
  refine yg1_12 dX5_ask_176 zw1154 ?_
  refine s_iload hZ.1 dX5_ask_179 ?_
  refine s_lald (tt := 1) rfl dX5_ask_181 ?_
  refine s_callV hZ.1 (Met_X5_askCatch hZ) (Nat.le_of_ble_eq_true rfl) vy_X5_askCatch zcl5 zw2512 zw129 (Or.inl zw2510) dX5_ask_182 ?_
  refine s_istore hZ.1 dX5_ask_185 (Nat.le_of_ble_eq_true rfl) ?_
  refine s_iload hZ.1 dX5_ask_187 ?_
  exact s_if_ne dX5_ask_189 (by decide) (wX5_ask_207 hZ) (wX5_ask_192 hZ)
noncomputable def vX5_ask_166 : rx_K := o_ld rx_isI 6 (o_const 120 (o_c2 rx_eq vX5_ask_173 vX5_ask_214))
set_option maxRecDepth 20000 in
theorem wX5_ask_166 (hZ : zO b e D A X) : rx_OK (zV b e D A X) mX5_ask 5 166 vX5_ask_166 := by
  unfold vX5_ask_166
  refine s_iload hZ.1 dX5_ask_166 ?_
  refine s_bipush dX5_ask_168 (by decide +kernel) ?_
  exact s_icmp_ne dX5_ask_170 (by decide) (wX5_ask_214 hZ) (wX5_ask_173 hZ)
noncomputable def vX5_ask_145 : rx_K := o_ld rx_isR 0 (o_ld rx_isR 4 (o_getf 1 12 (o_ld rx_isI 5 (o_ald 1 (o_ld rx_isR 4 (o_getf 1 14 (o_ld rx_isI 5 (o_ald 1 (o_callV 2 5 FX5_askFit (o_ret1 rx_isI))))))))))
set_option maxRecDepth 20000 in
theorem wX5_ask_145 (hZ : zO b e D A X) : rx_OK (zV b e D A X) mX5_ask 5 145 vX5_ask_145 := by
  unfold vX5_ask_145
  refine s_aload_n hZ.1 dX5_ask_145 rfl ?_
  refine s_aload hZ.1 dX5_ask_146 ?_
  refine yg1_12 dX5_ask_148 zw1154 ?_
  refine s_iload hZ.1 dX5_ask_151 ?_
  refine s_lald (tt := 1) rfl dX5_ask_153 ?_
  refine s_aload hZ.1 dX5_ask_154 ?_
  refine yg1_14 dX5_ask_156 zw1162 ?_
  refine s_iload hZ.1 dX5_ask_159 ?_
  refine s_lald (tt := 1) rfl dX5_ask_161 ?_
  refine s_callV hZ.1 (Met_X5_askFit hZ) (Nat.le_of_ble_eq_true rfl) vy_X5_askFit zcl5 zw2507 zw128 (Or.inl zw2505) dX5_ask_162 ?_
  exact s_iret hZ.1 rfl dX5_ask_165
noncomputable def vX5_ask_138 : rx_K := o_ld rx_isI 6 (o_const 136 (o_c2 rx_eq vX5_ask_145 vX5_ask_166))
set_option maxRecDepth 20000 in
theorem wX5_ask_138 (hZ : zO b e D A X) : rx_OK (zV b e D A X) mX5_ask 5 138 vX5_ask_138 := by
  unfold vX5_ask_138
  refine s_iload hZ.1 dX5_ask_138 ?_
  refine s_bipush dX5_ask_140 (by decide +kernel) ?_
  exact s_icmp_ne dX5_ask_142 (by decide) (wX5_ask_166 hZ) (wX5_ask_145 hZ)
noncomputable def vX5_ask_135 : rx_K := o_ld rx_isI 7 (o_ret1 rx_isI)
set_option maxRecDepth 20000 in
theorem wX5_ask_135 (hZ : zO b e D A X) : rx_OK (zV b e D A X) mX5_ask 5 135 vX5_ask_135 := by
  unfold vX5_ask_135
  refine s_iload hZ.1 dX5_ask_135 ?_
  exact s_iret hZ.1 rfl dX5_ask_137
noncomputable def vX5_ask_123 : rx_K := o_ld rx_isR 0 (o_ld rx_isI 1 (o_callV 1 5 FX5_load (o_st rx_isI 7 (o_ld rx_isI 7 (o_c1 rx_eq vX5_ask_138 vX5_ask_135)))))
set_option maxRecDepth 20000 in
theorem wX5_ask_123 (hZ : zO b e D A X) : rx_OK (zV b e D A X) mX5_ask 5 123 vX5_ask_123 := by
  unfold vX5_ask_123
  refine s_aload_n hZ.1 dX5_ask_123 rfl ?_
  refine s_iload_n hZ.1 dX5_ask_124 rfl ?_
  refine s_callV hZ.1 (Met_X5_load hZ) (Nat.le_of_ble_eq_true rfl) vy_X5_load zcl5 zw2493 zw2494 (Or.inl zw2492) dX5_ask_125 ?_
  refine s_istore hZ.1 dX5_ask_128 (Nat.le_of_ble_eq_true rfl) ?_
  refine s_iload hZ.1 dX5_ask_130 ?_
  exact s_if_eq dX5_ask_132 (by decide) (wX5_ask_138 hZ) (wX5_ask_135 hZ)
noncomputable def vX5_ask_94 : rx_K := o_ld rx_isR 0 (o_ld rx_isR 4 (o_getf 1 12 (o_ld rx_isI 5 (o_ald 1 (o_ld rx_isR 4 (o_getf 1 13 (o_ld rx_isI 5 (o_ald 5 (o_ld rx_isR 4 (o_getf 1 14 (o_ld rx_isI 5 (o_ald 1 (o_callV 3 5 FX5_askCopy (o_ret1 rx_isI))))))))))))))
set_option maxRecDepth 20000 in
theorem wX5_ask_94 (hZ : zO b e D A X) : rx_OK (zV b e D A X) mX5_ask 5 94 vX5_ask_94 := by
  unfold vX5_ask_94
  refine s_aload_n hZ.1 dX5_ask_94 rfl ?_
  refine s_aload hZ.1 dX5_ask_95 ?_
  refine yg1_12 dX5_ask_97 zw1154 ?_
  refine s_iload hZ.1 dX5_ask_100 ?_
  refine s_lald (tt := 1) rfl dX5_ask_102 ?_
  refine s_aload hZ.1 dX5_ask_103 ?_
  refine yg1_13 dX5_ask_105 zw1158 ?_
  refine s_iload hZ.1 dX5_ask_108 ?_
  refine s_aald (tt := 5) rfl rfl dX5_ask_110 ?_
  refine s_aload hZ.1 dX5_ask_111 ?_
  refine yg1_14 dX5_ask_113 zw1162 ?_
  refine s_iload hZ.1 dX5_ask_116 ?_
  refine s_lald (tt := 1) rfl dX5_ask_118 ?_
  refine s_callV hZ.1 (Met_X5_askCopy hZ) (Nat.le_of_ble_eq_true rfl) vy_X5_askCopy zcl5 zw2487 zw126 (Or.inl zw2485) dX5_ask_119 ?_
  exact s_iret hZ.1 rfl dX5_ask_122
noncomputable def vX5_ask_77 : rx_K := o_ld rx_isR 4 (o_getf 1 10 (o_ld rx_isI 5 (o_ald 0 (o_st rx_isI 6 (o_ld rx_isI 6 (o_const 128 (o_c2 rx_eq vX5_ask_94 vX5_ask_123)))))))
set_option maxRecDepth 20000 in
theorem wX5_ask_77 (hZ : zO b e D A X) : rx_OK (zV b e D A X) mX5_ask 5 77 vX5_ask_77 := by
  unfold vX5_ask_77
  refine s_aload hZ.1 dX5_ask_77 ?_
  refine yg1_10 dX5_ask_79 zw1146 ?_
  refine s_iload hZ.1 dX5_ask_82 ?_
  refine s_iald (tt := 0) rfl dX5_ask_84 ?_
  refine s_istore hZ.1 dX5_ask_85 (Nat.le_of_ble_eq_true rfl) ?_
  refine s_iload hZ.1 dX5_ask_87 ?_
  refine s_bipush dX5_ask_89 (by decide +kernel) ?_
  exact s_icmp_ne dX5_ask_91 (by decide) (wX5_ask_123 hZ) (wX5_ask_94 hZ)
noncomputable def vX5_ask_75 : rx_K := o_const 8 (o_ret1 rx_isI)
set_option maxRecDepth 20000 in
theorem wX5_ask_75 (hZ : zO b e D A X) : rx_OK (zV b e D A X) mX5_ask 5 75 vX5_ask_75 := by
  unfold vX5_ask_75
  refine s_iconst dX5_ask_75 (by decide +kernel) ?_
  exact s_iret hZ.1 rfl dX5_ask_76
noncomputable def vX5_ask_65 : rx_K := o_ld rx_isI 5 (o_ld rx_isR 4 (o_getf 1 15 (o_c2 rx_lt vX5_ask_77 vX5_ask_75)))
set_option maxRecDepth 20000 in
theorem wX5_ask_65 (hZ : zO b e D A X) : rx_OK (zV b e D A X) mX5_ask 5 65 vX5_ask_65 := by
  unfold vX5_ask_65
  refine s_iload hZ.1 dX5_ask_65 ?_
  refine s_aload hZ.1 dX5_ask_67 ?_
  refine yg1_15 dX5_ask_69 zw1166 ?_
  exact s_icmp_lt dX5_ask_72 (by decide) (wX5_ask_77 hZ) (wX5_ask_75 hZ)
noncomputable def vX5_ask_57 : rx_K := o_ld rx_isI 2 (o_ld rx_isR 3 (o_getf 10 17 (o_c2 rx_lt vX5_ask_65 vX5_ask_75)))
set_option maxRecDepth 20000 in
theorem wX5_ask_57 (hZ : zO b e D A X) : rx_OK (zV b e D A X) mX5_ask 5 57 vX5_ask_57 := by
  unfold vX5_ask_57
  refine s_iload_n hZ.1 dX5_ask_57 rfl ?_
  refine s_aload_n hZ.1 dX5_ask_58 rfl ?_
  refine yg10_17 dX5_ask_59 zw879 ?_
  exact s_icmp_ge dX5_ask_62 (by decide) (wX5_ask_75 hZ) (wX5_ask_65 hZ)
noncomputable def vX5_ask_45 : rx_K := o_ld rx_isR 3 (o_getf 10 16 (o_ld rx_isI 2 (o_bi (fun x y => x + y) (o_st rx_isI 5 (o_ld rx_isI 2 (o_c1 rx_lt vX5_ask_75 vX5_ask_57))))))
set_option maxRecDepth 20000 in
theorem wX5_ask_45 (hZ : zO b e D A X) : rx_OK (zV b e D A X) mX5_ask 5 45 vX5_ask_45 := by
  unfold vX5_ask_45
  refine s_aload_n hZ.1 dX5_ask_45 rfl ?_
  refine yg10_16 dX5_ask_46 zw876 ?_
  refine s_iload_n hZ.1 dX5_ask_49 rfl ?_
  refine s_iadd dX5_ask_50 ?_
  refine s_istore hZ.1 dX5_ask_51 (Nat.le_of_ble_eq_true rfl) ?_
  refine s_iload_n hZ.1 dX5_ask_53 rfl ?_
  exact s_if_lt dX5_ask_54 (by decide) (wX5_ask_75 hZ) (wX5_ask_57 hZ)
noncomputable def vX5_ask_0 : rx_K := o_ld rx_isR 0 (o_const 3 (o_putf rx_isR 5 11 (o_ld rx_isR 0 (o_const 34359738352 (o_putf rx_isI 5 12 (o_ld rx_isR 0 (o_const 147573952589676412897 (o_putf rx_isL 5 13 (o_ld rx_isR 0 (o_const 0 (o_putf rx_isI 5 16 (o_ld rx_isR 0 (o_const 34359738352 (o_putf rx_isI 5 14 (o_ld rx_isR 0 (o_getf 5 0 (o_getf 11 1 (o_ld rx_isI 1 (o_ald 4 (o_st rx_isR 3 (o_ld rx_isR 3 (o_getf 10 0 (o_st rx_isR 4 (vX5_ask_45))))))))))))))))))))))))
set_option maxRecDepth 20000 in
theorem wX5_ask_0 (hZ : zO b e D A X) : rx_OK (zV b e D A X) mX5_ask 5 0 vX5_ask_0 := by
  unfold vX5_ask_0
  refine s_aload_n hZ.1 dX5_ask_0 rfl ?_
  refine s_null dX5_ask_1 ?_
  refine yp5_11 hZ.1 dX5_ask_2 zw1366 ?_
  refine s_aload_n hZ.1 dX5_ask_5 rfl ?_
  refine s_bipush dX5_ask_6 (by decide +kernel) ?_
  refine yp5_12 hZ.1 dX5_ask_8 zw1369 ?_
  refine s_aload_n hZ.1 dX5_ask_11 rfl ?_
  refine s_ldc2 dX5_ask_12 zw2484 (by decide +kernel) ?_
  refine yp5_13 hZ.1 dX5_ask_15 zw1371 ?_
  refine s_aload_n hZ.1 dX5_ask_18 rfl ?_
  refine s_iconst dX5_ask_19 (by decide +kernel) ?_
  refine yp5_16 hZ.1 dX5_ask_20 zw1377 ?_
  refine s_aload_n hZ.1 dX5_ask_23 rfl ?_
  refine s_bipush dX5_ask_24 (by decide +kernel) ?_
  refine yp5_14 hZ.1 dX5_ask_26 zw1373 ?_
  refine s_aload_n hZ.1 dX5_ask_29 rfl ?_
  refine yg5_0 dX5_ask_30 zw1350 ?_
  refine yg11_1 dX5_ask_33 zw1253 ?_
  refine s_iload_n hZ.1 dX5_ask_36 rfl ?_
  refine s_aald (tt := 4) rfl rfl dX5_ask_37 ?_
  refine s_astore_n hZ.1 dX5_ask_38 rfl (Nat.le_of_ble_eq_true rfl) ?_
  refine s_aload_n hZ.1 dX5_ask_39 rfl ?_
  refine yg10_0 dX5_ask_40 zw767 ?_
  refine s_astore hZ.1 dX5_ask_43 (Nat.le_of_ble_eq_true rfl) ?_
  exact (wX5_ask_45 hZ)
noncomputable def FX5_ask : List Nat → rx_H → Option (Nat × rx_H) := rx_ent 9 vX5_ask_0
theorem Met_X5_ask (hZ : zO b e D A X) : rx_Met (zV b e D A X) 5 yX5_ask mX5_ask (FX5_ask) := rx_entry hZ.1 (wX5_ask_0 hZ) (by decide +kernel) rfl (fun h => by cases h)
abbrev mX6_init : rx_M := (RX6, cX6_init, 1, none, true)
theorem vy_X6_init : rx_Y (zV b e D A X) yX6_init mX6_init 0 := ⟨zw1467, zw430, by decide, by decide +kernel, by decide +kernel, by decide +kernel⟩
noncomputable def vX6_init_54 : rx_K := o_putf rx_isR 6 8 (o_ld rx_isR 0 (o_const 1616 (o_newa 0 0 (o_putf rx_isR 6 9 (o_ld rx_isR 0 (o_const 16000 (o_newa 0 0 (o_putf rx_isR 6 11 (o_ld rx_isR 0 (o_const 10240 (o_newa 0 0 (o_putf rx_isR 6 13 (o_ld rx_isR 0 (o_const 800 (o_newa 0 0 (o_putf rx_isR 6 15 (o_ret0)))))))))))))))))
set_option maxRecDepth 20000 in
theorem wX6_init_54 (hZ : zO b e D A X) : rx_OK (zV b e D A X) mX6_init 2 54 vX6_init_54 := by
  unfold vX6_init_54
  refine yp6_8 hZ.1 rfl rfl dX6_init_54 zw1483 ?_
  refine s_aload_n hZ.1 dX6_init_57 rfl ?_
  refine s_sipush dX6_init_58 (by decide +kernel) ?_
  refine s_newa (tt := 0) (ty := .int) rfl rfl rfl rfl rfl (by decide) zw527 dX6_init_61 ?_
  refine yp6_9 hZ.1 rfl rfl dX6_init_63 zw1485 ?_
  refine s_aload_n hZ.1 dX6_init_66 rfl ?_
  refine s_sipush dX6_init_67 (by decide +kernel) ?_
  refine s_newa (tt := 0) (ty := .int) rfl rfl rfl rfl rfl (by decide) zw527 dX6_init_70 ?_
  refine yp6_11 hZ.1 rfl rfl dX6_init_72 zw1489 ?_
  refine s_aload_n hZ.1 dX6_init_75 rfl ?_
  refine s_sipush dX6_init_76 (by decide +kernel) ?_
  refine s_newa (tt := 0) (ty := .int) rfl rfl rfl rfl rfl (by decide) zw527 dX6_init_79 ?_
  refine yp6_13 hZ.1 rfl rfl dX6_init_81 zw1493 ?_
  refine s_aload_n hZ.1 dX6_init_84 rfl ?_
  refine s_bipush dX6_init_85 (by decide +kernel) ?_
  refine s_newa (tt := 0) (ty := .int) rfl rfl rfl rfl rfl (by decide) zw527 dX6_init_87 ?_
  refine yp6_15 hZ.1 rfl rfl dX6_init_89 zw1496 ?_
  exact s_vret rfl dX6_init_92
noncomputable def vX6_init_0 : rx_K := o_ld rx_isR 0 (o_obj (o_ld rx_isR 0 (o_new 5 20 zfs5 (o_dup (o_const 39520 (o_callI 1 FX5_init (o_putf rx_isR 6 1 (o_ld rx_isR 0 (o_const 192000 (o_newa 0 0 (o_putf rx_isR 6 2 (o_ld rx_isR 0 (o_const 200 (o_const 56 (o_mna 8 0 0 (o_putf rx_isR 6 4 (o_ld rx_isR 0 (o_const 9216 (o_newa 0 0 (o_putf rx_isR 6 6 (o_ld rx_isR 0 (o_const 1616 (o_newa 0 0 (vX6_init_54))))))))))))))))))))))))
set_option maxRecDepth 20000 in
theorem wX6_init_0 (hZ : zO b e D A X) : rx_OK (zV b e D A X) mX6_init 2 0 vX6_init_0 := by
  unfold vX6_init_0
  refine s_aload_n hZ.1 dX6_init_0 rfl ?_
  refine s_obj hZ.1 (Nat.le_of_ble_eq_true rfl) zw1468 zw440 zw441 dX6_init_1 ?_
  refine s_aload_n hZ.1 dX6_init_4 rfl ?_
  refine s_new zcl5 zfk5 dX6_init_5 zw1469 zw1344 zw428 ?_
  refine s_dup hZ.1 dX6_init_8 ?_
  refine s_sipush dX6_init_9 (by decide +kernel) ?_
  refine s_callI hZ.1 (Met_X5_init hZ) (Nat.le_of_ble_eq_true rfl) vy_X5_init rfl rfl zw1346 (Or.inl zw1470) dX6_init_12 ?_
  refine yp6_1 hZ.1 rfl rfl dX6_init_15 zw1474 ?_
  refine s_aload_n hZ.1 dX6_init_18 rfl ?_
  refine s_sipush dX6_init_19 (by decide +kernel) ?_
  refine s_newa (tt := 0) (ty := .int) rfl rfl rfl rfl rfl (by decide) zw527 dX6_init_22 ?_
  refine yp6_2 hZ.1 rfl rfl dX6_init_24 zw1476 ?_
  refine s_aload_n hZ.1 dX6_init_27 rfl ?_
  refine s_bipush dX6_init_28 (by decide +kernel) ?_
  refine s_bipush dX6_init_30 (by decide +kernel) ?_
  refine s_mna (to := 8) (ti := 0) rfl rfl rfl (by decide +kernel) rfl rfl (by decide) (by decide +kernel) (by decide +kernel) (zo_A hZ) zw1471 zw527 dX6_init_32 ?_
  refine yp6_4 hZ.1 rfl rfl dX6_init_36 zw1478 ?_
  refine s_aload_n hZ.1 dX6_init_39 rfl ?_
  refine s_sipush dX6_init_40 (by decide +kernel) ?_
  refine s_newa (tt := 0) (ty := .int) rfl rfl rfl rfl rfl (by decide) zw527 dX6_init_43 ?_
  refine yp6_6 hZ.1 rfl rfl dX6_init_45 zw1481 ?_
  refine s_aload_n hZ.1 dX6_init_48 rfl ?_
  refine s_sipush dX6_init_49 (by decide +kernel) ?_
  refine s_newa (tt := 0) (ty := .int) rfl rfl rfl rfl rfl (by decide) zw527 dX6_init_52 ?_
  exact (wX6_init_54 hZ)
noncomputable def FX6_init : List Nat → rx_H → Option (Nat × rx_H) := rx_ent 1 vX6_init_0
theorem Met_X6_init (hZ : zO b e D A X) : rx_Met (zV b e D A X) 2 yX6_init mX6_init (FX6_init) := rx_entry hZ.1 (wX6_init_0 hZ) (by decide +kernel) rfl (fun _ => rfl)
abbrev mX6_clear : rx_M := (RX6, cX6_clear, 2, none, false)
theorem vy_X6_clear : rx_Y (zV b e D A X) yX6_clear mX6_clear 1 := ⟨zw1596, zw430, by decide, by decide +kernel, by decide +kernel, by decide +kernel⟩
noncomputable def vX6_clear_0 : rx_K := o_ld rx_isR 0 (o_ld rx_isR 1 (o_putf rx_isR 6 0 (o_ld rx_isR 0 (o_getf 6 1 (o_ld rx_isR 1 (o_callV 1 5 FX5_clear (o_ld rx_isR 0 (o_const 0 (o_putf rx_isI 6 10 (o_ld rx_isR 0 (o_const 0 (o_putf rx_isI 6 12 (o_ld rx_isR 0 (o_getf 6 13 (o_const 0 (o_callS 2 FJ7_fill_53178 (o_ret0)))))))))))))))))
set_option maxRecDepth 20000 in
theorem wX6_clear_0 (hZ : zO b e D A X) : rx_OK (zV b e D A X) mX6_clear 2 0 vX6_clear_0 := by
  unfold vX6_clear_0
  refine s_aload_n hZ.1 dX6_clear_0 rfl ?_
  refine s_aload_n hZ.1 dX6_clear_1 rfl ?_
  refine yp6_0 hZ.1 dX6_clear_2 zw1473 ?_
  refine s_aload_n hZ.1 dX6_clear_5 rfl ?_
  refine yg6_1 dX6_clear_6 zw1474 ?_
  refine s_aload_n hZ.1 dX6_clear_9 rfl ?_
  refine s_callV hZ.1 (Met_X5_clear hZ) (Nat.le_of_ble_eq_true rfl) vy_X5_clear zcl5 zw1598 zw1599 (Or.inl zw1597) dX6_clear_10 ?_
  refine s_aload_n hZ.1 dX6_clear_13 rfl ?_
  refine s_iconst dX6_clear_14 (by decide +kernel) ?_
  refine yp6_10 hZ.1 dX6_clear_15 zw1487 ?_
  refine s_aload_n hZ.1 dX6_clear_18 rfl ?_
  refine s_iconst dX6_clear_19 (by decide +kernel) ?_
  refine yp6_12 hZ.1 dX6_clear_20 zw1491 ?_
  refine s_aload_n hZ.1 dX6_clear_23 rfl ?_
  refine yg6_13 dX6_clear_24 zw1493 ?_
  refine s_iconst dX6_clear_27 (by decide +kernel) ?_
  refine s_callS hZ.1 (Met_J7_fill_53178 hZ) (Nat.le_of_ble_eq_true rfl) vy_J7_fill_53178 zw1223 (Or.inl zw1602) dX6_clear_28 ?_
  exact s_vret rfl dX6_clear_31
noncomputable def FX6_clear : List Nat → rx_H → Option (Nat × rx_H) := rx_ent 2 vX6_clear_0
theorem Met_X6_clear (hZ : zO b e D A X) : rx_Met (zV b e D A X) 2 yX6_clear mX6_clear (FX6_clear) := rx_entry hZ.1 (wX6_clear_0 hZ) (by decide +kernel) rfl (fun h => by cases h)
abbrev mX6_fail : rx_M := (RX6, cX6_fail, 3, none, false)
theorem vy_X6_fail : rx_Y (zV b e D A X) yX6_fail mX6_fail 1 := ⟨zw2751, zw430, by decide, by decide +kernel, by decide +kernel, by decide +kernel⟩
noncomputable def vX6_fail_69 (j : Nat → rx_K) : rx_K := o_ld rx_isR 0 (o_const 0 (o_putf rx_isI 6 5 (o_ld rx_isR 0 (o_const 0 (o_putf rx_isI 6 3 (o_ld rx_isR 0 (o_const 0 (o_putf rx_isI 6 7 (o_ret0)))))))))
set_option maxRecDepth 20000 in
theorem wX6_fail_69 (hZ : zO b e D A X) (j : Nat → rx_K) (hj : ∀ k pc, [12][k]? = some pc → rx_OK (zV b e D A X) mX6_fail 1 pc (j k)) : rx_OK (zV b e D A X) mX6_fail 1 69 (vX6_fail_69 j) := by
  unfold vX6_fail_69
  refine s_aload_n hZ.1 dX6_fail_69 rfl ?_
  refine s_iconst dX6_fail_70 (by decide +kernel) ?_
  refine yp6_5 hZ.1 dX6_fail_71 zw1479 ?_
  refine s_aload_n hZ.1 dX6_fail_74 rfl ?_
  refine s_iconst dX6_fail_75 (by decide +kernel) ?_
  refine yp6_3 hZ.1 dX6_fail_76 zw1477 ?_
  refine s_aload_n hZ.1 dX6_fail_79 rfl ?_
  refine s_iconst dX6_fail_80 (by decide +kernel) ?_
  refine yp6_7 hZ.1 dX6_fail_81 zw1482 ?_
  exact s_vret rfl dX6_fail_84
noncomputable def vX6_fail_63 (j : Nat → rx_K) : rx_K := o_inc 2 (-1) ((j 0))
set_option maxRecDepth 20000 in
theorem wX6_fail_63 (hZ : zO b e D A X) (j : Nat → rx_K) (hj : ∀ k pc, [12][k]? = some pc → rx_OK (zV b e D A X) mX6_fail 1 pc (j k)) : rx_OK (zV b e D A X) mX6_fail 1 63 (vX6_fail_63 j) := by
  unfold vX6_fail_63
  refine s_iinc hZ.1 dX6_fail_63 (Nat.le_of_ble_eq_true rfl) ?_
  exact s_goto dX6_fail_66 (by decide) (hj 0 12 rfl)
noncomputable def vX6_fail_28 (j : Nat → rx_K) : rx_K := o_ld rx_isR 0 (o_getf 6 1 (o_getf 5 1 (o_ld rx_isR 0 (o_getf 6 4 (o_ld rx_isI 2 (o_ald 8 (o_const 0 (o_ald 0 (o_const 56 (o_ast 0 (fun v => v) rx_isI (o_ld rx_isR 0 (o_getf 6 1 (o_ld rx_isR 0 (o_getf 6 4 (o_ld rx_isI 2 (o_ald 8 (o_const 0 (o_ald 0 (o_const 56 (o_callV 2 5 FX5_tellEvent ((vX6_fail_63 j))))))))))))))))))))))
set_option maxRecDepth 20000 in
theorem wX6_fail_28 (hZ : zO b e D A X) (j : Nat → rx_K) (hj : ∀ k pc, [12][k]? = some pc → rx_OK (zV b e D A X) mX6_fail 1 pc (j k)) : rx_OK (zV b e D A X) mX6_fail 1 28 (vX6_fail_28 j) := by
  unfold vX6_fail_28
  refine s_aload_n hZ.1 dX6_fail_28 rfl ?_
  refine yg6_1 dX6_fail_29 zw1474 ?_
  refine yg5_1 dX6_fail_32 zw1352 ?_
  refine s_aload_n hZ.1 dX6_fail_35 rfl ?_
  refine yg6_4 dX6_fail_36 zw1478 ?_
  refine s_iload_n hZ.1 dX6_fail_39 rfl ?_
  refine s_aald (tt := 8) rfl rfl dX6_fail_40 ?_
  refine s_iconst dX6_fail_41 (by decide +kernel) ?_
  refine s_iald (tt := 0) rfl dX6_fail_42 ?_
  refine s_bipush dX6_fail_43 (by decide +kernel) ?_
  refine s_iast hZ.1 (tt := 0) rfl dX6_fail_45 ?_
  refine s_aload_n hZ.1 dX6_fail_46 rfl ?_
  refine yg6_1 dX6_fail_47 zw1474 ?_
  refine s_aload_n hZ.1 dX6_fail_50 rfl ?_
  refine yg6_4 dX6_fail_51 zw1478 ?_
  refine s_iload_n hZ.1 dX6_fail_54 rfl ?_
  refine s_aald (tt := 8) rfl rfl dX6_fail_55 ?_
  refine s_iconst dX6_fail_56 (by decide +kernel) ?_
  refine s_iald (tt := 0) rfl dX6_fail_57 ?_
  refine s_bipush dX6_fail_58 (by decide +kernel) ?_
  refine s_callV hZ.1 (Met_X5_tellEvent hZ) (Nat.le_of_ble_eq_true rfl) vy_X5_tellEvent zcl5 zw2502 zw2503 (Or.inl zw2752) dX6_fail_60 ?_
  exact (wX6_fail_63 hZ j hj)
noncomputable def vX6_fail_16 (j : Nat → rx_K) : rx_K := o_ld rx_isR 0 (o_getf 6 4 (o_ld rx_isI 2 (o_ald 8 (o_const 32 (o_ald 0 (o_const 24 (o_c2 rx_eq (vX6_fail_28 j) (vX6_fail_63 j))))))))
set_option maxRecDepth 20000 in
theorem wX6_fail_16 (hZ : zO b e D A X) (j : Nat → rx_K) (hj : ∀ k pc, [12][k]? = some pc → rx_OK (zV b e D A X) mX6_fail 1 pc (j k)) : rx_OK (zV b e D A X) mX6_fail 1 16 (vX6_fail_16 j) := by
  unfold vX6_fail_16
  refine s_aload_n hZ.1 dX6_fail_16 rfl ?_
  refine yg6_4 dX6_fail_17 zw1478 ?_
  refine s_iload_n hZ.1 dX6_fail_20 rfl ?_
  refine s_aald (tt := 8) rfl rfl dX6_fail_21 ?_
  refine s_iconst dX6_fail_22 (by decide +kernel) ?_
  refine s_iald (tt := 0) rfl dX6_fail_23 ?_
  refine s_iconst dX6_fail_24 (by decide +kernel) ?_
  exact s_icmp_ne dX6_fail_25 (by decide) (wX6_fail_63 hZ j hj) (wX6_fail_28 hZ j hj)
noncomputable def vX6_fail_12 (j : Nat → rx_K) : rx_K := o_ld rx_isI 2 (o_c1 rx_lt (vX6_fail_69 j) (vX6_fail_16 j))
set_option maxRecDepth 20000 in
theorem wX6_fail_12 (hZ : zO b e D A X) (j : Nat → rx_K) (hj : ∀ k pc, [12][k]? = some pc → rx_OK (zV b e D A X) mX6_fail 1 pc (j k)) : rx_OK (zV b e D A X) mX6_fail 1 12 (vX6_fail_12 j) := by
  unfold vX6_fail_12
  refine s_iload_n hZ.1 dX6_fail_12 rfl ?_
  exact s_if_lt dX6_fail_13 (by decide) (wX6_fail_69 hZ j hj) (wX6_fail_16 hZ j hj)
noncomputable def vX6_fail_0 (j : Nat → rx_K) : rx_K := o_ld rx_isR 0 (o_ld rx_isI 1 (o_putf rx_isI 6 17 (o_ld rx_isR 0 (o_getf 6 5 (o_const 8 (o_bi (fun x y => x - y) (o_st rx_isI 2 ((vX6_fail_12 j)))))))))
set_option maxRecDepth 20000 in
theorem wX6_fail_0 (hZ : zO b e D A X) (j : Nat → rx_K) (hj : ∀ k pc, [12][k]? = some pc → rx_OK (zV b e D A X) mX6_fail 1 pc (j k)) : rx_OK (zV b e D A X) mX6_fail 1 0 (vX6_fail_0 j) := by
  unfold vX6_fail_0
  refine s_aload_n hZ.1 dX6_fail_0 rfl ?_
  refine s_iload_n hZ.1 dX6_fail_1 rfl ?_
  refine yp6_17 hZ.1 dX6_fail_2 zw1500 ?_
  refine s_aload_n hZ.1 dX6_fail_5 rfl ?_
  refine yg6_5 dX6_fail_6 zw1479 ?_
  refine s_iconst dX6_fail_9 (by decide +kernel) ?_
  refine s_isub dX6_fail_10 ?_
  refine s_istore_n hZ.1 dX6_fail_11 rfl (Nat.le_of_ble_eq_true rfl) ?_
  exact (wX6_fail_12 hZ j hj)
noncomputable def vhX6_fail (j : Nat → rx_K) : List rx_K := [vX6_fail_12 j]
theorem vlX6_fail (hZ : zO b e D A X) : ∀ n k pc, [12][k]? = some pc → rx_OK (zV b e D A X) mX6_fail 1 pc (rx_J (vhX6_fail) n k) := rx_loop fun j hj k pc h => by
  match k, h with
  | 0, h =>
    have e9 := Option.some.inj (show some 12 = some pc from h)
    subst e9
    exact wX6_fail_12 hZ j hj
  | _ + 1, h => exact absurd h (by simp)
noncomputable def FX6_fail : List Nat → rx_H → Option (Nat × rx_H) := rx_ent 3 (vX6_fail_0 (rx_J (vhX6_fail) 4000000000))
theorem Met_X6_fail (hZ : zO b e D A X) : rx_Met (zV b e D A X) 1 yX6_fail mX6_fail (FX6_fail) := rx_entry hZ.1 (wX6_fail_0 hZ _ (vlX6_fail hZ 4000000000)) (by decide +kernel) rfl (fun h => by cases h)
end ZM18

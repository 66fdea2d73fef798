section ZM9
variable {b : Nat} {e : Nat → Value} {D : va_G} {A : Nat → ClassId} {X : State → Prop}
abbrev mX2_only : rx_M := (RX2, cX2_only, 6, (some .int), false)
theorem vy_X2_only : rx_Y (zV b e D A X) yX2_only mX2_only 2 := ⟨zw2632, zw429, by decide, by decide +kernel, by decide +kernel, by decide +kernel⟩
noncomputable def vX2_only_177 (j : Nat → rx_K) : rx_K := o_ret1 rx_isI
set_option maxRecDepth 20000 in
theorem wX2_only_177 (hZ : zO b e D A X) (j : Nat → rx_K) (hj : ∀ k pc, [73][k]? = some pc → rx_OK (zV b e D A X) mX2_only 2 pc (j k)) : rx_OK (zV b e D A X) mX2_only 2 177 (vX2_only_177 j) := by
  unfold vX2_only_177
  exact s_iret hZ.1 rfl dX2_only_177
noncomputable def vX2_only_176 (j : Nat → rx_K) : rx_K := o_const 0 ((vX2_only_177 j))
set_option maxRecDepth 20000 in
theorem wX2_only_176 (hZ : zO b e D A X) (j : Nat → rx_K) (hj : ∀ k pc, [73][k]? = some pc → rx_OK (zV b e D A X) mX2_only 2 pc (j k)) : rx_OK (zV b e D A X) mX2_only 2 176 (vX2_only_176 j) := by
  unfold vX2_only_176
  refine s_iconst dX2_only_176 (by decide +kernel) ?_
  exact (wX2_only_177 hZ j hj)
noncomputable def vX2_only_163 (j : Nat → rx_K) : rx_K := o_ld rx_isR 0 (o_const 112 (o_const 34359738352 (o_const 34359738352 (o_callV 3 2 FX2_note ((vX2_only_177 j))))))
set_option maxRecDepth 20000 in
theorem wX2_only_163 (hZ : zO b e D A X) (j : Nat → rx_K) (hj : ∀ k pc, [73][k]? = some pc → rx_OK (zV b e D A X) mX2_only 2 pc (j k)) : rx_OK (zV b e D A X) mX2_only 2 163 (vX2_only_163 j) := by
  unfold vX2_only_163
  refine s_aload_n hZ.1 dX2_only_163 rfl ?_
  refine s_bipush dX2_only_164 (by decide +kernel) ?_
  refine s_bipush dX2_only_166 (by decide +kernel) ?_
  refine s_bipush dX2_only_168 (by decide +kernel) ?_
  refine s_callV hZ.1 (Met_X2_note hZ) (Nat.le_of_ble_eq_true rfl) vy_X2_note zcl2 zw2609 zw140 (Or.inl zw2607) dX2_only_170 ?_
  exact s_goto dX2_only_173 (by decide) (wX2_only_177 hZ j hj)
noncomputable def vX2_only_158 (j : Nat → rx_K) : rx_K := o_ld rx_isI 4 (o_c1 rx_eq (vX2_only_176 j) (vX2_only_163 j))
set_option maxRecDepth 20000 in
theorem wX2_only_158 (hZ : zO b e D A X) (j : Nat → rx_K) (hj : ∀ k pc, [73][k]? = some pc → rx_OK (zV b e D A X) mX2_only 2 pc (j k)) : rx_OK (zV b e D A X) mX2_only 2 158 (vX2_only_158 j) := by
  unfold vX2_only_158
  refine s_iload hZ.1 dX2_only_158 ?_
  exact s_if_eq dX2_only_160 (by decide) (wX2_only_176 hZ j hj) (wX2_only_163 hZ j hj)
noncomputable def vX2_only_145 (j : Nat → rx_K) : rx_K := o_ld rx_isR 0 (o_const 104 (o_const 34359738352 (o_const 34359738352 (o_callV 3 2 FX2_note ((vX2_only_177 j))))))
set_option maxRecDepth 20000 in
theorem wX2_only_145 (hZ : zO b e D A X) (j : Nat → rx_K) (hj : ∀ k pc, [73][k]? = some pc → rx_OK (zV b e D A X) mX2_only 2 pc (j k)) : rx_OK (zV b e D A X) mX2_only 2 145 (vX2_only_145 j) := by
  unfold vX2_only_145
  refine s_aload_n hZ.1 dX2_only_145 rfl ?_
  refine s_bipush dX2_only_146 (by decide +kernel) ?_
  refine s_bipush dX2_only_148 (by decide +kernel) ?_
  refine s_bipush dX2_only_150 (by decide +kernel) ?_
  refine s_callV hZ.1 (Met_X2_note hZ) (Nat.le_of_ble_eq_true rfl) vy_X2_note zcl2 zw2609 zw140 (Or.inl zw2607) dX2_only_152 ?_
  exact s_goto dX2_only_155 (by decide) (wX2_only_177 hZ j hj)
noncomputable def vX2_only_141 (j : Nat → rx_K) : rx_K := o_ld rx_isI 3 (o_c1 rx_eq (vX2_only_158 j) (vX2_only_145 j))
set_option maxRecDepth 20000 in
theorem wX2_only_141 (hZ : zO b e D A X) (j : Nat → rx_K) (hj : ∀ k pc, [73][k]? = some pc → rx_OK (zV b e D A X) mX2_only 2 pc (j k)) : rx_OK (zV b e D A X) mX2_only 2 141 (vX2_only_141 j) := by
  unfold vX2_only_141
  refine s_iload_n hZ.1 dX2_only_141 rfl ?_
  exact s_if_eq dX2_only_142 (by decide) (wX2_only_158 hZ j hj) (wX2_only_145 hZ j hj)
noncomputable def vX2_only_132 (j : Nat → rx_K) : rx_K := o_bi (fun x y => x ||| y) (o_st rx_isI 4 (o_inc 5 (1) ((j 0))))
set_option maxRecDepth 20000 in
theorem wX2_only_132 (hZ : zO b e D A X) (j : Nat → rx_K) (hj : ∀ k pc, [73][k]? = some pc → rx_OK (zV b e D A X) mX2_only 2 pc (j k)) : rx_OK (zV b e D A X) mX2_only 2 132 (vX2_only_132 j) := by
  unfold vX2_only_132
  refine s_ior dX2_only_132 ?_
  refine s_istore hZ.1 dX2_only_133 (Nat.le_of_ble_eq_true rfl) ?_
  refine s_iinc hZ.1 dX2_only_135 (Nat.le_of_ble_eq_true rfl) ?_
  exact s_goto dX2_only_138 (by decide) (hj 0 73 rfl)
noncomputable def vX2_only_131 (j : Nat → rx_K) : rx_K := o_const 0 ((vX2_only_132 j))
set_option maxRecDepth 20000 in
theorem wX2_only_131 (hZ : zO b e D A X) (j : Nat → rx_K) (hj : ∀ k pc, [73][k]? = some pc → rx_OK (zV b e D A X) mX2_only 2 pc (j k)) : rx_OK (zV b e D A X) mX2_only 2 131 (vX2_only_131 j) := by
  unfold vX2_only_131
  refine s_iconst dX2_only_131 (by decide +kernel) ?_
  exact (wX2_only_132 hZ j hj)
noncomputable def vX2_only_127 (j : Nat → rx_K) : rx_K := o_const 8 ((vX2_only_132 j))
set_option maxRecDepth 20000 in
theorem wX2_only_127 (hZ : zO b e D A X) (j : Nat → rx_K) (hj : ∀ k pc, [73][k]? = some pc → rx_OK (zV b e D A X) mX2_only 2 pc (j k)) : rx_OK (zV b e D A X) mX2_only 2 127 (vX2_only_127 j) := by
  unfold vX2_only_127
  refine s_iconst dX2_only_127 (by decide +kernel) ?_
  exact s_goto dX2_only_128 (by decide) (wX2_only_132 hZ j hj)
noncomputable def vX2_only_105 (j : Nat → rx_K) : rx_K := o_bi (fun x y => x ||| y) (o_st rx_isI 3 (o_ld rx_isI 4 (o_ld rx_isR 1 (o_const 16 (o_ld rx_isI 5 (o_callV 2 10 FX10_listedAt (o_ld rx_isR 2 (o_const 16 (o_ld rx_isI 5 (o_callV 2 10 FX10_listedAt (o_bc (fun x y => lg_cmp x y) (o_c1 rx_eq (vX2_only_131 j) (vX2_only_127 j)))))))))))))
set_option maxRecDepth 20000 in
theorem wX2_only_105 (hZ : zO b e D A X) (j : Nat → rx_K) (hj : ∀ k pc, [73][k]? = some pc → rx_OK (zV b e D A X) mX2_only 2 pc (j k)) : rx_OK (zV b e D A X) mX2_only 2 105 (vX2_only_105 j) := by
  unfold vX2_only_105
  refine s_ior dX2_only_105 ?_
  refine s_istore_n hZ.1 dX2_only_106 rfl (Nat.le_of_ble_eq_true rfl) ?_
  refine s_iload hZ.1 dX2_only_107 ?_
  refine s_aload_n hZ.1 dX2_only_109 rfl ?_
  refine s_iconst dX2_only_110 (by decide +kernel) ?_
  refine s_iload hZ.1 dX2_only_111 ?_
  refine s_callV hZ.1 (Met_X10_listedAt hZ) (Nat.le_of_ble_eq_true rfl) vy_X10_listedAt zcl10 zw1586 zw1587 (Or.inl zw2627) dX2_only_113 ?_
  refine s_aload_n hZ.1 dX2_only_116 rfl ?_
  refine s_iconst dX2_only_117 (by decide +kernel) ?_
  refine s_iload hZ.1 dX2_only_118 ?_
  refine s_callV hZ.1 (Met_X10_listedAt hZ) (Nat.le_of_ble_eq_true rfl) vy_X10_listedAt zcl10 zw1586 zw1587 (Or.inl zw2627) dX2_only_120 ?_
  refine s_lcmp dX2_only_123 ?_
  exact s_if_eq dX2_only_124 (by decide) (wX2_only_131 hZ j hj) (wX2_only_127 hZ j hj)
noncomputable def vX2_only_104 (j : Nat → rx_K) : rx_K := o_const 0 ((vX2_only_105 j))
set_option maxRecDepth 20000 in
theorem wX2_only_104 (hZ : zO b e D A X) (j : Nat → rx_K) (hj : ∀ k pc, [73][k]? = some pc → rx_OK (zV b e D A X) mX2_only 2 pc (j k)) : rx_OK (zV b e D A X) mX2_only 2 104 (vX2_only_104 j) := by
  unfold vX2_only_104
  refine s_iconst dX2_only_104 (by decide +kernel) ?_
  exact (wX2_only_105 hZ j hj)
noncomputable def vX2_only_100 (j : Nat → rx_K) : rx_K := o_const 8 ((vX2_only_105 j))
set_option maxRecDepth 20000 in
theorem wX2_only_100 (hZ : zO b e D A X) (j : Nat → rx_K) (hj : ∀ k pc, [73][k]? = some pc → rx_OK (zV b e D A X) mX2_only 2 pc (j k)) : rx_OK (zV b e D A X) mX2_only 2 100 (vX2_only_100 j) := by
  unfold vX2_only_100
  refine s_iconst dX2_only_100 (by decide +kernel) ?_
  exact s_goto dX2_only_101 (by decide) (wX2_only_105 hZ j hj)
noncomputable def vX2_only_84 (j : Nat → rx_K) : rx_K := o_ld rx_isI 3 (o_ld rx_isR 2 (o_const 16 (o_ld rx_isR 1 (o_const 16 (o_ld rx_isI 5 (o_callV 2 10 FX10_listedAt (o_callV 2 10 FX10_has (o_c1 rx_eq (vX2_only_100 j) (vX2_only_104 j)))))))))
set_option maxRecDepth 20000 in
theorem wX2_only_84 (hZ : zO b e D A X) (j : Nat → rx_K) (hj : ∀ k pc, [73][k]? = some pc → rx_OK (zV b e D A X) mX2_only 2 pc (j k)) : rx_OK (zV b e D A X) mX2_only 2 84 (vX2_only_84 j) := by
  unfold vX2_only_84
  refine s_iload_n hZ.1 dX2_only_84 rfl ?_
  refine s_aload_n hZ.1 dX2_only_85 rfl ?_
  refine s_iconst dX2_only_86 (by decide +kernel) ?_
  refine s_aload_n hZ.1 dX2_only_87 rfl ?_
  refine s_iconst dX2_only_88 (by decide +kernel) ?_
  refine s_iload hZ.1 dX2_only_89 ?_
  refine s_callV hZ.1 (Met_X10_listedAt hZ) (Nat.le_of_ble_eq_true rfl) vy_X10_listedAt zcl10 zw1586 zw1587 (Or.inl zw2627) dX2_only_91 ?_
  refine s_callV hZ.1 (Met_X10_has hZ) (Nat.le_of_ble_eq_true rfl) vy_X10_has zcl10 zw1578 zw1579 (Or.inl zw2628) dX2_only_94 ?_
  exact s_if_ne dX2_only_97 (by decide) (wX2_only_104 hZ j hj) (wX2_only_100 hZ j hj)
noncomputable def vX2_only_73 (j : Nat → rx_K) : rx_K := o_ld rx_isI 5 (o_ld rx_isR 1 (o_getf 10 11 (o_const 16 (o_ald 0 (o_c2 rx_lt (vX2_only_84 j) (vX2_only_141 j))))))
set_option maxRecDepth 20000 in
theorem wX2_only_73 (hZ : zO b e D A X) (j : Nat → rx_K) (hj : ∀ k pc, [73][k]? = some pc → rx_OK (zV b e D A X) mX2_only 2 pc (j k)) : rx_OK (zV b e D A X) mX2_only 2 73 (vX2_only_73 j) := by
  unfold vX2_only_73
  refine s_iload hZ.1 dX2_only_73 ?_
  refine s_aload_n hZ.1 dX2_only_75 rfl ?_
  refine yg10_11 dX2_only_76 zw842 ?_
  refine s_iconst dX2_only_79 (by decide +kernel) ?_
  refine s_iald (tt := 0) rfl dX2_only_80 ?_
  exact s_icmp_ge dX2_only_81 (by decide) (wX2_only_141 hZ j hj) (wX2_only_84 hZ j hj)
noncomputable def vX2_only_68 (j : Nat → rx_K) : rx_K := o_st rx_isI 4 (o_const 0 (o_st rx_isI 5 ((vX2_only_73 j))))
set_option maxRecDepth 20000 in
theorem wX2_only_68 (hZ : zO b e D A X) (j : Nat → rx_K) (hj : ∀ k pc, [73][k]? = some pc → rx_OK (zV b e D A X) mX2_only 2 pc (j k)) : rx_OK (zV b e D A X) mX2_only 2 68 (vX2_only_68 j) := by
  unfold vX2_only_68
  refine s_istore hZ.1 dX2_only_68 (Nat.le_of_ble_eq_true rfl) ?_
  refine s_iconst dX2_only_70 (by decide +kernel) ?_
  refine s_istore hZ.1 dX2_only_71 (Nat.le_of_ble_eq_true rfl) ?_
  exact (wX2_only_73 hZ j hj)
noncomputable def vX2_only_67 (j : Nat → rx_K) : rx_K := o_const 0 ((vX2_only_68 j))
set_option maxRecDepth 20000 in
theorem wX2_only_67 (hZ : zO b e D A X) (j : Nat → rx_K) (hj : ∀ k pc, [73][k]? = some pc → rx_OK (zV b e D A X) mX2_only 2 pc (j k)) : rx_OK (zV b e D A X) mX2_only 2 67 (vX2_only_67 j) := by
  unfold vX2_only_67
  refine s_iconst dX2_only_67 (by decide +kernel) ?_
  exact (wX2_only_68 hZ j hj)
noncomputable def vX2_only_63 (j : Nat → rx_K) : rx_K := o_const 8 ((vX2_only_68 j))
set_option maxRecDepth 20000 in
theorem wX2_only_63 (hZ : zO b e D A X) (j : Nat → rx_K) (hj : ∀ k pc, [73][k]? = some pc → rx_OK (zV b e D A X) mX2_only 2 pc (j k)) : rx_OK (zV b e D A X) mX2_only 2 63 (vX2_only_63 j) := by
  unfold vX2_only_63
  refine s_iconst dX2_only_63 (by decide +kernel) ?_
  exact s_goto dX2_only_64 (by decide) (wX2_only_68 hZ j hj)
noncomputable def vX2_only_47 (j : Nat → rx_K) : rx_K := o_st rx_isI 3 (o_ld rx_isR 1 (o_getf 10 11 (o_const 16 (o_ald 0 (o_ld rx_isR 2 (o_getf 10 11 (o_const 16 (o_ald 0 (o_c2 rx_eq (vX2_only_67 j) (vX2_only_63 j))))))))))
set_option maxRecDepth 20000 in
theorem wX2_only_47 (hZ : zO b e D A X) (j : Nat → rx_K) (hj : ∀ k pc, [73][k]? = some pc → rx_OK (zV b e D A X) mX2_only 2 pc (j k)) : rx_OK (zV b e D A X) mX2_only 2 47 (vX2_only_47 j) := by
  unfold vX2_only_47
  refine s_istore_n hZ.1 dX2_only_47 rfl (Nat.le_of_ble_eq_true rfl) ?_
  refine s_aload_n hZ.1 dX2_only_48 rfl ?_
  refine yg10_11 dX2_only_49 zw842 ?_
  refine s_iconst dX2_only_52 (by decide +kernel) ?_
  refine s_iald (tt := 0) rfl dX2_only_53 ?_
  refine s_aload_n hZ.1 dX2_only_54 rfl ?_
  refine yg10_11 dX2_only_55 zw842 ?_
  refine s_iconst dX2_only_58 (by decide +kernel) ?_
  refine s_iald (tt := 0) rfl dX2_only_59 ?_
  exact s_icmp_eq dX2_only_60 (by decide) (wX2_only_67 hZ j hj) (wX2_only_63 hZ j hj)
noncomputable def vX2_only_46 (j : Nat → rx_K) : rx_K := o_const 0 ((vX2_only_47 j))
set_option maxRecDepth 20000 in
theorem wX2_only_46 (hZ : zO b e D A X) (j : Nat → rx_K) (hj : ∀ k pc, [73][k]? = some pc → rx_OK (zV b e D A X) mX2_only 2 pc (j k)) : rx_OK (zV b e D A X) mX2_only 2 46 (vX2_only_46 j) := by
  unfold vX2_only_46
  refine s_iconst dX2_only_46 (by decide +kernel) ?_
  exact (wX2_only_47 hZ j hj)
noncomputable def vX2_only_42 (j : Nat → rx_K) : rx_K := o_const 8 ((vX2_only_47 j))
set_option maxRecDepth 20000 in
theorem wX2_only_42 (hZ : zO b e D A X) (j : Nat → rx_K) (hj : ∀ k pc, [73][k]? = some pc → rx_OK (zV b e D A X) mX2_only 2 pc (j k)) : rx_OK (zV b e D A X) mX2_only 2 42 (vX2_only_42 j) := by
  unfold vX2_only_42
  refine s_iconst dX2_only_42 (by decide +kernel) ?_
  exact s_goto dX2_only_43 (by decide) (wX2_only_47 hZ j hj)
noncomputable def vX2_only_33 (j : Nat → rx_K) : rx_K := o_ld rx_isR 1 (o_getf 10 11 (o_const 16 (o_ald 0 (o_c1 rx_eq (vX2_only_42 j) (vX2_only_46 j)))))
set_option maxRecDepth 20000 in
theorem wX2_only_33 (hZ : zO b e D A X) (j : Nat → rx_K) (hj : ∀ k pc, [73][k]? = some pc → rx_OK (zV b e D A X) mX2_only 2 pc (j k)) : rx_OK (zV b e D A X) mX2_only 2 33 (vX2_only_33 j) := by
  unfold vX2_only_33
  refine s_aload_n hZ.1 dX2_only_33 rfl ?_
  refine yg10_11 dX2_only_34 zw842 ?_
  refine s_iconst dX2_only_37 (by decide +kernel) ?_
  refine s_iald (tt := 0) rfl dX2_only_38 ?_
  exact s_if_ne dX2_only_39 (by decide) (wX2_only_46 hZ j hj) (wX2_only_42 hZ j hj)
noncomputable def vX2_only_32 (j : Nat → rx_K) : rx_K := o_ret1 rx_isI
set_option maxRecDepth 20000 in
theorem wX2_only_32 (hZ : zO b e D A X) (j : Nat → rx_K) (hj : ∀ k pc, [73][k]? = some pc → rx_OK (zV b e D A X) mX2_only 2 pc (j k)) : rx_OK (zV b e D A X) mX2_only 2 32 (vX2_only_32 j) := by
  unfold vX2_only_32
  exact s_iret hZ.1 rfl dX2_only_32
noncomputable def vX2_only_22 (j : Nat → rx_K) : rx_K := o_ld rx_isR 0 (o_const 112 (o_const 34359738352 (o_const 34359738352 (o_callV 3 2 FX2_note ((vX2_only_32 j))))))
set_option maxRecDepth 20000 in
theorem wX2_only_22 (hZ : zO b e D A X) (j : Nat → rx_K) (hj : ∀ k pc, [73][k]? = some pc → rx_OK (zV b e D A X) mX2_only 2 pc (j k)) : rx_OK (zV b e D A X) mX2_only 2 22 (vX2_only_22 j) := by
  unfold vX2_only_22
  refine s_aload_n hZ.1 dX2_only_22 rfl ?_
  refine s_bipush dX2_only_23 (by decide +kernel) ?_
  refine s_bipush dX2_only_25 (by decide +kernel) ?_
  refine s_bipush dX2_only_27 (by decide +kernel) ?_
  refine s_callV hZ.1 (Met_X2_note hZ) (Nat.le_of_ble_eq_true rfl) vy_X2_note zcl2 zw2609 zw140 (Or.inl zw2607) dX2_only_29 ?_
  exact (wX2_only_32 hZ j hj)
noncomputable def vX2_only_18 (j : Nat → rx_K) : rx_K := o_const 0 ((vX2_only_32 j))
set_option maxRecDepth 20000 in
theorem wX2_only_18 (hZ : zO b e D A X) (j : Nat → rx_K) (hj : ∀ k pc, [73][k]? = some pc → rx_OK (zV b e D A X) mX2_only 2 pc (j k)) : rx_OK (zV b e D A X) mX2_only 2 18 (vX2_only_18 j) := by
  unfold vX2_only_18
  refine s_iconst dX2_only_18 (by decide +kernel) ?_
  exact s_goto dX2_only_19 (by decide) (wX2_only_32 hZ j hj)
noncomputable def vX2_only_9 (j : Nat → rx_K) : rx_K := o_ld rx_isR 1 (o_getf 10 11 (o_const 16 (o_ald 0 (o_c1 rx_eq (vX2_only_18 j) (vX2_only_22 j)))))
set_option maxRecDepth 20000 in
theorem wX2_only_9 (hZ : zO b e D A X) (j : Nat → rx_K) (hj : ∀ k pc, [73][k]? = some pc → rx_OK (zV b e D A X) mX2_only 2 pc (j k)) : rx_OK (zV b e D A X) mX2_only 2 9 (vX2_only_9 j) := by
  unfold vX2_only_9
  refine s_aload_n hZ.1 dX2_only_9 rfl ?_
  refine yg10_11 dX2_only_10 zw842 ?_
  refine s_iconst dX2_only_13 (by decide +kernel) ?_
  refine s_iald (tt := 0) rfl dX2_only_14 ?_
  exact s_if_ne dX2_only_15 (by decide) (wX2_only_22 hZ j hj) (wX2_only_18 hZ j hj)
noncomputable def vX2_only_0 (j : Nat → rx_K) : rx_K := o_ld rx_isR 2 (o_getf 10 11 (o_const 16 (o_ald 0 (o_c1 rx_eq (vX2_only_9 j) (vX2_only_33 j)))))
set_option maxRecDepth 20000 in
theorem wX2_only_0 (hZ : zO b e D A X) (j : Nat → rx_K) (hj : ∀ k pc, [73][k]? = some pc → rx_OK (zV b e D A X) mX2_only 2 pc (j k)) : rx_OK (zV b e D A X) mX2_only 2 0 (vX2_only_0 j) := by
  unfold vX2_only_0
  refine s_aload_n hZ.1 dX2_only_0 rfl ?_
  refine yg10_11 dX2_only_1 zw842 ?_
  refine s_iconst dX2_only_4 (by decide +kernel) ?_
  refine s_iald (tt := 0) rfl dX2_only_5 ?_
  exact s_if_ne dX2_only_6 (by decide) (wX2_only_33 hZ j hj) (wX2_only_9 hZ j hj)
noncomputable def vhX2_only (j : Nat → rx_K) : List rx_K := [vX2_only_73 j]
theorem vlX2_only (hZ : zO b e D A X) : ∀ n k pc, [73][k]? = some pc → rx_OK (zV b e D A X) mX2_only 2 pc (rx_J (vhX2_only) n k) := rx_loop fun j hj k pc h => by
  match k, h with
  | 0, h =>
    have e9 := Option.some.inj (show some 73 = some pc from h)
    subst e9
    exact wX2_only_73 hZ j hj
  | _ + 1, h => exact absurd h (by simp)
noncomputable def FX2_only : List Nat → rx_H → Option (Nat × rx_H) := rx_ent 6 (vX2_only_0 (rx_J (vhX2_only) 4000000000))
theorem Met_X2_only (hZ : zO b e D A X) : rx_Met (zV b e D A X) 2 yX2_only mX2_only (FX2_only) := rx_entry hZ.1 (wX2_only_0 hZ _ (vlX2_only hZ 4000000000)) (by decide +kernel) rfl (fun h => by cases h)
abbrev mX2_starts : rx_M := (RX2, cX2_starts, 5, (some .int), false)
theorem vy_X2_starts : rx_Y (zV b e D A X) yX2_starts mX2_starts 2 := ⟨zw2681, zw429, by decide, by decide +kernel, by decide +kernel, by decide +kernel⟩
noncomputable def vX2_starts_59 (j : Nat → rx_K) : rx_K := o_ld rx_isI 2 (o_ret1 rx_isI)
set_option maxRecDepth 20000 in
theorem wX2_starts_59 (hZ : zO b e D A X) (j : Nat → rx_K) (hj : ∀ k pc, [4][k]? = some pc → rx_OK (zV b e D A X) mX2_starts 1 pc (j k)) : rx_OK (zV b e D A X) mX2_starts 1 59 (vX2_starts_59 j) := by
  unfold vX2_starts_59
  refine s_iload_n hZ.1 dX2_starts_59 rfl ?_
  exact s_iret hZ.1 rfl dX2_starts_60
noncomputable def vX2_starts_53 (j : Nat → rx_K) : rx_K := o_inc 3 (1) ((j 0))
set_option maxRecDepth 20000 in
theorem wX2_starts_53 (hZ : zO b e D A X) (j : Nat → rx_K) (hj : ∀ k pc, [4][k]? = some pc → rx_OK (zV b e D A X) mX2_starts 1 pc (j k)) : rx_OK (zV b e D A X) mX2_starts 1 53 (vX2_starts_53 j) := by
  unfold vX2_starts_53
  refine s_iinc hZ.1 dX2_starts_53 (Nat.le_of_ble_eq_true rfl) ?_
  exact s_goto dX2_starts_56 (by decide) (hj 0 4 rfl)
noncomputable def vX2_starts_45 (j : Nat → rx_K) : rx_K := o_ld rx_isR 4 (o_ld rx_isR 1 (o_ld rx_isI 2 (o_callS 3 FX2_range (o_st rx_isI 2 ((vX2_starts_53 j))))))
set_option maxRecDepth 20000 in
theorem wX2_starts_45 (hZ : zO b e D A X) (j : Nat → rx_K) (hj : ∀ k pc, [4][k]? = some pc → rx_OK (zV b e D A X) mX2_starts 1 pc (j k)) : rx_OK (zV b e D A X) mX2_starts 1 45 (vX2_starts_45 j) := by
  unfold vX2_starts_45
  refine s_aload hZ.1 dX2_starts_45 ?_
  refine s_aload_n hZ.1 dX2_starts_47 rfl ?_
  refine s_iload_n hZ.1 dX2_starts_48 rfl ?_
  refine s_callS hZ.1 (Met_X2_range hZ) (Nat.le_of_ble_eq_true rfl) vy_X2_range zw2664 (Or.inl zw2663) dX2_starts_49 ?_
  refine s_istore_n hZ.1 dX2_starts_52 rfl (Nat.le_of_ble_eq_true rfl) ?_
  exact (wX2_starts_53 hZ j hj)
noncomputable def vX2_starts_37 (j : Nat → rx_K) : rx_K := o_ld rx_isR 4 (o_getf 7 15 (o_c1 rx_eq (vX2_starts_45 j) (vX2_starts_53 j)))
set_option maxRecDepth 20000 in
theorem wX2_starts_37 (hZ : zO b e D A X) (j : Nat → rx_K) (hj : ∀ k pc, [4][k]? = some pc → rx_OK (zV b e D A X) mX2_starts 1 pc (j k)) : rx_OK (zV b e D A X) mX2_starts 1 37 (vX2_starts_37 j) := by
  unfold vX2_starts_37
  refine s_aload hZ.1 dX2_starts_37 ?_
  refine yg7_15 dX2_starts_39 zw1054 ?_
  exact s_if_ne dX2_starts_42 (by decide) (wX2_starts_53 hZ j hj) (wX2_starts_45 hZ j hj)
noncomputable def vX2_starts_29 (j : Nat → rx_K) : rx_K := o_ld rx_isR 4 (o_getf 7 0 (o_c1 rx_eq (vX2_starts_37 j) (vX2_starts_53 j)))
set_option maxRecDepth 20000 in
theorem wX2_starts_29 (hZ : zO b e D A X) (j : Nat → rx_K) (hj : ∀ k pc, [4][k]? = some pc → rx_OK (zV b e D A X) mX2_starts 1 pc (j k)) : rx_OK (zV b e D A X) mX2_starts 1 29 (vX2_starts_29 j) := by
  unfold vX2_starts_29
  refine s_aload hZ.1 dX2_starts_29 ?_
  refine yg7_0 dX2_starts_31 zw948 ?_
  exact s_if_ne dX2_starts_34 (by decide) (wX2_starts_53 hZ j hj) (wX2_starts_37 hZ j hj)
noncomputable def vX2_starts_12 (j : Nat → rx_K) : rx_K := o_ld rx_isR 0 (o_getf 10 12 (o_ld rx_isI 3 (o_ald 5 (o_st rx_isR 4 (o_ld rx_isR 4 (o_getf 7 0 (o_const 24 (o_c2 rx_eq (vX2_starts_45 j) (vX2_starts_29 j)))))))))
set_option maxRecDepth 20000 in
theorem wX2_starts_12 (hZ : zO b e D A X) (j : Nat → rx_K) (hj : ∀ k pc, [4][k]? = some pc → rx_OK (zV b e D A X) mX2_starts 1 pc (j k)) : rx_OK (zV b e D A X) mX2_starts 1 12 (vX2_starts_12 j) := by
  unfold vX2_starts_12
  refine s_aload_n hZ.1 dX2_starts_12 rfl ?_
  refine yg10_12 dX2_starts_13 zw851 ?_
  refine s_iload_n hZ.1 dX2_starts_16 rfl ?_
  refine s_aald (tt := 5) rfl rfl dX2_starts_17 ?_
  refine s_astore hZ.1 dX2_starts_18 (Nat.le_of_ble_eq_true rfl) ?_
  refine s_aload hZ.1 dX2_starts_20 ?_
  refine yg7_0 dX2_starts_22 zw948 ?_
  refine s_iconst dX2_starts_25 (by decide +kernel) ?_
  exact s_icmp_eq dX2_starts_26 (by decide) (wX2_starts_45 hZ j hj) (wX2_starts_29 hZ j hj)
noncomputable def vX2_starts_4 (j : Nat → rx_K) : rx_K := o_ld rx_isI 3 (o_ld rx_isR 0 (o_getf 10 13 (o_c2 rx_lt (vX2_starts_12 j) (vX2_starts_59 j))))
set_option maxRecDepth 20000 in
theorem wX2_starts_4 (hZ : zO b e D A X) (j : Nat → rx_K) (hj : ∀ k pc, [4][k]? = some pc → rx_OK (zV b e D A X) mX2_starts 1 pc (j k)) : rx_OK (zV b e D A X) mX2_starts 1 4 (vX2_starts_4 j) := by
  unfold vX2_starts_4
  refine s_iload_n hZ.1 dX2_starts_4 rfl ?_
  refine s_aload_n hZ.1 dX2_starts_5 rfl ?_
  refine yg10_13 dX2_starts_6 zw857 ?_
  exact s_icmp_ge dX2_starts_9 (by decide) (wX2_starts_59 hZ j hj) (wX2_starts_12 hZ j hj)
noncomputable def vX2_starts_0 (j : Nat → rx_K) : rx_K := o_const 0 (o_st rx_isI 2 (o_const 0 (o_st rx_isI 3 ((vX2_starts_4 j)))))
set_option maxRecDepth 20000 in
theorem wX2_starts_0 (hZ : zO b e D A X) (j : Nat → rx_K) (hj : ∀ k pc, [4][k]? = some pc → rx_OK (zV b e D A X) mX2_starts 1 pc (j k)) : rx_OK (zV b e D A X) mX2_starts 1 0 (vX2_starts_0 j) := by
  unfold vX2_starts_0
  refine s_iconst dX2_starts_0 (by decide +kernel) ?_
  refine s_istore_n hZ.1 dX2_starts_1 rfl (Nat.le_of_ble_eq_true rfl) ?_
  refine s_iconst dX2_starts_2 (by decide +kernel) ?_
  refine s_istore_n hZ.1 dX2_starts_3 rfl (Nat.le_of_ble_eq_true rfl) ?_
  exact (wX2_starts_4 hZ j hj)
noncomputable def vhX2_starts (j : Nat → rx_K) : List rx_K := [vX2_starts_4 j]
theorem vlX2_starts (hZ : zO b e D A X) : ∀ n k pc, [4][k]? = some pc → rx_OK (zV b e D A X) mX2_starts 1 pc (rx_J (vhX2_starts) n k) := rx_loop fun j hj k pc h => by
  match k, h with
  | 0, h =>
    have e9 := Option.some.inj (show some 4 = some pc from h)
    subst e9
    exact wX2_starts_4 hZ j hj
  | _ + 1, h => exact absurd h (by simp)
noncomputable def FX2_starts : List Nat → rx_H → Option (Nat × rx_H) := rx_ent 5 (vX2_starts_0 (rx_J (vhX2_starts) 4000000000))
theorem Met_X2_starts (hZ : zO b e D A X) : rx_Met (zV b e D A X) 1 yX2_starts mX2_starts (FX2_starts) := rx_entry hZ.1 (wX2_starts_0 hZ _ (vlX2_starts hZ 4000000000)) (by decide +kernel) rfl (fun h => by cases h)
abbrev mX2_sameStarts : rx_M := (RX2, cX2_sameStarts, 4, (some .boolean), false)
theorem vy_X2_sameStarts : rx_Y (zV b e D A X) yX2_sameStarts mX2_sameStarts 2 := ⟨zw2678, zw429, by decide, by decide +kernel, by decide +kernel, by decide +kernel⟩
noncomputable def vX2_sameStarts_34 : rx_K := o_ret1 rx_isZ
set_option maxRecDepth 20000 in
theorem wX2_sameStarts_34 (hZ : zO b e D A X) : rx_OK (zV b e D A X) mX2_sameStarts 2 34 vX2_sameStarts_34 := by
  unfold vX2_sameStarts_34
  exact s_zret rx_z_ok rfl dX2_sameStarts_34
noncomputable def vX2_sameStarts_33 : rx_K := o_const 0 (vX2_sameStarts_34)
set_option maxRecDepth 20000 in
theorem wX2_sameStarts_33 (hZ : zO b e D A X) : rx_OK (zV b e D A X) mX2_sameStarts 2 33 vX2_sameStarts_33 := by
  unfold vX2_sameStarts_33
  refine s_iconst dX2_sameStarts_33 (by decide +kernel) ?_
  exact (wX2_sameStarts_34 hZ)
noncomputable def vX2_sameStarts_29 : rx_K := o_const 8 (vX2_sameStarts_34)
set_option maxRecDepth 20000 in
theorem wX2_sameStarts_29 (hZ : zO b e D A X) : rx_OK (zV b e D A X) mX2_sameStarts 2 29 vX2_sameStarts_29 := by
  unfold vX2_sameStarts_29
  refine s_iconst dX2_sameStarts_29 (by decide +kernel) ?_
  exact s_goto dX2_sameStarts_30 (by decide) (wX2_sameStarts_34 hZ)
noncomputable def vX2_sameStarts_21 : rx_K := o_ld rx_isR 0 (o_ld rx_isI 3 (o_callV 1 2 FX2_sameTokens (o_c1 rx_eq vX2_sameStarts_33 vX2_sameStarts_29)))
set_option maxRecDepth 20000 in
theorem wX2_sameStarts_21 (hZ : zO b e D A X) : rx_OK (zV b e D A X) mX2_sameStarts 2 21 vX2_sameStarts_21 := by
  unfold vX2_sameStarts_21
  refine s_aload_n hZ.1 dX2_sameStarts_21 rfl ?_
  refine s_iload_n hZ.1 dX2_sameStarts_22 rfl ?_
  refine s_callV hZ.1 (Met_X2_sameTokens hZ) (Nat.le_of_ble_eq_true rfl) vy_X2_sameTokens zcl2 zw2668 zw151 (Or.inl zw2666) dX2_sameStarts_23 ?_
  exact s_if_eq dX2_sameStarts_26 (by decide) (wX2_sameStarts_33 hZ) (wX2_sameStarts_29 hZ)
noncomputable def vX2_sameStarts_0 : rx_K := o_ld rx_isR 1 (o_ld rx_isR 0 (o_getf 2 8 (o_callS 2 FX2_starts (o_st rx_isI 3 (o_ld rx_isI 3 (o_ld rx_isR 2 (o_ld rx_isR 0 (o_getf 2 9 (o_callS 2 FX2_starts (o_c2 rx_eq vX2_sameStarts_21 vX2_sameStarts_33))))))))))
set_option maxRecDepth 20000 in
theorem wX2_sameStarts_0 (hZ : zO b e D A X) : rx_OK (zV b e D A X) mX2_sameStarts 2 0 vX2_sameStarts_0 := by
  unfold vX2_sameStarts_0
  refine s_aload_n hZ.1 dX2_sameStarts_0 rfl ?_
  refine s_aload_n hZ.1 dX2_sameStarts_1 rfl ?_
  refine yg2_8 dX2_sameStarts_2 zw1440 ?_
  refine s_callS hZ.1 (Met_X2_starts hZ) (Nat.le_of_ble_eq_true rfl) vy_X2_starts zw2680 (Or.inl zw2679) dX2_sameStarts_5 ?_
  refine s_istore_n hZ.1 dX2_sameStarts_8 rfl (Nat.le_of_ble_eq_true rfl) ?_
  refine s_iload_n hZ.1 dX2_sameStarts_9 rfl ?_
  refine s_aload_n hZ.1 dX2_sameStarts_10 rfl ?_
  refine s_aload_n hZ.1 dX2_sameStarts_11 rfl ?_
  refine yg2_9 dX2_sameStarts_12 zw1441 ?_
  refine s_callS hZ.1 (Met_X2_starts hZ) (Nat.le_of_ble_eq_true rfl) vy_X2_starts zw2680 (Or.inl zw2679) dX2_sameStarts_15 ?_
  exact s_icmp_ne dX2_sameStarts_18 (by decide) (wX2_sameStarts_33 hZ) (wX2_sameStarts_21 hZ)
noncomputable def FX2_sameStarts : List Nat → rx_H → Option (Nat × rx_H) := rx_ent 4 vX2_sameStarts_0
theorem Met_X2_sameStarts (hZ : zO b e D A X) : rx_Met (zV b e D A X) 2 yX2_sameStarts mX2_sameStarts (FX2_sameStarts) := rx_entry hZ.1 (wX2_sameStarts_0 hZ) (by decide +kernel) rfl (fun h => by cases h)
abbrev mX2_compare : rx_M := (RX2, cX2_compare, 7, (some .int), false)
theorem vy_X2_compare : rx_Y (zV b e D A X) yX2_compare mX2_compare 3 := ⟨zw2601, zw429, by decide, by decide +kernel, by decide +kernel, by decide +kernel⟩
noncomputable def vX2_compare_344 (j : Nat → rx_K) : rx_K := o_ld rx_isI 4 (o_ret1 rx_isI)
set_option maxRecDepth 20000 in
theorem wX2_compare_344 (hZ : zO b e D A X) (j : Nat → rx_K) (hj : ∀ k pc, [44, 273][k]? = some pc → rx_OK (zV b e D A X) mX2_compare 5 pc (j k)) : rx_OK (zV b e D A X) mX2_compare 5 344 (vX2_compare_344 j) := by
  unfold vX2_compare_344
  refine s_iload hZ.1 dX2_compare_344 ?_
  exact s_iret hZ.1 rfl dX2_compare_346
noncomputable def vX2_compare_328 (j : Nat → rx_K) : rx_K := o_bi (fun x y => x + y) (o_st rx_isI 4 (o_ld rx_isR 0 (o_dup (o_getf 2 7 (o_const 8 (o_bi (fun x y => x + y) (o_putf rx_isI 2 7 ((j 1)))))))))
set_option maxRecDepth 20000 in
theorem wX2_compare_328 (hZ : zO b e D A X) (j : Nat → rx_K) (hj : ∀ k pc, [44, 273][k]? = some pc → rx_OK (zV b e D A X) mX2_compare 5 pc (j k)) : rx_OK (zV b e D A X) mX2_compare 5 328 (vX2_compare_328 j) := by
  unfold vX2_compare_328
  refine s_iadd dX2_compare_328 ?_
  refine s_istore hZ.1 dX2_compare_329 (Nat.le_of_ble_eq_true rfl) ?_
  refine s_aload_n hZ.1 dX2_compare_331 rfl ?_
  refine s_dup hZ.1 dX2_compare_332 ?_
  refine yg2_7 dX2_compare_333 zw1439 ?_
  refine s_iconst dX2_compare_336 (by decide +kernel) ?_
  refine s_iadd dX2_compare_337 ?_
  refine yp2_7 hZ.1 dX2_compare_338 zw1439 ?_
  exact s_goto dX2_compare_341 (by decide) (hj 1 273 rfl)
noncomputable def vX2_compare_327 (j : Nat → rx_K) : rx_K := o_const 0 ((vX2_compare_328 j))
set_option maxRecDepth 20000 in
theorem wX2_compare_327 (hZ : zO b e D A X) (j : Nat → rx_K) (hj : ∀ k pc, [44, 273][k]? = some pc → rx_OK (zV b e D A X) mX2_compare 5 pc (j k)) : rx_OK (zV b e D A X) mX2_compare 5 327 (vX2_compare_327 j) := by
  unfold vX2_compare_327
  refine s_iconst dX2_compare_327 (by decide +kernel) ?_
  exact (wX2_compare_328 hZ j hj)
noncomputable def vX2_compare_314 (j : Nat → rx_K) : rx_K := o_ld rx_isR 0 (o_const 560 (o_const 34359738352 (o_const 34359738352 (o_callV 3 2 FX2_note ((vX2_compare_328 j))))))
set_option maxRecDepth 20000 in
theorem wX2_compare_314 (hZ : zO b e D A X) (j : Nat → rx_K) (hj : ∀ k pc, [44, 273][k]? = some pc → rx_OK (zV b e D A X) mX2_compare 5 pc (j k)) : rx_OK (zV b e D A X) mX2_compare 5 314 (vX2_compare_314 j) := by
  unfold vX2_compare_314
  refine s_aload_n hZ.1 dX2_compare_314 rfl ?_
  refine s_bipush dX2_compare_315 (by decide +kernel) ?_
  refine s_bipush dX2_compare_317 (by decide +kernel) ?_
  refine s_bipush dX2_compare_319 (by decide +kernel) ?_
  refine s_callV hZ.1 (Met_X2_note hZ) (Nat.le_of_ble_eq_true rfl) vy_X2_note zcl2 zw2609 zw140 (Or.inl zw2607) dX2_compare_321 ?_
  exact s_goto dX2_compare_324 (by decide) (wX2_compare_328 hZ j hj)
noncomputable def vX2_compare_287 (j : Nat → rx_K) : rx_K := o_ld rx_isI 4 (o_ld rx_isR 0 (o_getf 2 0 (o_ld rx_isR 0 (o_getf 2 1 (o_getf 1 2 (o_ld rx_isR 0 (o_getf 2 7 (o_ald 4 (o_getf 10 1 (o_callV 1 1 FX1_named (o_nul (vX2_compare_314 j) (vX2_compare_327 j))))))))))))
set_option maxRecDepth 20000 in
theorem wX2_compare_287 (hZ : zO b e D A X) (j : Nat → rx_K) (hj : ∀ k pc, [44, 273][k]? = some pc → rx_OK (zV b e D A X) mX2_compare 5 pc (j k)) : rx_OK (zV b e D A X) mX2_compare 5 287 (vX2_compare_287 j) := by
  unfold vX2_compare_287
  refine s_iload hZ.1 dX2_compare_287 ?_
  refine s_aload_n hZ.1 dX2_compare_289 rfl ?_
  refine yg2_0 dX2_compare_290 zw1429 ?_
  refine s_aload_n hZ.1 dX2_compare_293 rfl ?_
  refine yg2_1 dX2_compare_294 zw1430 ?_
  refine yg1_2 dX2_compare_297 zw1115 ?_
  refine s_aload_n hZ.1 dX2_compare_300 rfl ?_
  refine yg2_7 dX2_compare_301 zw1439 ?_
  refine s_aald (tt := 4) rfl rfl dX2_compare_304 ?_
  refine yg10_1 dX2_compare_305 zw770 ?_
  refine s_callV hZ.1 (Met_X1_named hZ) (Nat.le_of_ble_eq_true rfl) vy_X1_named zcl1 zw1914 zw1915 (Or.inl zw2602) dX2_compare_308 ?_
  exact s_ifnonnull dX2_compare_311 (by decide) (wX2_compare_327 hZ j hj) (wX2_compare_314 hZ j hj)
noncomputable def vX2_compare_273 (j : Nat → rx_K) : rx_K := o_ld rx_isR 0 (o_getf 2 7 (o_ld rx_isR 0 (o_getf 2 1 (o_getf 1 3 (o_c2 rx_lt (vX2_compare_287 j) (vX2_compare_344 j))))))
set_option maxRecDepth 20000 in
theorem wX2_compare_273 (hZ : zO b e D A X) (j : Nat → rx_K) (hj : ∀ k pc, [44, 273][k]? = some pc → rx_OK (zV b e D A X) mX2_compare 5 pc (j k)) : rx_OK (zV b e D A X) mX2_compare 5 273 (vX2_compare_273 j) := by
  unfold vX2_compare_273
  refine s_aload_n hZ.1 dX2_compare_273 rfl ?_
  refine yg2_7 dX2_compare_274 zw1439 ?_
  refine s_aload_n hZ.1 dX2_compare_277 rfl ?_
  refine yg2_1 dX2_compare_278 zw1430 ?_
  refine yg1_3 dX2_compare_281 zw1122 ?_
  exact s_icmp_ge dX2_compare_284 (by decide) (wX2_compare_344 hZ j hj) (wX2_compare_287 hZ j hj)
noncomputable def vX2_compare_262 (j : Nat → rx_K) : rx_K := o_ld rx_isR 0 (o_const 34359738352 (o_putf rx_isI 2 6 (o_ld rx_isR 0 (o_const 0 (o_putf rx_isI 2 7 ((vX2_compare_273 j)))))))
set_option maxRecDepth 20000 in
theorem wX2_compare_262 (hZ : zO b e D A X) (j : Nat → rx_K) (hj : ∀ k pc, [44, 273][k]? = some pc → rx_OK (zV b e D A X) mX2_compare 5 pc (j k)) : rx_OK (zV b e D A X) mX2_compare 5 262 (vX2_compare_262 j) := by
  unfold vX2_compare_262
  refine s_aload_n hZ.1 dX2_compare_262 rfl ?_
  refine s_bipush dX2_compare_263 (by decide +kernel) ?_
  refine yp2_6 hZ.1 dX2_compare_265 zw1438 ?_
  refine s_aload_n hZ.1 dX2_compare_268 rfl ?_
  refine s_iconst dX2_compare_269 (by decide +kernel) ?_
  refine yp2_7 hZ.1 dX2_compare_270 zw1439 ?_
  exact (wX2_compare_273 hZ j hj)
noncomputable def vX2_compare_249 (j : Nat → rx_K) : rx_K := o_ld rx_isR 0 (o_dup (o_getf 2 6 (o_const 8 (o_bi (fun x y => x + y) (o_putf rx_isI 2 6 ((j 0)))))))
set_option maxRecDepth 20000 in
theorem wX2_compare_249 (hZ : zO b e D A X) (j : Nat → rx_K) (hj : ∀ k pc, [44, 273][k]? = some pc → rx_OK (zV b e D A X) mX2_compare 5 pc (j k)) : rx_OK (zV b e D A X) mX2_compare 5 249 (vX2_compare_249 j) := by
  unfold vX2_compare_249
  refine s_aload_n hZ.1 dX2_compare_249 rfl ?_
  refine s_dup hZ.1 dX2_compare_250 ?_
  refine yg2_6 dX2_compare_251 zw1438 ?_
  refine s_iconst dX2_compare_254 (by decide +kernel) ?_
  refine s_iadd dX2_compare_255 ?_
  refine yp2_6 hZ.1 dX2_compare_256 zw1438 ?_
  exact s_goto dX2_compare_259 (by decide) (hj 0 44 rfl)
noncomputable def vX2_compare_246 (j : Nat → rx_K) : rx_K := o_bi (fun x y => x + y) (o_st rx_isI 4 ((vX2_compare_249 j)))
set_option maxRecDepth 20000 in
theorem wX2_compare_246 (hZ : zO b e D A X) (j : Nat → rx_K) (hj : ∀ k pc, [44, 273][k]? = some pc → rx_OK (zV b e D A X) mX2_compare 5 pc (j k)) : rx_OK (zV b e D A X) mX2_compare 5 246 (vX2_compare_246 j) := by
  unfold vX2_compare_246
  refine s_iadd dX2_compare_246 ?_
  refine s_istore hZ.1 dX2_compare_247 (Nat.le_of_ble_eq_true rfl) ?_
  exact (wX2_compare_249 hZ j hj)
noncomputable def vX2_compare_236 (j : Nat → rx_K) : rx_K := o_ld rx_isR 0 (o_const 480 (o_const 34359738352 (o_const 34359738352 (o_callV 3 2 FX2_note ((vX2_compare_246 j))))))
set_option maxRecDepth 20000 in
theorem wX2_compare_236 (hZ : zO b e D A X) (j : Nat → rx_K) (hj : ∀ k pc, [44, 273][k]? = some pc → rx_OK (zV b e D A X) mX2_compare 5 pc (j k)) : rx_OK (zV b e D A X) mX2_compare 5 236 (vX2_compare_236 j) := by
  unfold vX2_compare_236
  refine s_aload_n hZ.1 dX2_compare_236 rfl ?_
  refine s_bipush dX2_compare_237 (by decide +kernel) ?_
  refine s_bipush dX2_compare_239 (by decide +kernel) ?_
  refine s_bipush dX2_compare_241 (by decide +kernel) ?_
  refine s_callV hZ.1 (Met_X2_note hZ) (Nat.le_of_ble_eq_true rfl) vy_X2_note zcl2 zw2609 zw140 (Or.inl zw2607) dX2_compare_243 ?_
  exact (wX2_compare_246 hZ j hj)
noncomputable def vX2_compare_232 (j : Nat → rx_K) : rx_K := o_const 0 ((vX2_compare_246 j))
set_option maxRecDepth 20000 in
theorem wX2_compare_232 (hZ : zO b e D A X) (j : Nat → rx_K) (hj : ∀ k pc, [44, 273][k]? = some pc → rx_OK (zV b e D A X) mX2_compare 5 pc (j k)) : rx_OK (zV b e D A X) mX2_compare 5 232 (vX2_compare_232 j) := by
  unfold vX2_compare_232
  refine s_iconst dX2_compare_232 (by decide +kernel) ?_
  exact s_goto dX2_compare_233 (by decide) (wX2_compare_246 hZ j hj)
noncomputable def vX2_compare_206 (j : Nat → rx_K) : rx_K := o_bi (fun x y => x + y) (o_ld rx_isR 0 (o_ld rx_isR 5 (o_ld rx_isR 6 (o_callV 2 2 FX2_makers (o_bi (fun x y => x + y) (o_bi (fun x y => x + y) (o_st rx_isI 4 (o_ld rx_isI 4 (o_ld rx_isR 0 (o_ld rx_isR 5 (o_ld rx_isR 6 (o_callV 2 2 FX2_sameStarts (o_c1 rx_eq (vX2_compare_236 j) (vX2_compare_232 j))))))))))))))
set_option maxRecDepth 20000 in
theorem wX2_compare_206 (hZ : zO b e D A X) (j : Nat → rx_K) (hj : ∀ k pc, [44, 273][k]? = some pc → rx_OK (zV b e D A X) mX2_compare 5 pc (j k)) : rx_OK (zV b e D A X) mX2_compare 5 206 (vX2_compare_206 j) := by
  unfold vX2_compare_206
  refine s_iadd dX2_compare_206 ?_
  refine s_aload_n hZ.1 dX2_compare_207 rfl ?_
  refine s_aload hZ.1 dX2_compare_208 ?_
  refine s_aload hZ.1 dX2_compare_210 ?_
  refine s_callV hZ.1 (Met_X2_makers hZ) (Nat.le_of_ble_eq_true rfl) vy_X2_makers zcl2 zw2672 zw152 (Or.inl zw2670) dX2_compare_212 ?_
  refine s_iadd dX2_compare_215 ?_
  refine s_iadd dX2_compare_216 ?_
  refine s_istore hZ.1 dX2_compare_217 (Nat.le_of_ble_eq_true rfl) ?_
  refine s_iload hZ.1 dX2_compare_219 ?_
  refine s_aload_n hZ.1 dX2_compare_221 rfl ?_
  refine s_aload hZ.1 dX2_compare_222 ?_
  refine s_aload hZ.1 dX2_compare_224 ?_
  refine s_callV hZ.1 (Met_X2_sameStarts hZ) (Nat.le_of_ble_eq_true rfl) vy_X2_sameStarts zcl2 zw2677 zw153 (Or.inl zw2675) dX2_compare_226 ?_
  exact s_if_eq dX2_compare_229 (by decide) (wX2_compare_236 hZ j hj) (wX2_compare_232 hZ j hj)
noncomputable def vX2_compare_161 (j : Nat → rx_K) : rx_K := o_ld rx_isI 4 (o_ld rx_isR 0 (o_ld rx_isR 5 (o_ld rx_isR 6 (o_callV 2 2 FX2_heads (o_ld rx_isR 0 (o_ld rx_isR 5 (o_ld rx_isR 6 (o_callV 2 2 FX2_faces (o_bi (fun x y => x + y) (o_ld rx_isR 0 (o_ld rx_isR 5 (o_ld rx_isR 6 (o_callV 2 2 FX2_only (o_bi (fun x y => x + y) (o_ld rx_isR 0 (o_ld rx_isR 5 (o_ld rx_isR 6 (o_callV 2 2 FX2_fields (o_bi (fun x y => x + y) (o_ld rx_isR 0 (o_ld rx_isR 5 (o_ld rx_isR 6 (o_callV 2 2 FX2_methods ((vX2_compare_206 j)))))))))))))))))))))))))
set_option maxRecDepth 20000 in
theorem wX2_compare_161 (hZ : zO b e D A X) (j : Nat → rx_K) (hj : ∀ k pc, [44, 273][k]? = some pc → rx_OK (zV b e D A X) mX2_compare 5 pc (j k)) : rx_OK (zV b e D A X) mX2_compare 5 161 (vX2_compare_161 j) := by
  unfold vX2_compare_161
  refine s_iload hZ.1 dX2_compare_161 ?_
  refine s_aload_n hZ.1 dX2_compare_163 rfl ?_
  refine s_aload hZ.1 dX2_compare_164 ?_
  refine s_aload hZ.1 dX2_compare_166 ?_
  refine s_callV hZ.1 (Met_X2_heads hZ) (Nat.le_of_ble_eq_true rfl) vy_X2_heads zcl2 zw2617 zw141 (Or.inl zw2615) dX2_compare_168 ?_
  refine s_aload_n hZ.1 dX2_compare_171 rfl ?_
  refine s_aload hZ.1 dX2_compare_172 ?_
  refine s_aload hZ.1 dX2_compare_174 ?_
  refine s_callV hZ.1 (Met_X2_faces hZ) (Nat.le_of_ble_eq_true rfl) vy_X2_faces zcl2 zw2625 zw143 (Or.inl zw2623) dX2_compare_176 ?_
  refine s_iadd dX2_compare_179 ?_
  refine s_aload_n hZ.1 dX2_compare_180 rfl ?_
  refine s_aload hZ.1 dX2_compare_181 ?_
  refine s_aload hZ.1 dX2_compare_183 ?_
  refine s_callV hZ.1 (Met_X2_only hZ) (Nat.le_of_ble_eq_true rfl) vy_X2_only zcl2 zw2631 zw144 (Or.inl zw2629) dX2_compare_185 ?_
  refine s_iadd dX2_compare_188 ?_
  refine s_aload_n hZ.1 dX2_compare_189 rfl ?_
  refine s_aload hZ.1 dX2_compare_190 ?_
  refine s_aload hZ.1 dX2_compare_192 ?_
  refine s_callV hZ.1 (Met_X2_fields hZ) (Nat.le_of_ble_eq_true rfl) vy_X2_fields zcl2 zw2635 zw145 (Or.inl zw2633) dX2_compare_194 ?_
  refine s_iadd dX2_compare_197 ?_
  refine s_aload_n hZ.1 dX2_compare_198 rfl ?_
  refine s_aload hZ.1 dX2_compare_199 ?_
  refine s_aload hZ.1 dX2_compare_201 ?_
  refine s_callV hZ.1 (Met_X2_methods hZ) (Nat.le_of_ble_eq_true rfl) vy_X2_methods zcl2 zw2652 zw148 (Or.inl zw2650) dX2_compare_203 ?_
  exact (wX2_compare_206 hZ j hj)
noncomputable def vX2_compare_144 (j : Nat → rx_K) : rx_K := o_ld rx_isI 4 (o_ld rx_isR 0 (o_const 16 (o_const 34359738352 (o_const 34359738352 (o_callV 3 2 FX2_note (o_bi (fun x y => x + y) (o_st rx_isI 4 ((vX2_compare_249 j)))))))))
set_option maxRecDepth 20000 in
theorem wX2_compare_144 (hZ : zO b e D A X) (j : Nat → rx_K) (hj : ∀ k pc, [44, 273][k]? = some pc → rx_OK (zV b e D A X) mX2_compare 5 pc (j k)) : rx_OK (zV b e D A X) mX2_compare 5 144 (vX2_compare_144 j) := by
  unfold vX2_compare_144
  refine s_iload hZ.1 dX2_compare_144 ?_
  refine s_aload_n hZ.1 dX2_compare_146 rfl ?_
  refine s_iconst dX2_compare_147 (by decide +kernel) ?_
  refine s_bipush dX2_compare_148 (by decide +kernel) ?_
  refine s_bipush dX2_compare_150 (by decide +kernel) ?_
  refine s_callV hZ.1 (Met_X2_note hZ) (Nat.le_of_ble_eq_true rfl) vy_X2_note zcl2 zw2609 zw140 (Or.inl zw2607) dX2_compare_152 ?_
  refine s_iadd dX2_compare_155 ?_
  refine s_istore hZ.1 dX2_compare_156 (Nat.le_of_ble_eq_true rfl) ?_
  exact s_goto dX2_compare_158 (by decide) (wX2_compare_249 hZ j hj)
noncomputable def vX2_compare_131 (j : Nat → rx_K) : rx_K := o_ld rx_isR 5 (o_getf 10 4 (o_ld rx_isR 6 (o_getf 10 4 (o_c2 rx_eq (vX2_compare_161 j) (vX2_compare_144 j)))))
set_option maxRecDepth 20000 in
theorem wX2_compare_131 (hZ : zO b e D A X) (j : Nat → rx_K) (hj : ∀ k pc, [44, 273][k]? = some pc → rx_OK (zV b e D A X) mX2_compare 5 pc (j k)) : rx_OK (zV b e D A X) mX2_compare 5 131 (vX2_compare_131 j) := by
  unfold vX2_compare_131
  refine s_aload hZ.1 dX2_compare_131 ?_
  refine yg10_4 dX2_compare_133 zw791 ?_
  refine s_aload hZ.1 dX2_compare_136 ?_
  refine yg10_4 dX2_compare_138 zw791 ?_
  exact s_icmp_eq dX2_compare_141 (by decide) (wX2_compare_161 hZ j hj) (wX2_compare_144 hZ j hj)
noncomputable def vX2_compare_114 (j : Nat → rx_K) : rx_K := o_ld rx_isI 4 (o_ld rx_isR 0 (o_const 8 (o_const 34359738352 (o_const 34359738352 (o_callV 3 2 FX2_note (o_bi (fun x y => x + y) (o_st rx_isI 4 ((vX2_compare_249 j)))))))))
set_option maxRecDepth 20000 in
theorem wX2_compare_114 (hZ : zO b e D A X) (j : Nat → rx_K) (hj : ∀ k pc, [44, 273][k]? = some pc → rx_OK (zV b e D A X) mX2_compare 5 pc (j k)) : rx_OK (zV b e D A X) mX2_compare 5 114 (vX2_compare_114 j) := by
  unfold vX2_compare_114
  refine s_iload hZ.1 dX2_compare_114 ?_
  refine s_aload_n hZ.1 dX2_compare_116 rfl ?_
  refine s_iconst dX2_compare_117 (by decide +kernel) ?_
  refine s_bipush dX2_compare_118 (by decide +kernel) ?_
  refine s_bipush dX2_compare_120 (by decide +kernel) ?_
  refine s_callV hZ.1 (Met_X2_note hZ) (Nat.le_of_ble_eq_true rfl) vy_X2_note zcl2 zw2609 zw140 (Or.inl zw2607) dX2_compare_122 ?_
  refine s_iadd dX2_compare_125 ?_
  refine s_istore hZ.1 dX2_compare_126 (Nat.le_of_ble_eq_true rfl) ?_
  exact s_goto dX2_compare_128 (by decide) (wX2_compare_249 hZ j hj)
noncomputable def vX2_compare_106 (j : Nat → rx_K) : rx_K := o_putf rx_isI 2 7 (o_ld rx_isR 6 (o_nul (vX2_compare_114 j) (vX2_compare_131 j)))
set_option maxRecDepth 20000 in
theorem wX2_compare_106 (hZ : zO b e D A X) (j : Nat → rx_K) (hj : ∀ k pc, [44, 273][k]? = some pc → rx_OK (zV b e D A X) mX2_compare 5 pc (j k)) : rx_OK (zV b e D A X) mX2_compare 5 106 (vX2_compare_106 j) := by
  unfold vX2_compare_106
  refine yp2_7 hZ.1 dX2_compare_106 zw1439 ?_
  refine s_aload hZ.1 dX2_compare_109 ?_
  exact s_ifnonnull dX2_compare_111 (by decide) (wX2_compare_131 hZ j hj) (wX2_compare_114 hZ j hj)
noncomputable def vX2_compare_97 (j : Nat → rx_K) : rx_K := o_ld rx_isR 0 (o_getf 2 1 (o_ld rx_isR 6 (o_callV 1 1 FX1_indexOf ((vX2_compare_106 j)))))
set_option maxRecDepth 20000 in
theorem wX2_compare_97 (hZ : zO b e D A X) (j : Nat → rx_K) (hj : ∀ k pc, [44, 273][k]? = some pc → rx_OK (zV b e D A X) mX2_compare 5 pc (j k)) : rx_OK (zV b e D A X) mX2_compare 5 97 (vX2_compare_97 j) := by
  unfold vX2_compare_97
  refine s_aload_n hZ.1 dX2_compare_97 rfl ?_
  refine yg2_1 dX2_compare_98 zw1430 ?_
  refine s_aload hZ.1 dX2_compare_101 ?_
  refine s_callV hZ.1 (Met_X1_indexOf hZ) (Nat.le_of_ble_eq_true rfl) vy_X1_indexOf zcl1 zw2604 zw2605 (Or.inl zw2603) dX2_compare_103 ?_
  exact (wX2_compare_106 hZ j hj)
noncomputable def vX2_compare_92 (j : Nat → rx_K) : rx_K := o_const 34359738352 ((vX2_compare_106 j))
set_option maxRecDepth 20000 in
theorem wX2_compare_92 (hZ : zO b e D A X) (j : Nat → rx_K) (hj : ∀ k pc, [44, 273][k]? = some pc → rx_OK (zV b e D A X) mX2_compare 5 pc (j k)) : rx_OK (zV b e D A X) mX2_compare 5 92 (vX2_compare_92 j) := by
  unfold vX2_compare_92
  refine s_bipush dX2_compare_92 (by decide +kernel) ?_
  exact s_goto dX2_compare_94 (by decide) (wX2_compare_106 hZ j hj)
noncomputable def vX2_compare_58 (j : Nat → rx_K) : rx_K := o_ld rx_isR 0 (o_getf 2 0 (o_getf 1 2 (o_ld rx_isR 0 (o_getf 2 6 (o_ald 4 (o_st rx_isR 5 (o_ld rx_isR 0 (o_getf 2 1 (o_ld rx_isR 5 (o_getf 10 1 (o_callV 1 1 FX1_named (o_st rx_isR 6 (o_ld rx_isR 0 (o_ld rx_isR 6 (o_nul (vX2_compare_92 j) (vX2_compare_97 j))))))))))))))))
set_option maxRecDepth 20000 in
theorem wX2_compare_58 (hZ : zO b e D A X) (j : Nat → rx_K) (hj : ∀ k pc, [44, 273][k]? = some pc → rx_OK (zV b e D A X) mX2_compare 5 pc (j k)) : rx_OK (zV b e D A X) mX2_compare 5 58 (vX2_compare_58 j) := by
  unfold vX2_compare_58
  refine s_aload_n hZ.1 dX2_compare_58 rfl ?_
  refine yg2_0 dX2_compare_59 zw1429 ?_
  refine yg1_2 dX2_compare_62 zw1115 ?_
  refine s_aload_n hZ.1 dX2_compare_65 rfl ?_
  refine yg2_6 dX2_compare_66 zw1438 ?_
  refine s_aald (tt := 4) rfl rfl dX2_compare_69 ?_
  refine s_astore hZ.1 dX2_compare_70 (Nat.le_of_ble_eq_true rfl) ?_
  refine s_aload_n hZ.1 dX2_compare_72 rfl ?_
  refine yg2_1 dX2_compare_73 zw1430 ?_
  refine s_aload hZ.1 dX2_compare_76 ?_
  refine yg10_1 dX2_compare_78 zw770 ?_
  refine s_callV hZ.1 (Met_X1_named hZ) (Nat.le_of_ble_eq_true rfl) vy_X1_named zcl1 zw1914 zw1915 (Or.inl zw2602) dX2_compare_81 ?_
  refine s_astore hZ.1 dX2_compare_84 (Nat.le_of_ble_eq_true rfl) ?_
  refine s_aload_n hZ.1 dX2_compare_86 rfl ?_
  refine s_aload hZ.1 dX2_compare_87 ?_
  exact s_ifnonnull dX2_compare_89 (by decide) (wX2_compare_97 hZ j hj) (wX2_compare_92 hZ j hj)
noncomputable def vX2_compare_44 (j : Nat → rx_K) : rx_K := o_ld rx_isR 0 (o_getf 2 6 (o_ld rx_isR 0 (o_getf 2 0 (o_getf 1 3 (o_c2 rx_lt (vX2_compare_58 j) (vX2_compare_262 j))))))
set_option maxRecDepth 20000 in
theorem wX2_compare_44 (hZ : zO b e D A X) (j : Nat → rx_K) (hj : ∀ k pc, [44, 273][k]? = some pc → rx_OK (zV b e D A X) mX2_compare 5 pc (j k)) : rx_OK (zV b e D A X) mX2_compare 5 44 (vX2_compare_44 j) := by
  unfold vX2_compare_44
  refine s_aload_n hZ.1 dX2_compare_44 rfl ?_
  refine yg2_6 dX2_compare_45 zw1438 ?_
  refine s_aload_n hZ.1 dX2_compare_48 rfl ?_
  refine yg2_0 dX2_compare_49 zw1429 ?_
  refine yg1_3 dX2_compare_52 zw1122 ?_
  exact s_icmp_ge dX2_compare_55 (by decide) (wX2_compare_262 hZ j hj) (wX2_compare_58 hZ j hj)
noncomputable def vX2_compare_36 (j : Nat → rx_K) : rx_K := o_putf rx_isI 2 4 (o_ld rx_isR 0 (o_const 0 (o_putf rx_isI 2 6 ((vX2_compare_44 j)))))
set_option maxRecDepth 20000 in
theorem wX2_compare_36 (hZ : zO b e D A X) (j : Nat → rx_K) (hj : ∀ k pc, [44, 273][k]? = some pc → rx_OK (zV b e D A X) mX2_compare 5 pc (j k)) : rx_OK (zV b e D A X) mX2_compare 5 36 (vX2_compare_36 j) := by
  unfold vX2_compare_36
  refine yp2_4 hZ.1 dX2_compare_36 zw1434 ?_
  refine s_aload_n hZ.1 dX2_compare_39 rfl ?_
  refine s_iconst dX2_compare_40 (by decide +kernel) ?_
  refine yp2_6 hZ.1 dX2_compare_41 zw1438 ?_
  exact (wX2_compare_44 hZ j hj)
noncomputable def vX2_compare_32 (j : Nat → rx_K) : rx_K := o_ld rx_isR 0 (o_getf 2 4 ((vX2_compare_36 j)))
set_option maxRecDepth 20000 in
theorem wX2_compare_32 (hZ : zO b e D A X) (j : Nat → rx_K) (hj : ∀ k pc, [44, 273][k]? = some pc → rx_OK (zV b e D A X) mX2_compare 5 pc (j k)) : rx_OK (zV b e D A X) mX2_compare 5 32 (vX2_compare_32 j) := by
  unfold vX2_compare_32
  refine s_aload_n hZ.1 dX2_compare_32 rfl ?_
  refine yg2_4 dX2_compare_33 zw1434 ?_
  exact (wX2_compare_36 hZ j hj)
noncomputable def vX2_compare_28 (j : Nat → rx_K) : rx_K := o_const 0 ((vX2_compare_36 j))
set_option maxRecDepth 20000 in
theorem wX2_compare_28 (hZ : zO b e D A X) (j : Nat → rx_K) (hj : ∀ k pc, [44, 273][k]? = some pc → rx_OK (zV b e D A X) mX2_compare 5 pc (j k)) : rx_OK (zV b e D A X) mX2_compare 5 28 (vX2_compare_28 j) := by
  unfold vX2_compare_28
  refine s_iconst dX2_compare_28 (by decide +kernel) ?_
  exact s_goto dX2_compare_29 (by decide) (wX2_compare_36 hZ j hj)
noncomputable def vX2_compare_0 (j : Nat → rx_K) : rx_K := o_ld rx_isR 0 (o_ld rx_isR 1 (o_putf rx_isR 2 0 (o_ld rx_isR 0 (o_ld rx_isR 2 (o_putf rx_isR 2 1 (o_ld rx_isR 0 (o_ld rx_isI 3 (o_putf rx_isZ 2 2 (o_const 0 (o_st rx_isI 4 (o_ld rx_isR 0 (o_const 0 (o_putf rx_isI 2 5 (o_ld rx_isR 0 (o_ld rx_isI 3 (o_c1 rx_eq (vX2_compare_32 j) (vX2_compare_28 j)))))))))))))))))
set_option maxRecDepth 20000 in
theorem wX2_compare_0 (hZ : zO b e D A X) (j : Nat → rx_K) (hj : ∀ k pc, [44, 273][k]? = some pc → rx_OK (zV b e D A X) mX2_compare 5 pc (j k)) : rx_OK (zV b e D A X) mX2_compare 5 0 (vX2_compare_0 j) := by
  unfold vX2_compare_0
  refine s_aload_n hZ.1 dX2_compare_0 rfl ?_
  refine s_aload_n hZ.1 dX2_compare_1 rfl ?_
  refine yp2_0 hZ.1 dX2_compare_2 zw1429 ?_
  refine s_aload_n hZ.1 dX2_compare_5 rfl ?_
  refine s_aload_n hZ.1 dX2_compare_6 rfl ?_
  refine yp2_1 hZ.1 dX2_compare_7 zw1430 ?_
  refine s_aload_n hZ.1 dX2_compare_10 rfl ?_
  refine s_iload_n hZ.1 dX2_compare_11 rfl ?_
  refine yp2_2 hZ.1 dX2_compare_12 zw1431 ?_
  refine s_iconst dX2_compare_15 (by decide +kernel) ?_
  refine s_istore hZ.1 dX2_compare_16 (Nat.le_of_ble_eq_true rfl) ?_
  refine s_aload_n hZ.1 dX2_compare_18 rfl ?_
  refine s_iconst dX2_compare_19 (by decide +kernel) ?_
  refine yp2_5 hZ.1 dX2_compare_20 zw1436 ?_
  refine s_aload_n hZ.1 dX2_compare_23 rfl ?_
  refine s_iload_n hZ.1 dX2_compare_24 rfl ?_
  exact s_if_eq dX2_compare_25 (by decide) (wX2_compare_32 hZ j hj) (wX2_compare_28 hZ j hj)
noncomputable def vhX2_compare (j : Nat → rx_K) : List rx_K := [vX2_compare_44 j, vX2_compare_273 j]
theorem vlX2_compare (hZ : zO b e D A X) : ∀ n k pc, [44, 273][k]? = some pc → rx_OK (zV b e D A X) mX2_compare 5 pc (rx_J (vhX2_compare) n k) := rx_loop fun j hj k pc h => by
  match k, h with
  | 0, h =>
    have e9 := Option.some.inj (show some 44 = some pc from h)
    subst e9
    exact wX2_compare_44 hZ j hj
  | 1, h =>
    have e9 := Option.some.inj (show some 273 = some pc from h)
    subst e9
    exact wX2_compare_273 hZ j hj
  | _ + 2, h => exact absurd h (by simp)
noncomputable def FX2_compare : List Nat → rx_H → Option (Nat × rx_H) := rx_ent 7 (vX2_compare_0 (rx_J (vhX2_compare) 4000000000))
theorem Met_X2_compare (hZ : zO b e D A X) : rx_Met (zV b e D A X) 5 yX2_compare mX2_compare (FX2_compare) := rx_entry hZ.1 (wX2_compare_0 hZ _ (vlX2_compare hZ 4000000000)) (by decide +kernel) rfl (fun h => by cases h)
abbrev mX3_init : rx_M := (RX3, cX3_init, 1, none, true)
theorem vy_X3_init : rx_Y (zV b e D A X) yX3_init mX3_init 0 := ⟨zw719, zw422, by decide, by decide +kernel, by decide +kernel, by decide +kernel⟩
noncomputable def vX3_init_0 : rx_K := o_ld rx_isR 0 (o_obj (o_ret0))
set_option maxRecDepth 20000 in
theorem wX3_init_0 (hZ : zO b e D A X) : rx_OK (zV b e D A X) mX3_init 1 0 vX3_init_0 := by
  unfold vX3_init_0
  refine s_aload_n hZ.1 dX3_init_0 rfl ?_
  refine s_obj hZ.1 (Nat.le_of_ble_eq_true rfl) zw720 zw440 zw441 dX3_init_1 ?_
  exact s_vret rfl dX3_init_4
noncomputable def FX3_init : List Nat → rx_H → Option (Nat × rx_H) := rx_ent 1 vX3_init_0
theorem Met_X3_init (hZ : zO b e D A X) : rx_Met (zV b e D A X) 1 yX3_init mX3_init (FX3_init) := rx_entry hZ.1 (wX3_init_0 hZ) (by decide +kernel) rfl (fun _ => rfl)
abbrev mX3_openStart : rx_M := (RX3, cX3_openStart, 1, none, false)
theorem vy_X3_openStart : rx_Y (zV b e D A X) yX3_openStart mX3_openStart 0 := ⟨zw2285, zw422, by decide, by decide +kernel, by decide +kernel, by decide +kernel⟩
noncomputable def vX3_openStart_30 : rx_K := o_ld rx_isR 0 (o_getf 3 1 (o_ld rx_isR 0 (o_getf 3 5 (o_callV 1 1 FX1_patch (o_ret0)))))
set_option maxRecDepth 20000 in
theorem wX3_openStart_30 (hZ : zO b e D A X) : rx_OK (zV b e D A X) mX3_openStart 1 30 vX3_openStart_30 := by
  unfold vX3_openStart_30
  refine s_aload_n hZ.1 dX3_openStart_30 rfl ?_
  refine yg3_1 dX3_openStart_31 zw722 ?_
  refine s_aload_n hZ.1 dX3_openStart_34 rfl ?_
  refine yg3_5 dX3_openStart_35 zw726 ?_
  refine s_callV hZ.1 (Met_X1_patch hZ) (Nat.le_of_ble_eq_true rfl) vy_X1_patch zcl1 zw2287 zw2288 (Or.inl zw2286) dX3_openStart_38 ?_
  exact s_vret rfl dX3_openStart_41
noncomputable def vX3_openStart_13 : rx_K := o_ld rx_isR 0 (o_getf 3 2 (o_getf 10 18 (o_ld rx_isR 0 (o_getf 3 1 (o_getf 1 17 (o_putf rx_isI 7 17 (vX3_openStart_30)))))))
set_option maxRecDepth 20000 in
theorem wX3_openStart_13 (hZ : zO b e D A X) : rx_OK (zV b e D A X) mX3_openStart 1 13 vX3_openStart_13 := by
  unfold vX3_openStart_13
  refine s_aload_n hZ.1 dX3_openStart_13 rfl ?_
  refine yg3_2 dX3_openStart_14 zw723 ?_
  refine yg10_18 dX3_openStart_17 zw884 ?_
  refine s_aload_n hZ.1 dX3_openStart_20 rfl ?_
  refine yg3_1 dX3_openStart_21 zw722 ?_
  refine yg1_17 dX3_openStart_24 zw1172 ?_
  refine yp7_17 hZ.1 dX3_openStart_27 zw1066 ?_
  exact (wX3_openStart_30 hZ)
noncomputable def vX3_openStart_0 : rx_K := o_ld rx_isR 0 (o_getf 3 2 (o_getf 10 18 (o_getf 7 17 (o_c1 rx_lt vX3_openStart_13 vX3_openStart_30))))
set_option maxRecDepth 20000 in
theorem wX3_openStart_0 (hZ : zO b e D A X) : rx_OK (zV b e D A X) mX3_openStart 1 0 vX3_openStart_0 := by
  unfold vX3_openStart_0
  refine s_aload_n hZ.1 dX3_openStart_0 rfl ?_
  refine yg3_2 dX3_openStart_1 zw723 ?_
  refine yg10_18 dX3_openStart_4 zw884 ?_
  refine yg7_17 dX3_openStart_7 zw1066 ?_
  exact s_if_ge dX3_openStart_10 (by decide) (wX3_openStart_30 hZ) (wX3_openStart_13 hZ)
noncomputable def FX3_openStart : List Nat → rx_H → Option (Nat × rx_H) := rx_ent 1 vX3_openStart_0
theorem Met_X3_openStart (hZ : zO b e D A X) : rx_Met (zV b e D A X) 1 yX3_openStart mX3_openStart (FX3_openStart) := rx_entry hZ.1 (wX3_openStart_0 hZ) (by decide +kernel) rfl (fun h => by cases h)
abbrev mX3_isFit : rx_M := (RX3, cX3_isFit, 5, (some .boolean), false)
theorem vy_X3_isFit : rx_Y (zV b e D A X) yX3_isFit mX3_isFit 2 := ⟨zw2239, zw422, by decide, by decide +kernel, by decide +kernel, by decide +kernel⟩
noncomputable def vX3_isFit_71 : rx_K := o_ret1 rx_isZ
set_option maxRecDepth 20000 in
theorem wX3_isFit_71 (hZ : zO b e D A X) : rx_OK (zV b e D A X) mX3_isFit 0 71 vX3_isFit_71 := by
  unfold vX3_isFit_71
  exact s_zret rx_z_ok rfl dX3_isFit_71
noncomputable def vX3_isFit_70 : rx_K := o_const 0 (vX3_isFit_71)
set_option maxRecDepth 20000 in
theorem wX3_isFit_70 (hZ : zO b e D A X) : rx_OK (zV b e D A X) mX3_isFit 0 70 vX3_isFit_70 := by
  unfold vX3_isFit_70
  refine s_iconst dX3_isFit_70 (by decide +kernel) ?_
  exact (wX3_isFit_71 hZ)
noncomputable def vX3_isFit_66 : rx_K := o_const 8 (vX3_isFit_71)
set_option maxRecDepth 20000 in
theorem wX3_isFit_66 (hZ : zO b e D A X) : rx_OK (zV b e D A X) mX3_isFit 0 66 vX3_isFit_66 := by
  unfold vX3_isFit_66
  refine s_iconst dX3_isFit_66 (by decide +kernel) ?_
  exact s_goto dX3_isFit_67 (by decide) (wX3_isFit_71 hZ)
noncomputable def vX3_isFit_58 : rx_K := o_ld rx_isL 2 (o_const 115324555267378511873 (o_bc (fun x y => lg_cmp x y) (o_c1 rx_eq vX3_isFit_70 vX3_isFit_66)))
set_option maxRecDepth 20000 in
theorem wX3_isFit_58 (hZ : zO b e D A X) : rx_OK (zV b e D A X) mX3_isFit 0 58 vX3_isFit_58 := by
  unfold vX3_isFit_58
  refine s_lload_n hZ.1 dX3_isFit_58 rfl ?_
  refine s_ldc2 dX3_isFit_59 zw2243 (by decide +kernel) ?_
  refine s_lcmp dX3_isFit_62 ?_
  exact s_if_eq dX3_isFit_63 (by decide) (wX3_isFit_70 hZ) (wX3_isFit_66 hZ)
noncomputable def vX3_isFit_52 : rx_K := o_ld rx_isL 0 (o_ld rx_isL 2 (o_bc (fun x y => lg_cmp x y) (o_c1 rx_eq vX3_isFit_70 vX3_isFit_58)))
set_option maxRecDepth 20000 in
theorem wX3_isFit_52 (hZ : zO b e D A X) : rx_OK (zV b e D A X) mX3_isFit 0 52 vX3_isFit_52 := by
  unfold vX3_isFit_52
  refine s_lload_n hZ.1 dX3_isFit_52 rfl ?_
  refine s_lload_n hZ.1 dX3_isFit_53 rfl ?_
  refine s_lcmp dX3_isFit_54 ?_
  exact s_if_eq dX3_isFit_55 (by decide) (wX3_isFit_70 hZ) (wX3_isFit_58 hZ)
noncomputable def vX3_isFit_45 : rx_K := o_st rx_isI 4 (o_ld rx_isI 4 (o_c1 rx_eq vX3_isFit_70 vX3_isFit_52))
set_option maxRecDepth 20000 in
theorem wX3_isFit_45 (hZ : zO b e D A X) : rx_OK (zV b e D A X) mX3_isFit 0 45 vX3_isFit_45 := by
  unfold vX3_isFit_45
  refine s_istore hZ.1 dX3_isFit_45 (Nat.le_of_ble_eq_true rfl) ?_
  refine s_iload hZ.1 dX3_isFit_47 ?_
  exact s_if_eq dX3_isFit_49 (by decide) (wX3_isFit_70 hZ) (wX3_isFit_52 hZ)
noncomputable def vX3_isFit_44 : rx_K := o_const 0 (vX3_isFit_45)
set_option maxRecDepth 20000 in
theorem wX3_isFit_44 (hZ : zO b e D A X) : rx_OK (zV b e D A X) mX3_isFit 0 44 vX3_isFit_44 := by
  unfold vX3_isFit_44
  refine s_iconst dX3_isFit_44 (by decide +kernel) ?_
  exact (wX3_isFit_45 hZ)
noncomputable def vX3_isFit_40 : rx_K := o_const 8 (vX3_isFit_45)
set_option maxRecDepth 20000 in
theorem wX3_isFit_40 (hZ : zO b e D A X) : rx_OK (zV b e D A X) mX3_isFit 0 40 vX3_isFit_40 := by
  unfold vX3_isFit_40
  refine s_iconst dX3_isFit_40 (by decide +kernel) ?_
  exact s_goto dX3_isFit_41 (by decide) (wX3_isFit_45 hZ)
noncomputable def vX3_isFit_32 : rx_K := o_ld rx_isL 2 (o_const 147573952589676412905 (o_bc (fun x y => lg_cmp x y) (o_c1 rx_eq vX3_isFit_44 vX3_isFit_40)))
set_option maxRecDepth 20000 in
theorem wX3_isFit_32 (hZ : zO b e D A X) : rx_OK (zV b e D A X) mX3_isFit 0 32 vX3_isFit_32 := by
  unfold vX3_isFit_32
  refine s_lload_n hZ.1 dX3_isFit_32 rfl ?_
  refine s_ldc2 dX3_isFit_33 zw2241 (by decide +kernel) ?_
  refine s_lcmp dX3_isFit_36 ?_
  exact s_if_eq dX3_isFit_37 (by decide) (wX3_isFit_44 hZ) (wX3_isFit_40 hZ)
noncomputable def vX3_isFit_24 : rx_K := o_ld rx_isL 2 (o_const 147573952589676412921 (o_bc (fun x y => lg_cmp x y) (o_c1 rx_eq vX3_isFit_44 vX3_isFit_32)))
set_option maxRecDepth 20000 in
theorem wX3_isFit_24 (hZ : zO b e D A X) : rx_OK (zV b e D A X) mX3_isFit 0 24 vX3_isFit_24 := by
  unfold vX3_isFit_24
  refine s_lload_n hZ.1 dX3_isFit_24 rfl ?_
  refine s_ldc2 dX3_isFit_25 zw2240 (by decide +kernel) ?_
  refine s_lcmp dX3_isFit_28 ?_
  exact s_if_eq dX3_isFit_29 (by decide) (wX3_isFit_44 hZ) (wX3_isFit_32 hZ)
noncomputable def vX3_isFit_16 : rx_K := o_ld rx_isL 0 (o_const 147573952589676412913 (o_bc (fun x y => lg_cmp x y) (o_c1 rx_eq vX3_isFit_44 vX3_isFit_24)))
set_option maxRecDepth 20000 in
theorem wX3_isFit_16 (hZ : zO b e D A X) : rx_OK (zV b e D A X) mX3_isFit 0 16 vX3_isFit_16 := by
  unfold vX3_isFit_16
  refine s_lload_n hZ.1 dX3_isFit_16 rfl ?_
  refine s_ldc2 dX3_isFit_17 zw2242 (by decide +kernel) ?_
  refine s_lcmp dX3_isFit_20 ?_
  exact s_if_eq dX3_isFit_21 (by decide) (wX3_isFit_44 hZ) (wX3_isFit_24 hZ)
noncomputable def vX3_isFit_8 : rx_K := o_ld rx_isL 0 (o_const 147573952589676412905 (o_bc (fun x y => lg_cmp x y) (o_c1 rx_eq vX3_isFit_44 vX3_isFit_16)))
set_option maxRecDepth 20000 in
theorem wX3_isFit_8 (hZ : zO b e D A X) : rx_OK (zV b e D A X) mX3_isFit 0 8 vX3_isFit_8 := by
  unfold vX3_isFit_8
  refine s_lload_n hZ.1 dX3_isFit_8 rfl ?_
  refine s_ldc2 dX3_isFit_9 zw2241 (by decide +kernel) ?_
  refine s_lcmp dX3_isFit_12 ?_
  exact s_if_eq dX3_isFit_13 (by decide) (wX3_isFit_44 hZ) (wX3_isFit_16 hZ)
noncomputable def vX3_isFit_0 : rx_K := o_ld rx_isL 0 (o_const 147573952589676412921 (o_bc (fun x y => lg_cmp x y) (o_c1 rx_eq vX3_isFit_44 vX3_isFit_8)))
set_option maxRecDepth 20000 in
theorem wX3_isFit_0 (hZ : zO b e D A X) : rx_OK (zV b e D A X) mX3_isFit 0 0 vX3_isFit_0 := by
  unfold vX3_isFit_0
  refine s_lload_n hZ.1 dX3_isFit_0 rfl ?_
  refine s_ldc2 dX3_isFit_1 zw2240 (by decide +kernel) ?_
  refine s_lcmp dX3_isFit_4 ?_
  exact s_if_eq dX3_isFit_5 (by decide) (wX3_isFit_44 hZ) (wX3_isFit_8 hZ)
noncomputable def FX3_isFit : List Nat → rx_H → Option (Nat × rx_H) := rx_ent 5 vX3_isFit_0
theorem Met_X3_isFit (hZ : zO b e D A X) : rx_Met (zV b e D A X) 0 yX3_isFit mX3_isFit (FX3_isFit) := rx_entry hZ.1 (wX3_isFit_0 hZ) (by decide +kernel) rfl (fun h => by cases h)
abbrev mX7_like : rx_M := (RX7, cX7_like, 2, (some .boolean), false)
theorem vy_X7_like : rx_Y (zV b e D A X) yX7_like mX7_like 1 := ⟨zw2236, zw426, by decide, by decide +kernel, by decide +kernel, by decide +kernel⟩
noncomputable def vX7_like_104 : rx_K := o_ret1 rx_isZ
set_option maxRecDepth 20000 in
theorem wX7_like_104 (hZ : zO b e D A X) : rx_OK (zV b e D A X) mX7_like 0 104 vX7_like_104 := by
  unfold vX7_like_104
  exact s_zret rx_z_ok rfl dX7_like_104
noncomputable def vX7_like_103 : rx_K := o_const 0 (vX7_like_104)
set_option maxRecDepth 20000 in
theorem wX7_like_103 (hZ : zO b e D A X) : rx_OK (zV b e D A X) mX7_like 0 103 vX7_like_103 := by
  unfold vX7_like_103
  refine s_iconst dX7_like_103 (by decide +kernel) ?_
  exact (wX7_like_104 hZ)
noncomputable def vX7_like_99 : rx_K := o_const 8 (vX7_like_104)
set_option maxRecDepth 20000 in
theorem wX7_like_99 (hZ : zO b e D A X) : rx_OK (zV b e D A X) mX7_like 0 99 vX7_like_99 := by
  unfold vX7_like_99
  refine s_iconst dX7_like_99 (by decide +kernel) ?_
  exact s_goto dX7_like_100 (by decide) (wX7_like_104 hZ)
noncomputable def vX7_like_83 : rx_K := o_ld rx_isR 0 (o_getf 7 10 (o_const 24 (o_ald 1 (o_ld rx_isR 1 (o_getf 7 10 (o_const 24 (o_ald 1 (o_bc (fun x y => lg_cmp x y) (o_c1 rx_eq vX7_like_99 vX7_like_103)))))))))
set_option maxRecDepth 20000 in
theorem wX7_like_83 (hZ : zO b e D A X) : rx_OK (zV b e D A X) mX7_like 0 83 vX7_like_83 := by
  unfold vX7_like_83
  refine s_aload_n hZ.1 dX7_like_83 rfl ?_
  refine yg7_10 dX7_like_84 zw1029 ?_
  refine s_iconst dX7_like_87 (by decide +kernel) ?_
  refine s_lald (tt := 1) rfl dX7_like_88 ?_
  refine s_aload_n hZ.1 dX7_like_89 rfl ?_
  refine yg7_10 dX7_like_90 zw1029 ?_
  refine s_iconst dX7_like_93 (by decide +kernel) ?_
  refine s_lald (tt := 1) rfl dX7_like_94 ?_
  refine s_lcmp dX7_like_95 ?_
  exact s_if_ne dX7_like_96 (by decide) (wX7_like_103 hZ) (wX7_like_99 hZ)
noncomputable def vX7_like_67 : rx_K := o_ld rx_isR 0 (o_getf 7 10 (o_const 16 (o_ald 1 (o_ld rx_isR 1 (o_getf 7 10 (o_const 16 (o_ald 1 (o_bc (fun x y => lg_cmp x y) (o_c1 rx_eq vX7_like_83 vX7_like_103)))))))))
set_option maxRecDepth 20000 in
theorem wX7_like_67 (hZ : zO b e D A X) : rx_OK (zV b e D A X) mX7_like 0 67 vX7_like_67 := by
  unfold vX7_like_67
  refine s_aload_n hZ.1 dX7_like_67 rfl ?_
  refine yg7_10 dX7_like_68 zw1029 ?_
  refine s_iconst dX7_like_71 (by decide +kernel) ?_
  refine s_lald (tt := 1) rfl dX7_like_72 ?_
  refine s_aload_n hZ.1 dX7_like_73 rfl ?_
  refine yg7_10 dX7_like_74 zw1029 ?_
  refine s_iconst dX7_like_77 (by decide +kernel) ?_
  refine s_lald (tt := 1) rfl dX7_like_78 ?_
  refine s_lcmp dX7_like_79 ?_
  exact s_if_ne dX7_like_80 (by decide) (wX7_like_103 hZ) (wX7_like_83 hZ)
noncomputable def vX7_like_51 : rx_K := o_ld rx_isR 0 (o_getf 7 10 (o_const 8 (o_ald 1 (o_ld rx_isR 1 (o_getf 7 10 (o_const 8 (o_ald 1 (o_bc (fun x y => lg_cmp x y) (o_c1 rx_eq vX7_like_67 vX7_like_103)))))))))
set_option maxRecDepth 20000 in
theorem wX7_like_51 (hZ : zO b e D A X) : rx_OK (zV b e D A X) mX7_like 0 51 vX7_like_51 := by
  unfold vX7_like_51
  refine s_aload_n hZ.1 dX7_like_51 rfl ?_
  refine yg7_10 dX7_like_52 zw1029 ?_
  refine s_iconst dX7_like_55 (by decide +kernel) ?_
  refine s_lald (tt := 1) rfl dX7_like_56 ?_
  refine s_aload_n hZ.1 dX7_like_57 rfl ?_
  refine yg7_10 dX7_like_58 zw1029 ?_
  refine s_iconst dX7_like_61 (by decide +kernel) ?_
  refine s_lald (tt := 1) rfl dX7_like_62 ?_
  refine s_lcmp dX7_like_63 ?_
  exact s_if_ne dX7_like_64 (by decide) (wX7_like_103 hZ) (wX7_like_67 hZ)
noncomputable def vX7_like_35 : rx_K := o_ld rx_isR 0 (o_getf 7 10 (o_const 0 (o_ald 1 (o_ld rx_isR 1 (o_getf 7 10 (o_const 0 (o_ald 1 (o_bc (fun x y => lg_cmp x y) (o_c1 rx_eq vX7_like_51 vX7_like_103)))))))))
set_option maxRecDepth 20000 in
theorem wX7_like_35 (hZ : zO b e D A X) : rx_OK (zV b e D A X) mX7_like 0 35 vX7_like_35 := by
  unfold vX7_like_35
  refine s_aload_n hZ.1 dX7_like_35 rfl ?_
  refine yg7_10 dX7_like_36 zw1029 ?_
  refine s_iconst dX7_like_39 (by decide +kernel) ?_
  refine s_lald (tt := 1) rfl dX7_like_40 ?_
  refine s_aload_n hZ.1 dX7_like_41 rfl ?_
  refine yg7_10 dX7_like_42 zw1029 ?_
  refine s_iconst dX7_like_45 (by decide +kernel) ?_
  refine s_lald (tt := 1) rfl dX7_like_46 ?_
  refine s_lcmp dX7_like_47 ?_
  exact s_if_ne dX7_like_48 (by decide) (wX7_like_103 hZ) (wX7_like_51 hZ)
noncomputable def vX7_like_24 : rx_K := o_ld rx_isR 0 (o_getf 7 9 (o_ld rx_isR 1 (o_getf 7 9 (o_c2 rx_eq vX7_like_35 vX7_like_103))))
set_option maxRecDepth 20000 in
theorem wX7_like_24 (hZ : zO b e D A X) : rx_OK (zV b e D A X) mX7_like 0 24 vX7_like_24 := by
  unfold vX7_like_24
  refine s_aload_n hZ.1 dX7_like_24 rfl ?_
  refine yg7_9 dX7_like_25 zw1021 ?_
  refine s_aload_n hZ.1 dX7_like_28 rfl ?_
  refine yg7_9 dX7_like_29 zw1021 ?_
  exact s_icmp_ne dX7_like_32 (by decide) (wX7_like_103 hZ) (wX7_like_35 hZ)
noncomputable def vX7_like_12 : rx_K := o_ld rx_isR 0 (o_getf 7 8 (o_ld rx_isR 1 (o_getf 7 8 (o_bc (fun x y => lg_cmp x y) (o_c1 rx_eq vX7_like_24 vX7_like_103)))))
set_option maxRecDepth 20000 in
theorem wX7_like_12 (hZ : zO b e D A X) : rx_OK (zV b e D A X) mX7_like 0 12 vX7_like_12 := by
  unfold vX7_like_12
  refine s_aload_n hZ.1 dX7_like_12 rfl ?_
  refine yg7_8 dX7_like_13 zw1012 ?_
  refine s_aload_n hZ.1 dX7_like_16 rfl ?_
  refine yg7_8 dX7_like_17 zw1012 ?_
  refine s_lcmp dX7_like_20 ?_
  exact s_if_ne dX7_like_21 (by decide) (wX7_like_103 hZ) (wX7_like_24 hZ)
noncomputable def vX7_like_0 : rx_K := o_ld rx_isR 0 (o_getf 7 7 (o_ld rx_isR 1 (o_getf 7 7 (o_bc (fun x y => lg_cmp x y) (o_c1 rx_eq vX7_like_12 vX7_like_103)))))
set_option maxRecDepth 20000 in
theorem wX7_like_0 (hZ : zO b e D A X) : rx_OK (zV b e D A X) mX7_like 0 0 vX7_like_0 := by
  unfold vX7_like_0
  refine s_aload_n hZ.1 dX7_like_0 rfl ?_
  refine yg7_7 dX7_like_1 zw1003 ?_
  refine s_aload_n hZ.1 dX7_like_4 rfl ?_
  refine yg7_7 dX7_like_5 zw1003 ?_
  refine s_lcmp dX7_like_8 ?_
  exact s_if_ne dX7_like_9 (by decide) (wX7_like_103 hZ) (wX7_like_12 hZ)
noncomputable def FX7_like : List Nat → rx_H → Option (Nat × rx_H) := rx_ent 2 vX7_like_0
theorem Met_X7_like (hZ : zO b e D A X) : rx_Met (zV b e D A X) 0 yX7_like mX7_like (FX7_like) := rx_entry hZ.1 (wX7_like_0 hZ) (by decide +kernel) rfl (fun h => by cases h)
abbrev mX3_useOf : rx_M := (RX3, cX3_useOf, 9, (some .int), false)
theorem vy_X3_useOf : rx_Y (zV b e D A X) yX3_useOf mX3_useOf 4 := ⟨zw2232, zw422, by decide, by decide +kernel, by decide +kernel, by decide +kernel⟩
noncomputable def vX3_useOf_215 (j : Nat → rx_K) : rx_K := o_getf 3 1 (o_getf 1 13 (o_ld rx_isI 8 (o_ld rx_isR 4 (o_aast 5 [7] (o_ld rx_isR 0 (o_getf 3 1 (o_getf 1 14 (o_ld rx_isI 8 (o_ld rx_isL 5 (o_ast 1 (fun v => v) rx_isL (o_ld rx_isR 0 (o_getf 3 1 (o_dup (o_getf 1 15 (o_const 8 (o_bi (fun x y => x + y) (o_putf rx_isI 1 15 (o_ld rx_isI 8 (o_ld rx_isR 0 (o_getf 3 2 (o_getf 10 16 (o_bi (fun x y => x - y) (o_ret1 rx_isI)))))))))))))))))))))))
set_option maxRecDepth 20000 in
theorem wX3_useOf_215 (hZ : zO b e D A X) (j : Nat → rx_K) (hj : ∀ k pc, [9][k]? = some pc → rx_OK (zV b e D A X) mX3_useOf 1 pc (j k)) : rx_OK (zV b e D A X) mX3_useOf 1 215 (vX3_useOf_215 j) := by
  unfold vX3_useOf_215
  refine yg3_1 dX3_useOf_215 zw722 ?_
  refine yg1_13 dX3_useOf_218 zw1157 ?_
  refine s_iload hZ.1 dX3_useOf_221 ?_
  refine s_aload hZ.1 dX3_useOf_223 ?_
  refine s_aast (tt := 5) rfl zaa7 dX3_useOf_225 ?_
  refine s_aload_n hZ.1 dX3_useOf_226 rfl ?_
  refine yg3_1 dX3_useOf_227 zw722 ?_
  refine yg1_14 dX3_useOf_230 zw1161 ?_
  refine s_iload hZ.1 dX3_useOf_233 ?_
  refine s_lload hZ.1 dX3_useOf_235 ?_
  refine s_last (tt := 1) rfl dX3_useOf_237 ?_
  refine s_aload_n hZ.1 dX3_useOf_238 rfl ?_
  refine yg3_1 dX3_useOf_239 zw722 ?_
  refine s_dup hZ.1 dX3_useOf_242 ?_
  refine yg1_15 dX3_useOf_243 zw1165 ?_
  refine s_iconst dX3_useOf_246 (by decide +kernel) ?_
  refine s_iadd dX3_useOf_247 ?_
  refine yp1_15 hZ.1 dX3_useOf_248 zw1165 ?_
  refine s_iload hZ.1 dX3_useOf_251 ?_
  refine s_aload_n hZ.1 dX3_useOf_253 rfl ?_
  refine yg3_2 dX3_useOf_254 zw723 ?_
  refine yg10_16 dX3_useOf_257 zw875 ?_
  refine s_isub dX3_useOf_260 ?_
  exact s_iret hZ.1 rfl dX3_useOf_261
noncomputable def vX3_useOf_169 (j : Nat → rx_K) : rx_K := o_ld rx_isR 0 (o_getf 3 1 (o_getf 1 15 (o_st rx_isI 8 (o_ld rx_isR 0 (o_getf 3 1 (o_getf 1 10 (o_ld rx_isI 8 (o_ld rx_isI 1 (o_ast 0 (fun v => v) rx_isI (o_ld rx_isR 0 (o_getf 3 1 (o_getf 1 11 (o_ld rx_isI 8 (o_ld rx_isR 0 (o_getf 3 3 (o_ast 0 (fun v => v) rx_isI (o_ld rx_isR 0 (o_getf 3 1 (o_getf 1 12 (o_ld rx_isI 8 (o_ld rx_isL 2 (o_ast 1 (fun v => v) rx_isL (o_ld rx_isR 0 ((vX3_useOf_215 j)))))))))))))))))))))))))
set_option maxRecDepth 20000 in
theorem wX3_useOf_169 (hZ : zO b e D A X) (j : Nat → rx_K) (hj : ∀ k pc, [9][k]? = some pc → rx_OK (zV b e D A X) mX3_useOf 1 pc (j k)) : rx_OK (zV b e D A X) mX3_useOf 1 169 (vX3_useOf_169 j) := by
  unfold vX3_useOf_169
  refine s_aload_n hZ.1 dX3_useOf_169 rfl ?_
  refine yg3_1 dX3_useOf_170 zw722 ?_
  refine yg1_15 dX3_useOf_173 zw1165 ?_
  refine s_istore hZ.1 dX3_useOf_176 (Nat.le_of_ble_eq_true rfl) ?_
  refine s_aload_n hZ.1 dX3_useOf_178 rfl ?_
  refine yg3_1 dX3_useOf_179 zw722 ?_
  refine yg1_10 dX3_useOf_182 zw1145 ?_
  refine s_iload hZ.1 dX3_useOf_185 ?_
  refine s_iload_n hZ.1 dX3_useOf_187 rfl ?_
  refine s_iast hZ.1 (tt := 0) rfl dX3_useOf_188 ?_
  refine s_aload_n hZ.1 dX3_useOf_189 rfl ?_
  refine yg3_1 dX3_useOf_190 zw722 ?_
  refine yg1_11 dX3_useOf_193 zw1150 ?_
  refine s_iload hZ.1 dX3_useOf_196 ?_
  refine s_aload_n hZ.1 dX3_useOf_198 rfl ?_
  refine yg3_3 dX3_useOf_199 zw724 ?_
  refine s_iast hZ.1 (tt := 0) rfl dX3_useOf_202 ?_
  refine s_aload_n hZ.1 dX3_useOf_203 rfl ?_
  refine yg3_1 dX3_useOf_204 zw722 ?_
  refine yg1_12 dX3_useOf_207 zw1153 ?_
  refine s_iload hZ.1 dX3_useOf_210 ?_
  refine s_lload_n hZ.1 dX3_useOf_212 rfl ?_
  refine s_last (tt := 1) rfl dX3_useOf_213 ?_
  refine s_aload_n hZ.1 dX3_useOf_214 rfl ?_
  exact (wX3_useOf_215 hZ j hj)
noncomputable def vX3_useOf_167 (j : Nat → rx_K) : rx_K := o_const 0 (o_ret1 rx_isI)
set_option maxRecDepth 20000 in
theorem wX3_useOf_167 (hZ : zO b e D A X) (j : Nat → rx_K) (hj : ∀ k pc, [9][k]? = some pc → rx_OK (zV b e D A X) mX3_useOf 1 pc (j k)) : rx_OK (zV b e D A X) mX3_useOf 1 167 (vX3_useOf_167 j) := by
  unfold vX3_useOf_167
  refine s_iconst dX3_useOf_167 (by decide +kernel) ?_
  exact s_iret hZ.1 rfl dX3_useOf_168
noncomputable def vX3_useOf_149 (j : Nat → rx_K) : rx_K := o_ld rx_isR 0 (o_getf 3 1 (o_getf 1 15 (o_ld rx_isR 0 (o_getf 3 1 (o_getf 1 10 (o_alen 0 (o_c2 rx_lt (vX3_useOf_169 j) (vX3_useOf_167 j))))))))
set_option maxRecDepth 20000 in
theorem wX3_useOf_149 (hZ : zO b e D A X) (j : Nat → rx_K) (hj : ∀ k pc, [9][k]? = some pc → rx_OK (zV b e D A X) mX3_useOf 1 pc (j k)) : rx_OK (zV b e D A X) mX3_useOf 1 149 (vX3_useOf_149 j) := by
  unfold vX3_useOf_149
  refine s_aload_n hZ.1 dX3_useOf_149 rfl ?_
  refine yg3_1 dX3_useOf_150 zw722 ?_
  refine yg1_15 dX3_useOf_153 zw1165 ?_
  refine s_aload_n hZ.1 dX3_useOf_156 rfl ?_
  refine yg3_1 dX3_useOf_157 zw722 ?_
  refine yg1_10 dX3_useOf_160 zw1145 ?_
  refine s_alen (tt := 0) rfl dX3_useOf_163 ?_
  exact s_icmp_lt dX3_useOf_164 (by decide) (wX3_useOf_169 hZ j hj) (wX3_useOf_167 hZ j hj)
noncomputable def vX3_useOf_142 (j : Nat → rx_K) : rx_K := o_st rx_isI 7 (o_ld rx_isI 7 (o_c1 rx_eq (vX3_useOf_149 j) (vX3_useOf_167 j)))
set_option maxRecDepth 20000 in
theorem wX3_useOf_142 (hZ : zO b e D A X) (j : Nat → rx_K) (hj : ∀ k pc, [9][k]? = some pc → rx_OK (zV b e D A X) mX3_useOf 1 pc (j k)) : rx_OK (zV b e D A X) mX3_useOf 1 142 (vX3_useOf_142 j) := by
  unfold vX3_useOf_142
  refine s_istore hZ.1 dX3_useOf_142 (Nat.le_of_ble_eq_true rfl) ?_
  refine s_iload hZ.1 dX3_useOf_144 ?_
  exact s_if_ne dX3_useOf_146 (by decide) (wX3_useOf_167 hZ j hj) (wX3_useOf_149 hZ j hj)
noncomputable def vX3_useOf_141 (j : Nat → rx_K) : rx_K := o_const 0 ((vX3_useOf_142 j))
set_option maxRecDepth 20000 in
theorem wX3_useOf_141 (hZ : zO b e D A X) (j : Nat → rx_K) (hj : ∀ k pc, [9][k]? = some pc → rx_OK (zV b e D A X) mX3_useOf 1 pc (j k)) : rx_OK (zV b e D A X) mX3_useOf 1 141 (vX3_useOf_141 j) := by
  unfold vX3_useOf_141
  refine s_iconst dX3_useOf_141 (by decide +kernel) ?_
  exact (wX3_useOf_142 hZ j hj)
noncomputable def vX3_useOf_137 (j : Nat → rx_K) : rx_K := o_const 8 ((vX3_useOf_142 j))
set_option maxRecDepth 20000 in
theorem wX3_useOf_137 (hZ : zO b e D A X) (j : Nat → rx_K) (hj : ∀ k pc, [9][k]? = some pc → rx_OK (zV b e D A X) mX3_useOf 1 pc (j k)) : rx_OK (zV b e D A X) mX3_useOf 1 137 (vX3_useOf_137 j) := by
  unfold vX3_useOf_137
  refine s_iconst dX3_useOf_137 (by decide +kernel) ?_
  exact s_goto dX3_useOf_138 (by decide) (wX3_useOf_142 hZ j hj)
noncomputable def vX3_useOf_128 (j : Nat → rx_K) : rx_K := o_ld rx_isL 2 (o_ld rx_isL 5 (o_callS 2 FX3_isFit (o_c1 rx_eq (vX3_useOf_137 j) (vX3_useOf_141 j))))
set_option maxRecDepth 20000 in
theorem wX3_useOf_128 (hZ : zO b e D A X) (j : Nat → rx_K) (hj : ∀ k pc, [9][k]? = some pc → rx_OK (zV b e D A X) mX3_useOf 1 pc (j k)) : rx_OK (zV b e D A X) mX3_useOf 1 128 (vX3_useOf_128 j) := by
  unfold vX3_useOf_128
  refine s_lload_n hZ.1 dX3_useOf_128 rfl ?_
  refine s_lload hZ.1 dX3_useOf_129 ?_
  refine s_callS hZ.1 (Met_X3_isFit hZ) (Nat.le_of_ble_eq_true rfl) vy_X3_isFit zw2238 (Or.inl zw2237) dX3_useOf_131 ?_
  exact s_if_ne dX3_useOf_134 (by decide) (wX3_useOf_141 hZ j hj) (wX3_useOf_137 hZ j hj)
noncomputable def vX3_useOf_122 (j : Nat → rx_K) : rx_K := o_ld rx_isI 1 (o_const 136 (o_c2 rx_eq (vX3_useOf_128 j) (vX3_useOf_141 j)))
set_option maxRecDepth 20000 in
theorem wX3_useOf_122 (hZ : zO b e D A X) (j : Nat → rx_K) (hj : ∀ k pc, [9][k]? = some pc → rx_OK (zV b e D A X) mX3_useOf 1 pc (j k)) : rx_OK (zV b e D A X) mX3_useOf 1 122 (vX3_useOf_122 j) := by
  unfold vX3_useOf_122
  refine s_iload_n hZ.1 dX3_useOf_122 rfl ?_
  refine s_bipush dX3_useOf_123 (by decide +kernel) ?_
  exact s_icmp_ne dX3_useOf_125 (by decide) (wX3_useOf_141 hZ j hj) (wX3_useOf_128 hZ j hj)
noncomputable def vX3_useOf_116 (j : Nat → rx_K) : rx_K := o_inc 7 (1) ((j 0))
set_option maxRecDepth 20000 in
theorem wX3_useOf_116 (hZ : zO b e D A X) (j : Nat → rx_K) (hj : ∀ k pc, [9][k]? = some pc → rx_OK (zV b e D A X) mX3_useOf 1 pc (j k)) : rx_OK (zV b e D A X) mX3_useOf 1 116 (vX3_useOf_116 j) := by
  unfold vX3_useOf_116
  refine s_iinc hZ.1 dX3_useOf_116 (Nat.le_of_ble_eq_true rfl) ?_
  exact s_goto dX3_useOf_119 (by decide) (hj 0 9 rfl)
noncomputable def vX3_useOf_105 (j : Nat → rx_K) : rx_K := o_ld rx_isI 7 (o_ld rx_isR 0 (o_getf 3 2 (o_getf 10 16 (o_bi (fun x y => x - y) (o_ret1 rx_isI)))))
set_option maxRecDepth 20000 in
theorem wX3_useOf_105 (hZ : zO b e D A X) (j : Nat → rx_K) (hj : ∀ k pc, [9][k]? = some pc → rx_OK (zV b e D A X) mX3_useOf 1 pc (j k)) : rx_OK (zV b e D A X) mX3_useOf 1 105 (vX3_useOf_105 j) := by
  unfold vX3_useOf_105
  refine s_iload hZ.1 dX3_useOf_105 ?_
  refine s_aload_n hZ.1 dX3_useOf_107 rfl ?_
  refine yg3_2 dX3_useOf_108 zw723 ?_
  refine yg10_16 dX3_useOf_111 zw875 ?_
  refine s_isub dX3_useOf_114 ?_
  exact s_iret hZ.1 rfl dX3_useOf_115
noncomputable def vX3_useOf_95 (j : Nat → rx_K) : rx_K := o_ld rx_isR 8 (o_ld rx_isR 4 (o_callV 1 7 FX7_like (o_c1 rx_eq (vX3_useOf_116 j) (vX3_useOf_105 j))))
set_option maxRecDepth 20000 in
theorem wX3_useOf_95 (hZ : zO b e D A X) (j : Nat → rx_K) (hj : ∀ k pc, [9][k]? = some pc → rx_OK (zV b e D A X) mX3_useOf 1 pc (j k)) : rx_OK (zV b e D A X) mX3_useOf 1 95 (vX3_useOf_95 j) := by
  unfold vX3_useOf_95
  refine s_aload hZ.1 dX3_useOf_95 ?_
  refine s_aload hZ.1 dX3_useOf_97 ?_
  refine s_callV hZ.1 (Met_X7_like hZ) (Nat.le_of_ble_eq_true rfl) vy_X7_like zcl7 zw2234 zw2235 (Or.inl zw2233) dX3_useOf_99 ?_
  exact s_if_eq dX3_useOf_102 (by decide) (wX3_useOf_116 hZ j hj) (wX3_useOf_105 hZ j hj)
noncomputable def vX3_useOf_90 (j : Nat → rx_K) : rx_K := o_ld rx_isR 4 (o_nul (vX3_useOf_116 j) (vX3_useOf_95 j))
set_option maxRecDepth 20000 in
theorem wX3_useOf_90 (hZ : zO b e D A X) (j : Nat → rx_K) (hj : ∀ k pc, [9][k]? = some pc → rx_OK (zV b e D A X) mX3_useOf 1 pc (j k)) : rx_OK (zV b e D A X) mX3_useOf 1 90 (vX3_useOf_90 j) := by
  unfold vX3_useOf_90
  refine s_aload hZ.1 dX3_useOf_90 ?_
  exact s_ifnull dX3_useOf_92 (by decide) (wX3_useOf_116 hZ j hj) (wX3_useOf_95 hZ j hj)
noncomputable def vX3_useOf_85 (j : Nat → rx_K) : rx_K := o_ld rx_isR 8 (o_nul (vX3_useOf_116 j) (vX3_useOf_90 j))
set_option maxRecDepth 20000 in
theorem wX3_useOf_85 (hZ : zO b e D A X) (j : Nat → rx_K) (hj : ∀ k pc, [9][k]? = some pc → rx_OK (zV b e D A X) mX3_useOf 1 pc (j k)) : rx_OK (zV b e D A X) mX3_useOf 1 85 (vX3_useOf_85 j) := by
  unfold vX3_useOf_85
  refine s_aload hZ.1 dX3_useOf_85 ?_
  exact s_ifnull dX3_useOf_87 (by decide) (wX3_useOf_116 hZ j hj) (wX3_useOf_90 hZ j hj)
noncomputable def vX3_useOf_78 (j : Nat → rx_K) : rx_K := o_ld rx_isR 8 (o_ld rx_isR 4 (o_acmp (vX3_useOf_105 j) (vX3_useOf_85 j)))
set_option maxRecDepth 20000 in
theorem wX3_useOf_78 (hZ : zO b e D A X) (j : Nat → rx_K) (hj : ∀ k pc, [9][k]? = some pc → rx_OK (zV b e D A X) mX3_useOf 1 pc (j k)) : rx_OK (zV b e D A X) mX3_useOf 1 78 (vX3_useOf_78 j) := by
  unfold vX3_useOf_78
  refine s_aload hZ.1 dX3_useOf_78 ?_
  refine s_aload hZ.1 dX3_useOf_80 ?_
  exact s_acmp_eq hZ.1 dX3_useOf_82 (by decide) (wX3_useOf_105 hZ j hj) (wX3_useOf_85 hZ j hj)
noncomputable def vX3_useOf_62 (j : Nat → rx_K) : rx_K := o_ld rx_isR 0 (o_getf 3 1 (o_getf 1 14 (o_ld rx_isI 7 (o_ald 1 (o_ld rx_isL 5 (o_bc (fun x y => lg_cmp x y) (o_c1 rx_eq (vX3_useOf_78 j) (vX3_useOf_116 j))))))))
set_option maxRecDepth 20000 in
theorem wX3_useOf_62 (hZ : zO b e D A X) (j : Nat → rx_K) (hj : ∀ k pc, [9][k]? = some pc → rx_OK (zV b e D A X) mX3_useOf 1 pc (j k)) : rx_OK (zV b e D A X) mX3_useOf 1 62 (vX3_useOf_62 j) := by
  unfold vX3_useOf_62
  refine s_aload_n hZ.1 dX3_useOf_62 rfl ?_
  refine yg3_1 dX3_useOf_63 zw722 ?_
  refine yg1_14 dX3_useOf_66 zw1161 ?_
  refine s_iload hZ.1 dX3_useOf_69 ?_
  refine s_lald (tt := 1) rfl dX3_useOf_71 ?_
  refine s_lload hZ.1 dX3_useOf_72 ?_
  refine s_lcmp dX3_useOf_74 ?_
  exact s_if_ne dX3_useOf_75 (by decide) (wX3_useOf_116 hZ j hj) (wX3_useOf_78 hZ j hj)
noncomputable def vX3_useOf_47 (j : Nat → rx_K) : rx_K := o_ld rx_isR 0 (o_getf 3 1 (o_getf 1 12 (o_ld rx_isI 7 (o_ald 1 (o_ld rx_isL 2 (o_bc (fun x y => lg_cmp x y) (o_c1 rx_eq (vX3_useOf_62 j) (vX3_useOf_116 j))))))))
set_option maxRecDepth 20000 in
theorem wX3_useOf_47 (hZ : zO b e D A X) (j : Nat → rx_K) (hj : ∀ k pc, [9][k]? = some pc → rx_OK (zV b e D A X) mX3_useOf 1 pc (j k)) : rx_OK (zV b e D A X) mX3_useOf 1 47 (vX3_useOf_47 j) := by
  unfold vX3_useOf_47
  refine s_aload_n hZ.1 dX3_useOf_47 rfl ?_
  refine yg3_1 dX3_useOf_48 zw722 ?_
  refine yg1_12 dX3_useOf_51 zw1153 ?_
  refine s_iload hZ.1 dX3_useOf_54 ?_
  refine s_lald (tt := 1) rfl dX3_useOf_56 ?_
  refine s_lload_n hZ.1 dX3_useOf_57 rfl ?_
  refine s_lcmp dX3_useOf_58 ?_
  exact s_if_ne dX3_useOf_59 (by decide) (wX3_useOf_116 hZ j hj) (wX3_useOf_62 hZ j hj)
noncomputable def vX3_useOf_21 (j : Nat → rx_K) : rx_K := o_ld rx_isR 0 (o_getf 3 1 (o_getf 1 13 (o_ld rx_isI 7 (o_ald 5 (o_st rx_isR 8 (o_ld rx_isR 0 (o_getf 3 1 (o_getf 1 10 (o_ld rx_isI 7 (o_ald 0 (o_ld rx_isI 1 (o_c2 rx_eq (vX3_useOf_47 j) (vX3_useOf_116 j)))))))))))))
set_option maxRecDepth 20000 in
theorem wX3_useOf_21 (hZ : zO b e D A X) (j : Nat → rx_K) (hj : ∀ k pc, [9][k]? = some pc → rx_OK (zV b e D A X) mX3_useOf 1 pc (j k)) : rx_OK (zV b e D A X) mX3_useOf 1 21 (vX3_useOf_21 j) := by
  unfold vX3_useOf_21
  refine s_aload_n hZ.1 dX3_useOf_21 rfl ?_
  refine yg3_1 dX3_useOf_22 zw722 ?_
  refine yg1_13 dX3_useOf_25 zw1157 ?_
  refine s_iload hZ.1 dX3_useOf_28 ?_
  refine s_aald (tt := 5) rfl rfl dX3_useOf_30 ?_
  refine s_astore hZ.1 dX3_useOf_31 (Nat.le_of_ble_eq_true rfl) ?_
  refine s_aload_n hZ.1 dX3_useOf_33 rfl ?_
  refine yg3_1 dX3_useOf_34 zw722 ?_
  refine yg1_10 dX3_useOf_37 zw1145 ?_
  refine s_iload hZ.1 dX3_useOf_40 ?_
  refine s_iald (tt := 0) rfl dX3_useOf_42 ?_
  refine s_iload_n hZ.1 dX3_useOf_43 rfl ?_
  exact s_icmp_ne dX3_useOf_44 (by decide) (wX3_useOf_116 hZ j hj) (wX3_useOf_47 hZ j hj)
noncomputable def vX3_useOf_9 (j : Nat → rx_K) : rx_K := o_ld rx_isI 7 (o_ld rx_isR 0 (o_getf 3 1 (o_getf 1 15 (o_c2 rx_lt (vX3_useOf_21 j) (vX3_useOf_122 j)))))
set_option maxRecDepth 20000 in
theorem wX3_useOf_9 (hZ : zO b e D A X) (j : Nat → rx_K) (hj : ∀ k pc, [9][k]? = some pc → rx_OK (zV b e D A X) mX3_useOf 1 pc (j k)) : rx_OK (zV b e D A X) mX3_useOf 1 9 (vX3_useOf_9 j) := by
  unfold vX3_useOf_9
  refine s_iload hZ.1 dX3_useOf_9 ?_
  refine s_aload_n hZ.1 dX3_useOf_11 rfl ?_
  refine yg3_1 dX3_useOf_12 zw722 ?_
  refine yg1_15 dX3_useOf_15 zw1165 ?_
  exact s_icmp_ge dX3_useOf_18 (by decide) (wX3_useOf_122 hZ j hj) (wX3_useOf_21 hZ j hj)
noncomputable def vX3_useOf_0 (j : Nat → rx_K) : rx_K := o_ld rx_isR 0 (o_getf 3 2 (o_getf 10 16 (o_st rx_isI 7 ((vX3_useOf_9 j)))))
set_option maxRecDepth 20000 in
theorem wX3_useOf_0 (hZ : zO b e D A X) (j : Nat → rx_K) (hj : ∀ k pc, [9][k]? = some pc → rx_OK (zV b e D A X) mX3_useOf 1 pc (j k)) : rx_OK (zV b e D A X) mX3_useOf 1 0 (vX3_useOf_0 j) := by
  unfold vX3_useOf_0
  refine s_aload_n hZ.1 dX3_useOf_0 rfl ?_
  refine yg3_2 dX3_useOf_1 zw723 ?_
  refine yg10_16 dX3_useOf_4 zw875 ?_
  refine s_istore hZ.1 dX3_useOf_7 (Nat.le_of_ble_eq_true rfl) ?_
  exact (wX3_useOf_9 hZ j hj)
noncomputable def vhX3_useOf (j : Nat → rx_K) : List rx_K := [vX3_useOf_9 j]
theorem vlX3_useOf (hZ : zO b e D A X) : ∀ n k pc, [9][k]? = some pc → rx_OK (zV b e D A X) mX3_useOf 1 pc (rx_J (vhX3_useOf) n k) := rx_loop fun j hj k pc h => by
  match k, h with
  | 0, h =>
    have e9 := Option.some.inj (show some 9 = some pc from h)
    subst e9
    exact wX3_useOf_9 hZ j hj
  | _ + 1, h => exact absurd h (by simp)
noncomputable def FX3_useOf : List Nat → rx_H → Option (Nat × rx_H) := rx_ent 9 (vX3_useOf_0 (rx_J (vhX3_useOf) 4000000000))
theorem Met_X3_useOf (hZ : zO b e D A X) : rx_Met (zV b e D A X) 1 yX3_useOf mX3_useOf (FX3_useOf) := rx_entry hZ.1 (wX3_useOf_0 hZ _ (vlX3_useOf hZ 4000000000)) (by decide +kernel) rfl (fun h => by cases h)
abbrev mX3_callSort : rx_M := (RX3, cX3_callSort, 6, (some .int), false)
theorem vy_X3_callSort : rx_Y (zV b e D A X) yX3_callSort mX3_callSort 2 := ⟨zw2272, zw422, by decide, by decide +kernel, by decide +kernel, by decide +kernel⟩
noncomputable def vX3_callSort_70 : rx_K := o_ret1 rx_isI
set_option maxRecDepth 20000 in
theorem wX3_callSort_70 (hZ : zO b e D A X) : rx_OK (zV b e D A X) mX3_callSort 1 70 vX3_callSort_70 := by
  unfold vX3_callSort_70
  exact s_iret hZ.1 rfl dX3_callSort_70
noncomputable def vX3_callSort_68 : rx_K := o_const 56 (vX3_callSort_70)
set_option maxRecDepth 20000 in
theorem wX3_callSort_68 (hZ : zO b e D A X) : rx_OK (zV b e D A X) mX3_callSort 1 68 vX3_callSort_68 := by
  unfold vX3_callSort_68
  refine s_bipush dX3_callSort_68 (by decide +kernel) ?_
  exact (wX3_callSort_70 hZ)
noncomputable def vX3_callSort_63 : rx_K := o_const 64 (vX3_callSort_70)
set_option maxRecDepth 20000 in
theorem wX3_callSort_63 (hZ : zO b e D A X) : rx_OK (zV b e D A X) mX3_callSort 1 63 vX3_callSort_63 := by
  unfold vX3_callSort_63
  refine s_bipush dX3_callSort_63 (by decide +kernel) ?_
  exact s_goto dX3_callSort_65 (by decide) (wX3_callSort_70 hZ)
noncomputable def vX3_callSort_58 : rx_K := o_ld rx_isI 5 (o_c1 rx_eq vX3_callSort_68 vX3_callSort_63)
set_option maxRecDepth 20000 in
theorem wX3_callSort_58 (hZ : zO b e D A X) : rx_OK (zV b e D A X) mX3_callSort 1 58 vX3_callSort_58 := by
  unfold vX3_callSort_58
  refine s_iload hZ.1 dX3_callSort_58 ?_
  exact s_if_eq dX3_callSort_60 (by decide) (wX3_callSort_68 hZ) (wX3_callSort_63 hZ)
noncomputable def vX3_callSort_57 : rx_K := o_ret1 rx_isI
set_option maxRecDepth 20000 in
theorem wX3_callSort_57 (hZ : zO b e D A X) : rx_OK (zV b e D A X) mX3_callSort 1 57 vX3_callSort_57 := by
  unfold vX3_callSort_57
  exact s_iret hZ.1 rfl dX3_callSort_57
noncomputable def vX3_callSort_55 : rx_K := o_const 72 (vX3_callSort_57)
set_option maxRecDepth 20000 in
theorem wX3_callSort_55 (hZ : zO b e D A X) : rx_OK (zV b e D A X) mX3_callSort 1 55 vX3_callSort_55 := by
  unfold vX3_callSort_55
  refine s_bipush dX3_callSort_55 (by decide +kernel) ?_
  exact (wX3_callSort_57 hZ)
noncomputable def vX3_callSort_50 : rx_K := o_const 80 (vX3_callSort_57)
set_option maxRecDepth 20000 in
theorem wX3_callSort_50 (hZ : zO b e D A X) : rx_OK (zV b e D A X) mX3_callSort 1 50 vX3_callSort_50 := by
  unfold vX3_callSort_50
  refine s_bipush dX3_callSort_50 (by decide +kernel) ?_
  exact s_goto dX3_callSort_52 (by decide) (wX3_callSort_57 hZ)
noncomputable def vX3_callSort_45 : rx_K := o_ld rx_isI 5 (o_c1 rx_eq vX3_callSort_55 vX3_callSort_50)
set_option maxRecDepth 20000 in
theorem wX3_callSort_45 (hZ : zO b e D A X) : rx_OK (zV b e D A X) mX3_callSort 1 45 vX3_callSort_45 := by
  unfold vX3_callSort_45
  refine s_iload hZ.1 dX3_callSort_45 ?_
  exact s_if_eq dX3_callSort_47 (by decide) (wX3_callSort_55 hZ) (wX3_callSort_50 hZ)
noncomputable def vX3_callSort_36 : rx_K := o_st rx_isI 5 (o_ld rx_isR 3 (o_getf 7 2 (o_c1 rx_eq vX3_callSort_58 vX3_callSort_45)))
set_option maxRecDepth 20000 in
theorem wX3_callSort_36 (hZ : zO b e D A X) : rx_OK (zV b e D A X) mX3_callSort 1 36 vX3_callSort_36 := by
  unfold vX3_callSort_36
  refine s_istore hZ.1 dX3_callSort_36 (Nat.le_of_ble_eq_true rfl) ?_
  refine s_aload_n hZ.1 dX3_callSort_38 rfl ?_
  refine yg7_2 dX3_callSort_39 zw962 ?_
  exact s_if_eq dX3_callSort_42 (by decide) (wX3_callSort_58 hZ) (wX3_callSort_45 hZ)
noncomputable def vX3_callSort_35 : rx_K := o_const 0 (vX3_callSort_36)
set_option maxRecDepth 20000 in
theorem wX3_callSort_35 (hZ : zO b e D A X) : rx_OK (zV b e D A X) mX3_callSort 1 35 vX3_callSort_35 := by
  unfold vX3_callSort_35
  refine s_iconst dX3_callSort_35 (by decide +kernel) ?_
  exact (wX3_callSort_36 hZ)
noncomputable def vX3_callSort_31 : rx_K := o_const 8 (vX3_callSort_36)
set_option maxRecDepth 20000 in
theorem wX3_callSort_31 (hZ : zO b e D A X) : rx_OK (zV b e D A X) mX3_callSort 1 31 vX3_callSort_31 := by
  unfold vX3_callSort_31
  refine s_iconst dX3_callSort_31 (by decide +kernel) ?_
  exact s_goto dX3_callSort_32 (by decide) (wX3_callSort_36 hZ)
noncomputable def vX3_callSort_15 : rx_K := o_ld rx_isR 0 (o_getf 3 0 (o_getf 11 1 (o_ld rx_isI 4 (o_ald 4 (o_getf 10 4 (o_c1 rx_eq vX3_callSort_35 vX3_callSort_31))))))
set_option maxRecDepth 20000 in
theorem wX3_callSort_15 (hZ : zO b e D A X) : rx_OK (zV b e D A X) mX3_callSort 1 15 vX3_callSort_15 := by
  unfold vX3_callSort_15
  refine s_aload_n hZ.1 dX3_callSort_15 rfl ?_
  refine yg3_0 dX3_callSort_16 zw721 ?_
  refine yg11_1 dX3_callSort_19 zw1256 ?_
  refine s_iload hZ.1 dX3_callSort_22 ?_
  refine s_aald (tt := 4) rfl rfl dX3_callSort_24 ?_
  refine yg10_4 dX3_callSort_25 zw795 ?_
  exact s_if_eq dX3_callSort_28 (by decide) (wX3_callSort_35 hZ) (wX3_callSort_31 hZ)
noncomputable def vX3_callSort_0 : rx_K := o_ld rx_isR 0 (o_getf 3 0 (o_ld rx_isL 1 (o_callV 1 11 FX11_find (o_st rx_isI 4 (o_ld rx_isI 4 (o_c1 rx_lt vX3_callSort_35 vX3_callSort_15))))))
set_option maxRecDepth 20000 in
theorem wX3_callSort_0 (hZ : zO b e D A X) : rx_OK (zV b e D A X) mX3_callSort 1 0 vX3_callSort_0 := by
  unfold vX3_callSort_0
  refine s_aload_n hZ.1 dX3_callSort_0 rfl ?_
  refine yg3_0 dX3_callSort_1 zw721 ?_
  refine s_lload_n hZ.1 dX3_callSort_4 rfl ?_
  refine s_callV hZ.1 (Met_X11_find hZ) (Nat.le_of_ble_eq_true rfl) vy_X11_find zcl11 zw1574 zw1575 (Or.inl zw2273) dX3_callSort_5 ?_
  refine s_istore hZ.1 dX3_callSort_8 (Nat.le_of_ble_eq_true rfl) ?_
  refine s_iload hZ.1 dX3_callSort_10 ?_
  exact s_if_lt dX3_callSort_12 (by decide) (wX3_callSort_35 hZ) (wX3_callSort_15 hZ)
noncomputable def FX3_callSort : List Nat → rx_H → Option (Nat × rx_H) := rx_ent 6 vX3_callSort_0
theorem Met_X3_callSort (hZ : zO b e D A X) : rx_Met (zV b e D A X) 1 yX3_callSort mX3_callSort (FX3_callSort) := rx_entry hZ.1 (wX3_callSort_0 hZ) (by decide +kernel) rfl (fun h => by cases h)
end ZM9

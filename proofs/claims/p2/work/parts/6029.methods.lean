section ZM29
variable {b : Nat} {e : Nat → Value} {D : va_G} {A : Nat → ClassId} {X : State → Prop}
abbrev mX9_scanAll : rx_M := (RX9, cX9_scanAll, 5, none, false)
theorem vy_X9_scanAll : rx_Y (zV b e D A X) yX9_scanAll mX9_scanAll 2 := ⟨zw1727, zw414, by decide, by decide +kernel, by decide +kernel, by decide +kernel⟩
noncomputable def vX9_scanAll_49 (j : Nat → rx_K) : rx_K := o_ld rx_isR 0 (o_getf 9 1 (o_ld rx_isR 0 (o_getf 9 5 (o_const 0 (o_ast 0 (fun v => v) rx_isI (o_ld rx_isR 0 (o_getf 9 2 (o_ld rx_isR 0 (o_getf 9 5 (o_ld rx_isR 0 (o_getf 9 7 (o_ast 0 (fun v => v) rx_isI (o_ld rx_isR 0 (o_getf 9 3 (o_ld rx_isR 0 (o_getf 9 5 (o_ld rx_isR 0 (o_getf 9 7 (o_ast 0 (fun v => v) rx_isI (o_ret0))))))))))))))))))))
set_option maxRecDepth 20000 in
theorem wX9_scanAll_49 (hZ : zO b e D A X) (j : Nat → rx_K) (hj : ∀ k pc, [25][k]? = some pc → rx_OK (zV b e D A X) mX9_scanAll 3 pc (j k)) : rx_OK (zV b e D A X) mX9_scanAll 3 49 (vX9_scanAll_49 j) := by
  unfold vX9_scanAll_49
  refine s_aload_n hZ.1 dX9_scanAll_49 rfl ?_
  refine yg9_1 dX9_scanAll_50 zw582 ?_
  refine s_aload_n hZ.1 dX9_scanAll_53 rfl ?_
  refine yg9_5 dX9_scanAll_54 zw589 ?_
  refine s_iconst dX9_scanAll_57 (by decide +kernel) ?_
  refine s_iast hZ.1 (tt := 0) rfl dX9_scanAll_58 ?_
  refine s_aload_n hZ.1 dX9_scanAll_59 rfl ?_
  refine yg9_2 dX9_scanAll_60 zw583 ?_
  refine s_aload_n hZ.1 dX9_scanAll_63 rfl ?_
  refine yg9_5 dX9_scanAll_64 zw589 ?_
  refine s_aload_n hZ.1 dX9_scanAll_67 rfl ?_
  refine yg9_7 dX9_scanAll_68 zw591 ?_
  refine s_iast hZ.1 (tt := 0) rfl dX9_scanAll_71 ?_
  refine s_aload_n hZ.1 dX9_scanAll_72 rfl ?_
  refine yg9_3 dX9_scanAll_73 zw585 ?_
  refine s_aload_n hZ.1 dX9_scanAll_76 rfl ?_
  refine yg9_5 dX9_scanAll_77 zw589 ?_
  refine s_aload_n hZ.1 dX9_scanAll_80 rfl ?_
  refine yg9_7 dX9_scanAll_81 zw591 ?_
  refine s_iast hZ.1 (tt := 0) rfl dX9_scanAll_84 ?_
  exact s_vret rfl dX9_scanAll_85
noncomputable def vX9_scanAll_37 (j : Nat → rx_K) : rx_K := o_ld rx_isR 0 (o_ld rx_isI 3 (o_callV 1 9 FX9_scan (o_st rx_isI 3 (o_inc 4 (1) ((j 0))))))
set_option maxRecDepth 20000 in
theorem wX9_scanAll_37 (hZ : zO b e D A X) (j : Nat → rx_K) (hj : ∀ k pc, [25][k]? = some pc → rx_OK (zV b e D A X) mX9_scanAll 3 pc (j k)) : rx_OK (zV b e D A X) mX9_scanAll 3 37 (vX9_scanAll_37 j) := by
  unfold vX9_scanAll_37
  refine s_aload_n hZ.1 dX9_scanAll_37 rfl ?_
  refine s_iload_n hZ.1 dX9_scanAll_38 rfl ?_
  refine s_callV hZ.1 (Met_X9_scan hZ) (Nat.le_of_ble_eq_true rfl) vy_X9_scan zcl9 zw1730 zw9 (Or.inl zw1728) dX9_scanAll_39 ?_
  refine s_istore_n hZ.1 dX9_scanAll_42 rfl (Nat.le_of_ble_eq_true rfl) ?_
  refine s_iinc hZ.1 dX9_scanAll_43 (Nat.le_of_ble_eq_true rfl) ?_
  exact s_goto dX9_scanAll_46 (by decide) (hj 0 25 rfl)
noncomputable def vX9_scanAll_33 (j : Nat → rx_K) : rx_K := o_ld rx_isI 3 (o_c1 rx_lt (vX9_scanAll_49 j) (vX9_scanAll_37 j))
set_option maxRecDepth 20000 in
theorem wX9_scanAll_33 (hZ : zO b e D A X) (j : Nat → rx_K) (hj : ∀ k pc, [25][k]? = some pc → rx_OK (zV b e D A X) mX9_scanAll 3 pc (j k)) : rx_OK (zV b e D A X) mX9_scanAll 3 33 (vX9_scanAll_33 j) := by
  unfold vX9_scanAll_33
  refine s_iload_n hZ.1 dX9_scanAll_33 rfl ?_
  exact s_if_lt dX9_scanAll_34 (by decide) (wX9_scanAll_49 hZ j hj) (wX9_scanAll_37 hZ j hj)
noncomputable def vX9_scanAll_25 (j : Nat → rx_K) : rx_K := o_ld rx_isI 4 (o_const 5616 (o_c2 rx_lt (vX9_scanAll_33 j) (vX9_scanAll_49 j)))
set_option maxRecDepth 20000 in
theorem wX9_scanAll_25 (hZ : zO b e D A X) (j : Nat → rx_K) (hj : ∀ k pc, [25][k]? = some pc → rx_OK (zV b e D A X) mX9_scanAll 3 pc (j k)) : rx_OK (zV b e D A X) mX9_scanAll 3 25 (vX9_scanAll_25 j) := by
  unfold vX9_scanAll_25
  refine s_iload hZ.1 dX9_scanAll_25 ?_
  refine s_sipush dX9_scanAll_27 (by decide +kernel) ?_
  exact s_icmp_ge dX9_scanAll_30 (by decide) (wX9_scanAll_49 hZ j hj) (wX9_scanAll_33 hZ j hj)
noncomputable def vX9_scanAll_0 (j : Nat → rx_K) : rx_K := o_ld rx_isR 0 (o_ld rx_isR 1 (o_putf rx_isR 9 6 (o_ld rx_isR 0 (o_ld rx_isI 2 (o_putf rx_isI 9 7 (o_ld rx_isR 0 (o_const 0 (o_putf rx_isI 9 5 (o_ld rx_isR 0 (o_const 0 (o_putf rx_isI 9 8 (o_const 0 (o_st rx_isI 3 (o_const 0 (o_st rx_isI 4 ((vX9_scanAll_25 j)))))))))))))))))
set_option maxRecDepth 20000 in
theorem wX9_scanAll_0 (hZ : zO b e D A X) (j : Nat → rx_K) (hj : ∀ k pc, [25][k]? = some pc → rx_OK (zV b e D A X) mX9_scanAll 3 pc (j k)) : rx_OK (zV b e D A X) mX9_scanAll 3 0 (vX9_scanAll_0 j) := by
  unfold vX9_scanAll_0
  refine s_aload_n hZ.1 dX9_scanAll_0 rfl ?_
  refine s_aload_n hZ.1 dX9_scanAll_1 rfl ?_
  refine yp9_6 hZ.1 dX9_scanAll_2 zw590 ?_
  refine s_aload_n hZ.1 dX9_scanAll_5 rfl ?_
  refine s_iload_n hZ.1 dX9_scanAll_6 rfl ?_
  refine yp9_7 hZ.1 dX9_scanAll_7 zw591 ?_
  refine s_aload_n hZ.1 dX9_scanAll_10 rfl ?_
  refine s_iconst dX9_scanAll_11 (by decide +kernel) ?_
  refine yp9_5 hZ.1 dX9_scanAll_12 zw589 ?_
  refine s_aload_n hZ.1 dX9_scanAll_15 rfl ?_
  refine s_iconst dX9_scanAll_16 (by decide +kernel) ?_
  refine yp9_8 hZ.1 dX9_scanAll_17 zw592 ?_
  refine s_iconst dX9_scanAll_20 (by decide +kernel) ?_
  refine s_istore_n hZ.1 dX9_scanAll_21 rfl (Nat.le_of_ble_eq_true rfl) ?_
  refine s_iconst dX9_scanAll_22 (by decide +kernel) ?_
  refine s_istore hZ.1 dX9_scanAll_23 (Nat.le_of_ble_eq_true rfl) ?_
  exact (wX9_scanAll_25 hZ j hj)
noncomputable def vhX9_scanAll (j : Nat → rx_K) : List rx_K := [vX9_scanAll_25 j]
theorem vlX9_scanAll (hZ : zO b e D A X) : ∀ n k pc, [25][k]? = some pc → rx_OK (zV b e D A X) mX9_scanAll 3 pc (rx_J (vhX9_scanAll) n k) := rx_loop fun j hj k pc h => by
  match k, h with
  | 0, h =>
    have e9 := Option.some.inj (show some 25 = some pc from h)
    subst e9
    exact wX9_scanAll_25 hZ j hj
  | _ + 1, h => exact absurd h (by simp)
noncomputable def FX9_scanAll : List Nat → rx_H → Option (Nat × rx_H) := rx_ent 5 (vX9_scanAll_0 (rx_J (vhX9_scanAll) 4000000000))
theorem Met_X9_scanAll (hZ : zO b e D A X) : rx_Met (zV b e D A X) 3 yX9_scanAll mX9_scanAll (FX9_scanAll) := rx_entry hZ.1 (wX9_scanAll_0 hZ _ (vlX9_scanAll hZ 4000000000)) (by decide +kernel) rfl (fun h => by cases h)
abbrev mX9_read : rx_M := (RX9, cX9_read, 7, (some .boolean), false)
theorem vy_X9_read : rx_Y (zV b e D A X) yX9_read mX9_read 3 := ⟨zw1719, zw414, by decide, by decide +kernel, by decide +kernel, by decide +kernel⟩
noncomputable def vX9_read_182 (j : Nat → rx_K) : rx_K := o_ret1 rx_isZ
set_option maxRecDepth 20000 in
theorem wX9_read_182 (hZ : zO b e D A X) (j : Nat → rx_K) (hj : ∀ k pc, [36, 67][k]? = some pc → rx_OK (zV b e D A X) mX9_read 406 pc (j k)) : rx_OK (zV b e D A X) mX9_read 406 182 (vX9_read_182 j) := by
  unfold vX9_read_182
  exact s_zret rx_z_ok rfl dX9_read_182
noncomputable def vX9_read_181 (j : Nat → rx_K) : rx_K := o_const 0 ((vX9_read_182 j))
set_option maxRecDepth 20000 in
theorem wX9_read_181 (hZ : zO b e D A X) (j : Nat → rx_K) (hj : ∀ k pc, [36, 67][k]? = some pc → rx_OK (zV b e D A X) mX9_read 406 pc (j k)) : rx_OK (zV b e D A X) mX9_read 406 181 (vX9_read_181 j) := by
  unfold vX9_read_181
  refine s_iconst dX9_read_181 (by decide +kernel) ?_
  exact (wX9_read_182 hZ j hj)
noncomputable def vX9_read_177 (j : Nat → rx_K) : rx_K := o_const 8 ((vX9_read_182 j))
set_option maxRecDepth 20000 in
theorem wX9_read_177 (hZ : zO b e D A X) (j : Nat → rx_K) (hj : ∀ k pc, [36, 67][k]? = some pc → rx_OK (zV b e D A X) mX9_read 406 pc (j k)) : rx_OK (zV b e D A X) mX9_read 406 177 (vX9_read_177 j) := by
  unfold vX9_read_177
  refine s_iconst dX9_read_177 (by decide +kernel) ?_
  exact s_goto dX9_read_178 (by decide) (wX9_read_182 hZ j hj)
noncomputable def vX9_read_170 (j : Nat → rx_K) : rx_K := o_ld rx_isR 0 (o_getf 9 9 (o_c1 rx_eq (vX9_read_177 j) (vX9_read_181 j)))
set_option maxRecDepth 20000 in
theorem wX9_read_170 (hZ : zO b e D A X) (j : Nat → rx_K) (hj : ∀ k pc, [36, 67][k]? = some pc → rx_OK (zV b e D A X) mX9_read 406 pc (j k)) : rx_OK (zV b e D A X) mX9_read 406 170 (vX9_read_170 j) := by
  unfold vX9_read_170
  refine s_aload_n hZ.1 dX9_read_170 rfl ?_
  refine yg9_9 dX9_read_171 zw593 ?_
  exact s_if_ne dX9_read_174 (by decide) (wX9_read_181 hZ j hj) (wX9_read_177 hZ j hj)
noncomputable def vX9_read_164 (j : Nat → rx_K) : rx_K := o_inc 4 (1) ((j 0))
set_option maxRecDepth 20000 in
theorem wX9_read_164 (hZ : zO b e D A X) (j : Nat → rx_K) (hj : ∀ k pc, [36, 67][k]? = some pc → rx_OK (zV b e D A X) mX9_read 406 pc (j k)) : rx_OK (zV b e D A X) mX9_read 406 164 (vX9_read_164 j) := by
  unfold vX9_read_164
  refine s_iinc hZ.1 dX9_read_164 (Nat.le_of_ble_eq_true rfl) ?_
  exact s_goto dX9_read_167 (by decide) (hj 0 36 rfl)
noncomputable def vX9_read_156 (j : Nat → rx_K) : rx_K := o_ld rx_isR 0 (o_const 1800 (o_callV 1 9 FX9_need (o_pop ((vX9_read_164 j)))))
set_option maxRecDepth 20000 in
theorem wX9_read_156 (hZ : zO b e D A X) (j : Nat → rx_K) (hj : ∀ k pc, [36, 67][k]? = some pc → rx_OK (zV b e D A X) mX9_read 406 pc (j k)) : rx_OK (zV b e D A X) mX9_read 406 156 (vX9_read_156 j) := by
  unfold vX9_read_156
  refine s_aload_n hZ.1 dX9_read_156 rfl ?_
  refine s_sipush dX9_read_157 (by decide +kernel) ?_
  refine s_callV hZ.1 (Met_X9_need hZ) (Nat.le_of_ble_eq_true rfl) vy_X9_need zcl9 zw1779 zw19 (Or.inl zw1777) dX9_read_160 ?_
  refine s_pop hZ.1 dX9_read_163 ?_
  exact (wX9_read_164 hZ j hj)
noncomputable def vX9_read_149 (j : Nat → rx_K) : rx_K := o_ld rx_isR 0 (o_getf 9 9 (o_c1 rx_eq (vX9_read_156 j) (vX9_read_164 j)))
set_option maxRecDepth 20000 in
theorem wX9_read_149 (hZ : zO b e D A X) (j : Nat → rx_K) (hj : ∀ k pc, [36, 67][k]? = some pc → rx_OK (zV b e D A X) mX9_read 406 pc (j k)) : rx_OK (zV b e D A X) mX9_read 406 149 (vX9_read_149 j) := by
  unfold vX9_read_149
  refine s_aload_n hZ.1 dX9_read_149 rfl ?_
  refine yg9_9 dX9_read_150 zw593 ?_
  exact s_if_ne dX9_read_153 (by decide) (wX9_read_164 hZ j hj) (wX9_read_156 hZ j hj)
noncomputable def vX9_read_143 (j : Nat → rx_K) : rx_K := o_inc 6 (1) ((j 1))
set_option maxRecDepth 20000 in
theorem wX9_read_143 (hZ : zO b e D A X) (j : Nat → rx_K) (hj : ∀ k pc, [36, 67][k]? = some pc → rx_OK (zV b e D A X) mX9_read 406 pc (j k)) : rx_OK (zV b e D A X) mX9_read 406 143 (vX9_read_143 j) := by
  unfold vX9_read_143
  refine s_iinc hZ.1 dX9_read_143 (Nat.le_of_ble_eq_true rfl) ?_
  exact s_goto dX9_read_146 (by decide) (hj 1 67 rfl)
noncomputable def vX9_read_125 (j : Nat → rx_K) : rx_K := o_ld rx_isR 0 (o_ld rx_isR 5 (o_getf 10 12 (o_ld rx_isR 5 (o_getf 10 13 (o_const 8 (o_bi (fun x y => x - y) (o_ald 5 (o_callV 1 9 FX9_readBody (o_pop ((vX9_read_143 j)))))))))))
set_option maxRecDepth 20000 in
theorem wX9_read_125 (hZ : zO b e D A X) (j : Nat → rx_K) (hj : ∀ k pc, [36, 67][k]? = some pc → rx_OK (zV b e D A X) mX9_read 406 pc (j k)) : rx_OK (zV b e D A X) mX9_read 406 125 (vX9_read_125 j) := by
  unfold vX9_read_125
  refine s_aload_n hZ.1 dX9_read_125 rfl ?_
  refine s_aload hZ.1 dX9_read_126 ?_
  refine yg10_12 dX9_read_128 zw848 ?_
  refine s_aload hZ.1 dX9_read_131 ?_
  refine yg10_13 dX9_read_133 zw854 ?_
  refine s_iconst dX9_read_136 (by decide +kernel) ?_
  refine s_isub dX9_read_137 ?_
  refine s_aald (tt := 5) rfl rfl dX9_read_138 ?_
  refine s_callV hZ.1 (Met_X9_readBody hZ) (Nat.le_of_ble_eq_true rfl) vy_X9_readBody zcl9 zw1803 zw23 (Or.inl zw1801) dX9_read_139 ?_
  refine s_pop hZ.1 dX9_read_142 ?_
  exact (wX9_read_143 hZ j hj)
noncomputable def vX9_read_117 (j : Nat → rx_K) : rx_K := o_ld rx_isR 5 (o_getf 10 13 (o_c1 (fun h x y => rx_lt h y x) (vX9_read_125 j) (vX9_read_143 j)))
set_option maxRecDepth 20000 in
theorem wX9_read_117 (hZ : zO b e D A X) (j : Nat → rx_K) (hj : ∀ k pc, [36, 67][k]? = some pc → rx_OK (zV b e D A X) mX9_read 406 pc (j k)) : rx_OK (zV b e D A X) mX9_read 406 117 (vX9_read_117 j) := by
  unfold vX9_read_117
  refine s_aload hZ.1 dX9_read_117 ?_
  refine yg10_13 dX9_read_119 zw854 ?_
  exact s_if_le dX9_read_122 (by decide) (wX9_read_143 hZ j hj) (wX9_read_125 hZ j hj)
noncomputable def vX9_read_110 (j : Nat → rx_K) : rx_K := o_ld rx_isR 0 (o_getf 9 12 (o_c1 rx_eq (vX9_read_143 j) (vX9_read_117 j)))
set_option maxRecDepth 20000 in
theorem wX9_read_110 (hZ : zO b e D A X) (j : Nat → rx_K) (hj : ∀ k pc, [36, 67][k]? = some pc → rx_OK (zV b e D A X) mX9_read 406 pc (j k)) : rx_OK (zV b e D A X) mX9_read 406 110 (vX9_read_110 j) := by
  unfold vX9_read_110
  refine s_aload_n hZ.1 dX9_read_110 rfl ?_
  refine yg9_12 dX9_read_111 zw598 ?_
  exact s_if_eq dX9_read_114 (by decide) (wX9_read_143 hZ j hj) (wX9_read_117 hZ j hj)
noncomputable def vX9_read_96 (j : Nat → rx_K) : rx_K := o_ld rx_isR 0 (o_ld rx_isR 5 (o_callV 1 9 FX9_readMember (o_pop (o_ld rx_isR 0 (o_getf 9 9 (o_c1 rx_eq (vX9_read_110 j) (vX9_read_143 j)))))))
set_option maxRecDepth 20000 in
theorem wX9_read_96 (hZ : zO b e D A X) (j : Nat → rx_K) (hj : ∀ k pc, [36, 67][k]? = some pc → rx_OK (zV b e D A X) mX9_read 406 pc (j k)) : rx_OK (zV b e D A X) mX9_read 406 96 (vX9_read_96 j) := by
  unfold vX9_read_96
  refine s_aload_n hZ.1 dX9_read_96 rfl ?_
  refine s_aload hZ.1 dX9_read_97 ?_
  refine s_callV hZ.1 (Met_X9_readMember hZ) (Nat.le_of_ble_eq_true rfl) vy_X9_readMember zcl9 zw1783 zw20 (Or.inl zw1781) dX9_read_99 ?_
  refine s_pop hZ.1 dX9_read_102 ?_
  refine s_aload_n hZ.1 dX9_read_103 rfl ?_
  refine yg9_9 dX9_read_104 zw593 ?_
  exact s_if_ne dX9_read_107 (by decide) (wX9_read_143 hZ j hj) (wX9_read_110 hZ j hj)
noncomputable def vX9_read_89 (j : Nat → rx_K) : rx_K := o_ld rx_isR 0 (o_getf 9 9 (o_c1 rx_eq (vX9_read_96 j) (vX9_read_149 j)))
set_option maxRecDepth 20000 in
theorem wX9_read_89 (hZ : zO b e D A X) (j : Nat → rx_K) (hj : ∀ k pc, [36, 67][k]? = some pc → rx_OK (zV b e D A X) mX9_read 406 pc (j k)) : rx_OK (zV b e D A X) mX9_read 406 89 (vX9_read_89 j) := by
  unfold vX9_read_89
  refine s_aload_n hZ.1 dX9_read_89 rfl ?_
  refine yg9_9 dX9_read_90 zw593 ?_
  exact s_if_ne dX9_read_93 (by decide) (wX9_read_149 hZ j hj) (wX9_read_96 hZ j hj)
noncomputable def vX9_read_79 (j : Nat → rx_K) : rx_K := o_ld rx_isR 0 (o_callV 0 9 FX9_now (o_const 1800 (o_c2 rx_eq (vX9_read_149 j) (vX9_read_89 j))))
set_option maxRecDepth 20000 in
theorem wX9_read_79 (hZ : zO b e D A X) (j : Nat → rx_K) (hj : ∀ k pc, [36, 67][k]? = some pc → rx_OK (zV b e D A X) mX9_read 406 pc (j k)) : rx_OK (zV b e D A X) mX9_read 406 79 (vX9_read_79 j) := by
  unfold vX9_read_79
  refine s_aload_n hZ.1 dX9_read_79 rfl ?_
  refine s_callV hZ.1 (Met_X9_now hZ) (Nat.le_of_ble_eq_true rfl) vy_X9_now zcl9 zw1746 zw12 (Or.inl zw1744) dX9_read_80 ?_
  refine s_sipush dX9_read_83 (by decide +kernel) ?_
  exact s_icmp_eq dX9_read_86 (by decide) (wX9_read_149 hZ j hj) (wX9_read_89 hZ j hj)
noncomputable def vX9_read_72 (j : Nat → rx_K) : rx_K := o_ld rx_isI 6 (o_const 160 (o_c2 (fun h x y => rx_lt h y x) (vX9_read_149 j) (vX9_read_79 j)))
set_option maxRecDepth 20000 in
theorem wX9_read_72 (hZ : zO b e D A X) (j : Nat → rx_K) (hj : ∀ k pc, [36, 67][k]? = some pc → rx_OK (zV b e D A X) mX9_read 406 pc (j k)) : rx_OK (zV b e D A X) mX9_read 406 72 (vX9_read_72 j) := by
  unfold vX9_read_72
  refine s_iload hZ.1 dX9_read_72 ?_
  refine s_bipush dX9_read_74 (by decide +kernel) ?_
  exact s_icmp_gt dX9_read_76 (by decide) (wX9_read_149 hZ j hj) (wX9_read_79 hZ j hj)
noncomputable def vX9_read_67 (j : Nat → rx_K) : rx_K := o_ld rx_isR 5 (o_nul (vX9_read_149 j) (vX9_read_72 j))
set_option maxRecDepth 20000 in
theorem wX9_read_67 (hZ : zO b e D A X) (j : Nat → rx_K) (hj : ∀ k pc, [36, 67][k]? = some pc → rx_OK (zV b e D A X) mX9_read 406 pc (j k)) : rx_OK (zV b e D A X) mX9_read 406 67 (vX9_read_67 j) := by
  unfold vX9_read_67
  refine s_aload hZ.1 dX9_read_67 ?_
  exact s_ifnull dX9_read_69 (by decide) (wX9_read_149 hZ j hj) (wX9_read_72 hZ j hj)
noncomputable def vX9_read_58 (j : Nat → rx_K) : rx_K := o_ld rx_isR 0 (o_callV 0 9 FX9_readHead (o_st rx_isR 5 (o_const 0 (o_st rx_isI 6 ((vX9_read_67 j))))))
set_option maxRecDepth 20000 in
theorem wX9_read_58 (hZ : zO b e D A X) (j : Nat → rx_K) (hj : ∀ k pc, [36, 67][k]? = some pc → rx_OK (zV b e D A X) mX9_read 406 pc (j k)) : rx_OK (zV b e D A X) mX9_read 406 58 (vX9_read_58 j) := by
  unfold vX9_read_58
  refine s_aload_n hZ.1 dX9_read_58 rfl ?_
  refine s_callV hZ.1 (Met_X9_readHead hZ) (Nat.le_of_ble_eq_true rfl) vy_X9_readHead zcl9 zw1750 zw13 (Or.inl zw1748) dX9_read_59 ?_
  refine s_astore hZ.1 dX9_read_62 (Nat.le_of_ble_eq_true rfl) ?_
  refine s_iconst dX9_read_64 (by decide +kernel) ?_
  refine s_istore hZ.1 dX9_read_65 (Nat.le_of_ble_eq_true rfl) ?_
  exact (wX9_read_67 hZ j hj)
noncomputable def vX9_read_51 (j : Nat → rx_K) : rx_K := o_ld rx_isR 0 (o_callV 0 9 FX9_now (o_c1 rx_eq (vX9_read_170 j) (vX9_read_58 j)))
set_option maxRecDepth 20000 in
theorem wX9_read_51 (hZ : zO b e D A X) (j : Nat → rx_K) (hj : ∀ k pc, [36, 67][k]? = some pc → rx_OK (zV b e D A X) mX9_read 406 pc (j k)) : rx_OK (zV b e D A X) mX9_read 406 51 (vX9_read_51 j) := by
  unfold vX9_read_51
  refine s_aload_n hZ.1 dX9_read_51 rfl ?_
  refine s_callV hZ.1 (Met_X9_now hZ) (Nat.le_of_ble_eq_true rfl) vy_X9_now zcl9 zw1746 zw12 (Or.inl zw1744) dX9_read_52 ?_
  exact s_if_eq dX9_read_55 (by decide) (wX9_read_170 hZ j hj) (wX9_read_58 hZ j hj)
noncomputable def vX9_read_44 (j : Nat → rx_K) : rx_K := o_ld rx_isR 0 (o_getf 9 9 (o_c1 rx_eq (vX9_read_51 j) (vX9_read_170 j)))
set_option maxRecDepth 20000 in
theorem wX9_read_44 (hZ : zO b e D A X) (j : Nat → rx_K) (hj : ∀ k pc, [36, 67][k]? = some pc → rx_OK (zV b e D A X) mX9_read 406 pc (j k)) : rx_OK (zV b e D A X) mX9_read 406 44 (vX9_read_44 j) := by
  unfold vX9_read_44
  refine s_aload_n hZ.1 dX9_read_44 rfl ?_
  refine yg9_9 dX9_read_45 zw593 ?_
  exact s_if_ne dX9_read_48 (by decide) (wX9_read_170 hZ j hj) (wX9_read_51 hZ j hj)
noncomputable def vX9_read_36 (j : Nat → rx_K) : rx_K := o_ld rx_isI 4 (o_const 5600 (o_c2 (fun h x y => rx_lt h y x) (vX9_read_170 j) (vX9_read_44 j)))
set_option maxRecDepth 20000 in
theorem wX9_read_36 (hZ : zO b e D A X) (j : Nat → rx_K) (hj : ∀ k pc, [36, 67][k]? = some pc → rx_OK (zV b e D A X) mX9_read 406 pc (j k)) : rx_OK (zV b e D A X) mX9_read 406 36 (vX9_read_36 j) := by
  unfold vX9_read_36
  refine s_iload hZ.1 dX9_read_36 ?_
  refine s_sipush dX9_read_38 (by decide +kernel) ?_
  exact s_icmp_gt dX9_read_41 (by decide) (wX9_read_170 hZ j hj) (wX9_read_44 hZ j hj)
noncomputable def vX9_read_0 (j : Nat → rx_K) : rx_K := o_ld rx_isR 0 (o_ld rx_isR 1 (o_putf rx_isR 9 11 (o_ld rx_isR 0 (o_getf 9 11 (o_callV 0 1 FX1_clear (o_ld rx_isR 0 (o_const 0 (o_putf rx_isI 9 9 (o_ld rx_isR 0 (o_const 0 (o_putf rx_isI 9 10 (o_ld rx_isR 0 (o_const 0 (o_putf rx_isI 9 14 (o_ld rx_isR 0 (o_ld rx_isR 2 (o_ld rx_isI 3 (o_callV 2 9 FX9_scanAll (o_const 0 (o_st rx_isI 4 ((vX9_read_36 j))))))))))))))))))))))
set_option maxRecDepth 20000 in
theorem wX9_read_0 (hZ : zO b e D A X) (j : Nat → rx_K) (hj : ∀ k pc, [36, 67][k]? = some pc → rx_OK (zV b e D A X) mX9_read 406 pc (j k)) : rx_OK (zV b e D A X) mX9_read 406 0 (vX9_read_0 j) := by
  unfold vX9_read_0
  refine s_aload_n hZ.1 dX9_read_0 rfl ?_
  refine s_aload_n hZ.1 dX9_read_1 rfl ?_
  refine yp9_11 hZ.1 dX9_read_2 zw597 ?_
  refine s_aload_n hZ.1 dX9_read_5 rfl ?_
  refine yg9_11 dX9_read_6 zw597 ?_
  refine s_callV hZ.1 (Met_X1_clear hZ) (Nat.le_of_ble_eq_true rfl) vy_X1_clear zcl1 zw1721 zw1722 (Or.inl zw1720) dX9_read_9 ?_
  refine s_aload_n hZ.1 dX9_read_12 rfl ?_
  refine s_iconst dX9_read_13 (by decide +kernel) ?_
  refine yp9_9 hZ.1 dX9_read_14 zw593 ?_
  refine s_aload_n hZ.1 dX9_read_17 rfl ?_
  refine s_iconst dX9_read_18 (by decide +kernel) ?_
  refine yp9_10 hZ.1 dX9_read_19 zw595 ?_
  refine s_aload_n hZ.1 dX9_read_22 rfl ?_
  refine s_iconst dX9_read_23 (by decide +kernel) ?_
  refine yp9_14 hZ.1 dX9_read_24 zw600 ?_
  refine s_aload_n hZ.1 dX9_read_27 rfl ?_
  refine s_aload_n hZ.1 dX9_read_28 rfl ?_
  refine s_iload_n hZ.1 dX9_read_29 rfl ?_
  refine s_callV hZ.1 (Met_X9_scanAll hZ) (Nat.le_of_ble_eq_true rfl) vy_X9_scanAll zcl9 zw1726 zw8 (Or.inl zw1724) dX9_read_30 ?_
  refine s_iconst dX9_read_33 (by decide +kernel) ?_
  refine s_istore hZ.1 dX9_read_34 (Nat.le_of_ble_eq_true rfl) ?_
  exact (wX9_read_36 hZ j hj)
noncomputable def vhX9_read (j : Nat → rx_K) : List rx_K := [vX9_read_36 j, vX9_read_67 j]
theorem vlX9_read (hZ : zO b e D A X) : ∀ n k pc, [36, 67][k]? = some pc → rx_OK (zV b e D A X) mX9_read 406 pc (rx_J (vhX9_read) n k) := rx_loop fun j hj k pc h => by
  match k, h with
  | 0, h =>
    have e9 := Option.some.inj (show some 36 = some pc from h)
    subst e9
    exact wX9_read_36 hZ j hj
  | 1, h =>
    have e9 := Option.some.inj (show some 67 = some pc from h)
    subst e9
    exact wX9_read_67 hZ j hj
  | _ + 2, h => exact absurd h (by simp)
noncomputable def FX9_read : List Nat → rx_H → Option (Nat × rx_H) := rx_ent 7 (vX9_read_0 (rx_J (vhX9_read) 4000000000))
theorem Met_X9_read (hZ : zO b e D A X) : rx_Met (zV b e D A X) 406 yX9_read mX9_read (FX9_read) := rx_entry hZ.1 (wX9_read_0 hZ _ (vlX9_read hZ 4000000000)) (by decide +kernel) rfl (fun h => by cases h)
abbrev mX9_isCall : rx_M := (RX9, cX9_isCall, 3, (some .boolean), false)
theorem vy_X9_isCall : rx_Y (zV b e D A X) yX9_isCall mX9_isCall 2 := ⟨zw2736, zw414, by decide, by decide +kernel, by decide +kernel, by decide +kernel⟩
noncomputable def vX9_isCall_100 : rx_K := o_ret1 rx_isZ
set_option maxRecDepth 20000 in
theorem wX9_isCall_100 (hZ : zO b e D A X) : rx_OK (zV b e D A X) mX9_isCall 4 100 vX9_isCall_100 := by
  unfold vX9_isCall_100
  exact s_zret rx_z_ok rfl dX9_isCall_100
noncomputable def vX9_isCall_99 : rx_K := o_const 0 (vX9_isCall_100)
set_option maxRecDepth 20000 in
theorem wX9_isCall_99 (hZ : zO b e D A X) : rx_OK (zV b e D A X) mX9_isCall 4 99 vX9_isCall_99 := by
  unfold vX9_isCall_99
  refine s_iconst dX9_isCall_99 (by decide +kernel) ?_
  exact (wX9_isCall_100 hZ)
noncomputable def vX9_isCall_95 : rx_K := o_const 8 (vX9_isCall_100)
set_option maxRecDepth 20000 in
theorem wX9_isCall_95 (hZ : zO b e D A X) : rx_OK (zV b e D A X) mX9_isCall 4 95 vX9_isCall_95 := by
  unfold vX9_isCall_95
  refine s_iconst dX9_isCall_95 (by decide +kernel) ?_
  exact s_goto dX9_isCall_96 (by decide) (wX9_isCall_100 hZ)
noncomputable def vX9_isCall_85 : rx_K := o_ld rx_isR 0 (o_getf 9 3 (o_const 16 (o_ald 0 (o_ld rx_isI 2 (o_c2 rx_eq vX9_isCall_95 vX9_isCall_99)))))
set_option maxRecDepth 20000 in
theorem wX9_isCall_85 (hZ : zO b e D A X) : rx_OK (zV b e D A X) mX9_isCall 4 85 vX9_isCall_85 := by
  unfold vX9_isCall_85
  refine s_aload_n hZ.1 dX9_isCall_85 rfl ?_
  refine yg9_3 dX9_isCall_86 zw585 ?_
  refine s_iconst dX9_isCall_89 (by decide +kernel) ?_
  refine s_iald (tt := 0) rfl dX9_isCall_90 ?_
  refine s_iload_n hZ.1 dX9_isCall_91 rfl ?_
  exact s_icmp_ne dX9_isCall_92 (by decide) (wX9_isCall_99 hZ) (wX9_isCall_95 hZ)
noncomputable def vX9_isCall_70 : rx_K := o_ld rx_isR 0 (o_getf 9 2 (o_const 16 (o_ald 0 (o_ld rx_isR 0 (o_getf 9 3 (o_const 8 (o_ald 0 (o_c2 rx_eq vX9_isCall_85 vX9_isCall_99))))))))
set_option maxRecDepth 20000 in
theorem wX9_isCall_70 (hZ : zO b e D A X) : rx_OK (zV b e D A X) mX9_isCall 4 70 vX9_isCall_70 := by
  unfold vX9_isCall_70
  refine s_aload_n hZ.1 dX9_isCall_70 rfl ?_
  refine yg9_2 dX9_isCall_71 zw583 ?_
  refine s_iconst dX9_isCall_74 (by decide +kernel) ?_
  refine s_iald (tt := 0) rfl dX9_isCall_75 ?_
  refine s_aload_n hZ.1 dX9_isCall_76 rfl ?_
  refine yg9_3 dX9_isCall_77 zw585 ?_
  refine s_iconst dX9_isCall_80 (by decide +kernel) ?_
  refine s_iald (tt := 0) rfl dX9_isCall_81 ?_
  exact s_icmp_ne dX9_isCall_82 (by decide) (wX9_isCall_99 hZ) (wX9_isCall_85 hZ)
noncomputable def vX9_isCall_55 : rx_K := o_ld rx_isR 0 (o_getf 9 2 (o_const 8 (o_ald 0 (o_ld rx_isR 0 (o_getf 9 3 (o_const 0 (o_ald 0 (o_c2 rx_eq vX9_isCall_70 vX9_isCall_99))))))))
set_option maxRecDepth 20000 in
theorem wX9_isCall_55 (hZ : zO b e D A X) : rx_OK (zV b e D A X) mX9_isCall 4 55 vX9_isCall_55 := by
  unfold vX9_isCall_55
  refine s_aload_n hZ.1 dX9_isCall_55 rfl ?_
  refine yg9_2 dX9_isCall_56 zw583 ?_
  refine s_iconst dX9_isCall_59 (by decide +kernel) ?_
  refine s_iald (tt := 0) rfl dX9_isCall_60 ?_
  refine s_aload_n hZ.1 dX9_isCall_61 rfl ?_
  refine yg9_3 dX9_isCall_62 zw585 ?_
  refine s_iconst dX9_isCall_65 (by decide +kernel) ?_
  refine s_iald (tt := 0) rfl dX9_isCall_66 ?_
  exact s_icmp_ne dX9_isCall_67 (by decide) (wX9_isCall_99 hZ) (wX9_isCall_70 hZ)
noncomputable def vX9_isCall_46 : rx_K := o_ld rx_isR 0 (o_getf 9 2 (o_const 0 (o_ald 0 (o_c1 rx_eq vX9_isCall_55 vX9_isCall_99))))
set_option maxRecDepth 20000 in
theorem wX9_isCall_46 (hZ : zO b e D A X) : rx_OK (zV b e D A X) mX9_isCall 4 46 vX9_isCall_46 := by
  unfold vX9_isCall_46
  refine s_aload_n hZ.1 dX9_isCall_46 rfl ?_
  refine yg9_2 dX9_isCall_47 zw583 ?_
  refine s_iconst dX9_isCall_50 (by decide +kernel) ?_
  refine s_iald (tt := 0) rfl dX9_isCall_51 ?_
  exact s_if_ne dX9_isCall_52 (by decide) (wX9_isCall_99 hZ) (wX9_isCall_55 hZ)
noncomputable def vX9_isCall_36 : rx_K := o_ld rx_isR 0 (o_getf 9 1 (o_const 16 (o_ald 0 (o_const 24 (o_c2 rx_eq vX9_isCall_46 vX9_isCall_99)))))
set_option maxRecDepth 20000 in
theorem wX9_isCall_36 (hZ : zO b e D A X) : rx_OK (zV b e D A X) mX9_isCall 4 36 vX9_isCall_36 := by
  unfold vX9_isCall_36
  refine s_aload_n hZ.1 dX9_isCall_36 rfl ?_
  refine yg9_1 dX9_isCall_37 zw582 ?_
  refine s_iconst dX9_isCall_40 (by decide +kernel) ?_
  refine s_iald (tt := 0) rfl dX9_isCall_41 ?_
  refine s_iconst dX9_isCall_42 (by decide +kernel) ?_
  exact s_icmp_ne dX9_isCall_43 (by decide) (wX9_isCall_99 hZ) (wX9_isCall_46 hZ)
noncomputable def vX9_isCall_24 : rx_K := o_ld rx_isR 0 (o_getf 9 1 (o_const 8 (o_ald 0 (o_const 1168 (o_c2 rx_eq vX9_isCall_36 vX9_isCall_99)))))
set_option maxRecDepth 20000 in
theorem wX9_isCall_24 (hZ : zO b e D A X) : rx_OK (zV b e D A X) mX9_isCall 4 24 vX9_isCall_24 := by
  unfold vX9_isCall_24
  refine s_aload_n hZ.1 dX9_isCall_24 rfl ?_
  refine yg9_1 dX9_isCall_25 zw582 ?_
  refine s_iconst dX9_isCall_28 (by decide +kernel) ?_
  refine s_iald (tt := 0) rfl dX9_isCall_29 ?_
  refine s_sipush dX9_isCall_30 (by decide +kernel) ?_
  exact s_icmp_ne dX9_isCall_33 (by decide) (wX9_isCall_99 hZ) (wX9_isCall_36 hZ)
noncomputable def vX9_isCall_14 : rx_K := o_ld rx_isR 0 (o_getf 9 1 (o_const 0 (o_ald 0 (o_const 16 (o_c2 rx_eq vX9_isCall_24 vX9_isCall_99)))))
set_option maxRecDepth 20000 in
theorem wX9_isCall_14 (hZ : zO b e D A X) : rx_OK (zV b e D A X) mX9_isCall 4 14 vX9_isCall_14 := by
  unfold vX9_isCall_14
  refine s_aload_n hZ.1 dX9_isCall_14 rfl ?_
  refine yg9_1 dX9_isCall_15 zw582 ?_
  refine s_iconst dX9_isCall_18 (by decide +kernel) ?_
  refine s_iald (tt := 0) rfl dX9_isCall_19 ?_
  refine s_iconst dX9_isCall_20 (by decide +kernel) ?_
  exact s_icmp_ne dX9_isCall_21 (by decide) (wX9_isCall_99 hZ) (wX9_isCall_24 hZ)
noncomputable def vX9_isCall_0 : rx_K := o_ld rx_isR 0 (o_ld rx_isR 1 (o_ld rx_isI 2 (o_callV 2 9 FX9_scanAll (o_ld rx_isR 0 (o_getf 9 5 (o_const 24 (o_c2 rx_eq vX9_isCall_14 vX9_isCall_99)))))))
set_option maxRecDepth 20000 in
theorem wX9_isCall_0 (hZ : zO b e D A X) : rx_OK (zV b e D A X) mX9_isCall 4 0 vX9_isCall_0 := by
  unfold vX9_isCall_0
  refine s_aload_n hZ.1 dX9_isCall_0 rfl ?_
  refine s_aload_n hZ.1 dX9_isCall_1 rfl ?_
  refine s_iload_n hZ.1 dX9_isCall_2 rfl ?_
  refine s_callV hZ.1 (Met_X9_scanAll hZ) (Nat.le_of_ble_eq_true rfl) vy_X9_scanAll zcl9 zw1726 zw8 (Or.inl zw1724) dX9_isCall_3 ?_
  refine s_aload_n hZ.1 dX9_isCall_6 rfl ?_
  refine yg9_5 dX9_isCall_7 zw589 ?_
  refine s_iconst dX9_isCall_10 (by decide +kernel) ?_
  exact s_icmp_ne dX9_isCall_11 (by decide) (wX9_isCall_99 hZ) (wX9_isCall_14 hZ)
noncomputable def FX9_isCall : List Nat → rx_H → Option (Nat × rx_H) := rx_ent 3 vX9_isCall_0
theorem Met_X9_isCall (hZ : zO b e D A X) : rx_Met (zV b e D A X) 4 yX9_isCall mX9_isCall (FX9_isCall) := rx_entry hZ.1 (wX9_isCall_0 hZ) (by decide +kernel) rfl (fun h => by cases h)
abbrev mX9_keep : rx_M := (RX9, cX9_keep, 1, none, false)
theorem vy_X9_keep : rx_Y (zV b e D A X) yX9_keep mX9_keep 0 := ⟨zw2333, zw414, by decide, by decide +kernel, by decide +kernel, by decide +kernel⟩
noncomputable def vX9_keep_98 : rx_K := o_mm z_min (o_copy 0 rx_isI (o_ret0))
set_option maxRecDepth 20000 in
theorem wX9_keep_98 (hZ : zO b e D A X) : rx_OK (zV b e D A X) mX9_keep 1 98 vX9_keep_98 := by
  unfold vX9_keep_98
  refine s_mmin hZ.1 (Nat.le_of_ble_eq_true rfl) zw2334 zw1688 zw432 zmath_min dX9_keep_98 ?_
  refine s_copy hZ.1 (tt := 0) (ty := .int) rfl rfl (fun c h => Or.inl (rx_isI_v hZ.1 h).2) rfl (by decide) zw2335 zw1692 zw1691 zw433 dX9_keep_101 ?_
  exact s_vret rfl dX9_keep_104
noncomputable def vX9_keep_48 : rx_K := o_getf 9 11 (o_getf 1 8 (o_const 0 (o_ld rx_isR 0 (o_getf 9 5 (o_ld rx_isR 0 (o_getf 9 11 (o_getf 1 8 (o_alen 0 (o_mm z_min (o_copy 0 rx_isI (o_ld rx_isR 0 (o_getf 9 3 (o_const 0 (o_ld rx_isR 0 (o_getf 9 11 (o_getf 1 9 (o_const 0 (o_ld rx_isR 0 (o_getf 9 5 (o_ld rx_isR 0 (o_getf 9 11 (o_getf 1 9 (o_alen 0 (vX9_keep_98))))))))))))))))))))))))
set_option maxRecDepth 20000 in
theorem wX9_keep_48 (hZ : zO b e D A X) : rx_OK (zV b e D A X) mX9_keep 1 48 vX9_keep_48 := by
  unfold vX9_keep_48
  refine yg9_11 dX9_keep_48 zw597 ?_
  refine yg1_8 dX9_keep_51 zw1137 ?_
  refine s_iconst dX9_keep_54 (by decide +kernel) ?_
  refine s_aload_n hZ.1 dX9_keep_55 rfl ?_
  refine yg9_5 dX9_keep_56 zw589 ?_
  refine s_aload_n hZ.1 dX9_keep_59 rfl ?_
  refine yg9_11 dX9_keep_60 zw597 ?_
  refine yg1_8 dX9_keep_63 zw1137 ?_
  refine s_alen (tt := 0) rfl dX9_keep_66 ?_
  refine s_mmin hZ.1 (Nat.le_of_ble_eq_true rfl) zw2334 zw1688 zw432 zmath_min dX9_keep_67 ?_
  refine s_copy hZ.1 (tt := 0) (ty := .int) rfl rfl (fun c h => Or.inl (rx_isI_v hZ.1 h).2) rfl (by decide) zw2335 zw1692 zw1691 zw433 dX9_keep_70 ?_
  refine s_aload_n hZ.1 dX9_keep_73 rfl ?_
  refine yg9_3 dX9_keep_74 zw585 ?_
  refine s_iconst dX9_keep_77 (by decide +kernel) ?_
  refine s_aload_n hZ.1 dX9_keep_78 rfl ?_
  refine yg9_11 dX9_keep_79 zw597 ?_
  refine yg1_9 dX9_keep_82 zw1141 ?_
  refine s_iconst dX9_keep_85 (by decide +kernel) ?_
  refine s_aload_n hZ.1 dX9_keep_86 rfl ?_
  refine yg9_5 dX9_keep_87 zw589 ?_
  refine s_aload_n hZ.1 dX9_keep_90 rfl ?_
  refine yg9_11 dX9_keep_91 zw597 ?_
  refine yg1_9 dX9_keep_94 zw1141 ?_
  refine s_alen (tt := 0) rfl dX9_keep_97 ?_
  exact (wX9_keep_98 hZ)
noncomputable def vX9_keep_0 : rx_K := o_ld rx_isR 0 (o_getf 9 6 (o_const 0 (o_ld rx_isR 0 (o_getf 9 11 (o_getf 1 6 (o_const 0 (o_ld rx_isR 0 (o_getf 9 7 (o_ld rx_isR 0 (o_getf 9 11 (o_getf 1 6 (o_alen 2 (o_mm z_min (o_copy 2 (rx_chk .byte) (o_ld rx_isR 0 (o_getf 9 11 (o_ld rx_isR 0 (o_getf 9 7 (o_putf rx_isI 1 7 (o_ld rx_isR 0 (o_getf 9 2 (o_const 0 (o_ld rx_isR 0 (vX9_keep_48))))))))))))))))))))))))
set_option maxRecDepth 20000 in
theorem wX9_keep_0 (hZ : zO b e D A X) : rx_OK (zV b e D A X) mX9_keep 1 0 vX9_keep_0 := by
  unfold vX9_keep_0
  refine s_aload_n hZ.1 dX9_keep_0 rfl ?_
  refine yg9_6 dX9_keep_1 zw590 ?_
  refine s_iconst dX9_keep_4 (by decide +kernel) ?_
  refine s_aload_n hZ.1 dX9_keep_5 rfl ?_
  refine yg9_11 dX9_keep_6 zw597 ?_
  refine yg1_6 dX9_keep_9 zw1130 ?_
  refine s_iconst dX9_keep_12 (by decide +kernel) ?_
  refine s_aload_n hZ.1 dX9_keep_13 rfl ?_
  refine yg9_7 dX9_keep_14 zw591 ?_
  refine s_aload_n hZ.1 dX9_keep_17 rfl ?_
  refine yg9_11 dX9_keep_18 zw597 ?_
  refine yg1_6 dX9_keep_21 zw1130 ?_
  refine s_alen (tt := 2) rfl dX9_keep_24 ?_
  refine s_mmin hZ.1 (Nat.le_of_ble_eq_true rfl) zw2334 zw1688 zw432 zmath_min dX9_keep_25 ?_
  refine s_copy hZ.1 (tt := 2) (ty := .byte) rfl rfl (fun c h => Or.inl ⟨_, rx_v_0 (z_chkY8 h)⟩) rfl (by decide) zw2335 zw1692 zw1691 zw433 dX9_keep_28 ?_
  refine s_aload_n hZ.1 dX9_keep_31 rfl ?_
  refine yg9_11 dX9_keep_32 zw597 ?_
  refine s_aload_n hZ.1 dX9_keep_35 rfl ?_
  refine yg9_7 dX9_keep_36 zw591 ?_
  refine yp1_7 hZ.1 dX9_keep_39 zw1134 ?_
  refine s_aload_n hZ.1 dX9_keep_42 rfl ?_
  refine yg9_2 dX9_keep_43 zw583 ?_
  refine s_iconst dX9_keep_46 (by decide +kernel) ?_
  refine s_aload_n hZ.1 dX9_keep_47 rfl ?_
  exact (wX9_keep_48 hZ)
noncomputable def FX9_keep : List Nat → rx_H → Option (Nat × rx_H) := rx_ent 1 vX9_keep_0
theorem Met_X9_keep (hZ : zO b e D A X) : rx_Met (zV b e D A X) 1 yX9_keep mX9_keep (FX9_keep) := rx_entry hZ.1 (wX9_keep_0 hZ) (by decide +kernel) rfl (fun h => by cases h)
abbrev mX11_openMaker : rx_M := (RX11, cX11_openMaker, 1, (some (.object "LinkHouse$Member")), false)
theorem vy_X11_openMaker : rx_Y (zV b e D A X) yX11_openMaker mX11_openMaker 1 := ⟨zw1242, zw423, by decide, by decide +kernel, by decide +kernel, by decide +kernel⟩
noncomputable def vX11_openMaker_0 : rx_K := o_ld rx_isR 0 (o_const 16 (o_putf rx_isI 7 0 (o_ld rx_isR 0 (o_const 24 (o_putf rx_isI 7 1 (o_ld rx_isR 0 (o_ret1 rx_isR)))))))
set_option maxRecDepth 20000 in
theorem wX11_openMaker_0 (hZ : zO b e D A X) : rx_OK (zV b e D A X) mX11_openMaker 0 0 vX11_openMaker_0 := by
  unfold vX11_openMaker_0
  refine s_aload_n hZ.1 dX11_openMaker_0 rfl ?_
  refine s_iconst dX11_openMaker_1 (by decide +kernel) ?_
  refine yp7_0 hZ.1 dX11_openMaker_2 zw943 ?_
  refine s_aload_n hZ.1 dX11_openMaker_5 rfl ?_
  refine s_iconst dX11_openMaker_6 (by decide +kernel) ?_
  refine yp7_1 hZ.1 dX11_openMaker_7 zw953 ?_
  refine s_aload_n hZ.1 dX11_openMaker_10 rfl ?_
  exact s_aret hZ.1 rfl (Or.inl ⟨_, rfl⟩) dX11_openMaker_11
noncomputable def FX11_openMaker : List Nat → rx_H → Option (Nat × rx_H) := rx_ent 1 vX11_openMaker_0
theorem Met_X11_openMaker (hZ : zO b e D A X) : rx_Met (zV b e D A X) 0 yX11_openMaker mX11_openMaker (FX11_openMaker) := rx_entry hZ.1 (wX11_openMaker_0 hZ) (by decide +kernel) rfl (fun h => by cases h)
abbrev mX11_init : rx_M := (RX11, cX11_init, 4, none, true)
theorem vy_X11_init : rx_Y (zV b e D A X) yX11_init mX11_init 0 := ⟨zw747, zw423, by decide, by decide +kernel, by decide +kernel, by decide +kernel⟩
noncomputable def vX11_init_241 : rx_K := o_ld rx_isR 2 (o_ld rx_isR 0 (o_getf 11 0 (o_callV 0 1 FX1_newMember (o_callS 1 FX11_openMaker (o_callV 1 10 FX10_add (o_ret0))))))
set_option maxRecDepth 20000 in
theorem wX11_init_241 (hZ : zO b e D A X) : rx_OK (zV b e D A X) mX11_init 3 241 vX11_init_241 := by
  unfold vX11_init_241
  refine s_aload_n hZ.1 dX11_init_241 rfl ?_
  refine s_aload_n hZ.1 dX11_init_242 rfl ?_
  refine yg11_0 dX11_init_243 zw1250 ?_
  refine s_callV hZ.1 (Met_X1_newMember hZ) (Nat.le_of_ble_eq_true rfl) vy_X1_newMember zcl1 zw1228 zw1229 (Or.inl zw1227) dX11_init_246 ?_
  refine s_callS hZ.1 (Met_X11_openMaker hZ) (Nat.le_of_ble_eq_true rfl) vy_X11_openMaker zw1241 (Or.inl zw1240) dX11_init_249 ?_
  refine s_callV hZ.1 (Met_X10_add hZ) (Nat.le_of_ble_eq_true rfl) vy_X10_add zcl10 zw1244 zw1245 (Or.inl zw1243) dX11_init_252 ?_
  exact s_vret rfl dX11_init_255
noncomputable def vX11_init_195 : rx_K := o_const 8 (o_putf rx_isZ 10 3 (o_ld rx_isR 2 (o_const 8 (o_putf rx_isZ 10 7 (o_ld rx_isR 2 (o_const 8 (o_putf rx_isI 10 20 (o_ld rx_isR 0 (o_getf 11 0 (o_callV 0 1 FX1_newMember (o_st rx_isR 3 (o_ld rx_isR 3 (o_const 24 (o_putf rx_isI 7 1 (o_ld rx_isR 3 (o_const 322150859624415233 (o_putf rx_isL 7 7 (o_ld rx_isR 3 (o_const 147573952589676412921 (o_putf rx_isL 7 8 (o_ld rx_isR 2 (o_ld rx_isR 3 (o_callV 1 10 FX10_add (vX11_init_241))))))))))))))))))))))))
set_option maxRecDepth 20000 in
theorem wX11_init_195 (hZ : zO b e D A X) : rx_OK (zV b e D A X) mX11_init 3 195 vX11_init_195 := by
  unfold vX11_init_195
  refine s_iconst dX11_init_195 (by decide +kernel) ?_
  refine yp10_3 hZ.1 dX11_init_196 zw783 ?_
  refine s_aload_n hZ.1 dX11_init_199 rfl ?_
  refine s_iconst dX11_init_200 (by decide +kernel) ?_
  refine yp10_7 hZ.1 dX11_init_201 zw815 ?_
  refine s_aload_n hZ.1 dX11_init_204 rfl ?_
  refine s_iconst dX11_init_205 (by decide +kernel) ?_
  refine yp10_20 hZ.1 dX11_init_206 zw889 ?_
  refine s_aload_n hZ.1 dX11_init_209 rfl ?_
  refine yg11_0 dX11_init_210 zw1250 ?_
  refine s_callV hZ.1 (Met_X1_newMember hZ) (Nat.le_of_ble_eq_true rfl) vy_X1_newMember zcl1 zw1228 zw1229 (Or.inl zw1227) dX11_init_213 ?_
  refine s_astore_n hZ.1 dX11_init_216 rfl (Nat.le_of_ble_eq_true rfl) ?_
  refine s_aload_n hZ.1 dX11_init_217 rfl ?_
  refine s_iconst dX11_init_218 (by decide +kernel) ?_
  refine yp7_1 hZ.1 dX11_init_219 zw953 ?_
  refine s_aload_n hZ.1 dX11_init_222 rfl ?_
  refine s_ldc2 dX11_init_223 zw1248 (by decide +kernel) ?_
  refine yp7_7 hZ.1 dX11_init_226 zw1002 ?_
  refine s_aload_n hZ.1 dX11_init_229 rfl ?_
  refine s_ldc2 dX11_init_230 zw1249 (by decide +kernel) ?_
  refine yp7_8 hZ.1 dX11_init_233 zw1011 ?_
  refine s_aload_n hZ.1 dX11_init_236 rfl ?_
  refine s_aload_n hZ.1 dX11_init_237 rfl ?_
  refine s_callV hZ.1 (Met_X10_add hZ) (Nat.le_of_ble_eq_true rfl) vy_X10_add zcl10 zw1244 zw1245 (Or.inl zw1243) dX11_init_238 ?_
  exact (wX11_init_241 hZ)
noncomputable def vX11_init_145 : rx_K := o_st rx_isR 1 (o_ld rx_isR 0 (o_getf 11 0 (o_callV 0 1 FX1_newRow (o_st rx_isR 2 (o_ld rx_isR 1 (o_const 115324555267378511873 (o_putf rx_isL 10 1 (o_ld rx_isR 1 (o_const 8 (o_putf rx_isZ 10 3 (o_ld rx_isR 1 (o_const 147573952589676412897 (o_putf rx_isL 10 8 (o_ld rx_isR 1 (o_ld rx_isR 0 (o_getf 11 0 (o_callV 0 1 FX1_newMember (o_callS 1 FX11_openMaker (o_callV 1 10 FX10_add (o_ld rx_isR 2 (o_const 116472515775520833537 (o_putf rx_isL 10 1 (o_ld rx_isR 2 (vX11_init_195))))))))))))))))))))))))
set_option maxRecDepth 20000 in
theorem wX11_init_145 (hZ : zO b e D A X) : rx_OK (zV b e D A X) mX11_init 3 145 vX11_init_145 := by
  unfold vX11_init_145
  refine s_astore_n hZ.1 dX11_init_145 rfl (Nat.le_of_ble_eq_true rfl) ?_
  refine s_aload_n hZ.1 dX11_init_146 rfl ?_
  refine yg11_0 dX11_init_147 zw1250 ?_
  refine s_callV hZ.1 (Met_X1_newRow hZ) (Nat.le_of_ble_eq_true rfl) vy_X1_newRow zcl1 zw1213 zw1214 (Or.inl zw1212) dX11_init_150 ?_
  refine s_astore_n hZ.1 dX11_init_153 rfl (Nat.le_of_ble_eq_true rfl) ?_
  refine s_aload_n hZ.1 dX11_init_154 rfl ?_
  refine s_ldc2 dX11_init_155 zw1225 (by decide +kernel) ?_
  refine yp10_1 hZ.1 dX11_init_158 zw768 ?_
  refine s_aload_n hZ.1 dX11_init_161 rfl ?_
  refine s_iconst dX11_init_162 (by decide +kernel) ?_
  refine yp10_3 hZ.1 dX11_init_163 zw783 ?_
  refine s_aload_n hZ.1 dX11_init_166 rfl ?_
  refine s_ldc2 dX11_init_167 zw1226 (by decide +kernel) ?_
  refine yp10_8 hZ.1 dX11_init_170 zw821 ?_
  refine s_aload_n hZ.1 dX11_init_173 rfl ?_
  refine s_aload_n hZ.1 dX11_init_174 rfl ?_
  refine yg11_0 dX11_init_175 zw1250 ?_
  refine s_callV hZ.1 (Met_X1_newMember hZ) (Nat.le_of_ble_eq_true rfl) vy_X1_newMember zcl1 zw1228 zw1229 (Or.inl zw1227) dX11_init_178 ?_
  refine s_callS hZ.1 (Met_X11_openMaker hZ) (Nat.le_of_ble_eq_true rfl) vy_X11_openMaker zw1241 (Or.inl zw1240) dX11_init_181 ?_
  refine s_callV hZ.1 (Met_X10_add hZ) (Nat.le_of_ble_eq_true rfl) vy_X10_add zcl10 zw1244 zw1245 (Or.inl zw1243) dX11_init_184 ?_
  refine s_aload_n hZ.1 dX11_init_187 rfl ?_
  refine s_ldc2 dX11_init_188 zw1247 (by decide +kernel) ?_
  refine yp10_1 hZ.1 dX11_init_191 zw768 ?_
  refine s_aload_n hZ.1 dX11_init_194 rfl ?_
  exact (wX11_init_195 hZ)
noncomputable def vX11_init_99 : rx_K := o_newa 0 0 (o_putf rx_isR 11 13 (o_ld rx_isR 0 (o_const 512 (o_newa 0 0 (o_putf rx_isR 11 14 (o_ld rx_isR 0 (o_const 512 (o_newa 5 3 (o_putf rx_isR 11 16 (o_ld rx_isR 0 (o_new 1 18 zfs1 (o_dup (o_const 16 (o_const 24 (o_const 0 (o_const 0 (o_const 0 (o_const 0 (o_callI 6 FX1_init (o_putf rx_isR 11 0 (o_ld rx_isR 0 (o_getf 11 0 (o_callV 0 1 FX1_newRow (vX11_init_145))))))))))))))))))))))))
set_option maxRecDepth 20000 in
theorem wX11_init_99 (hZ : zO b e D A X) : rx_OK (zV b e D A X) mX11_init 3 99 vX11_init_99 := by
  unfold vX11_init_99
  refine s_newa (tt := 0) (ty := .int) rfl rfl rfl rfl rfl (by decide) zw527 dX11_init_99 ?_
  refine yp11_13 hZ.1 rfl rfl dX11_init_101 zw1288 ?_
  refine s_aload_n hZ.1 dX11_init_104 rfl ?_
  refine s_bipush dX11_init_105 (by decide +kernel) ?_
  refine s_newa (tt := 0) (ty := .int) rfl rfl rfl rfl rfl (by decide) zw527 dX11_init_107 ?_
  refine yp11_14 hZ.1 rfl rfl dX11_init_109 zw1289 ?_
  refine s_aload_n hZ.1 dX11_init_112 rfl ?_
  refine s_bipush dX11_init_113 (by decide +kernel) ?_
  refine s_anewa (tt := 5) rfl zw751 (zo_W5 hZ) dX11_init_115 ?_
  refine yp11_16 hZ.1 rfl rfl dX11_init_118 zw1293 ?_
  refine s_aload_n hZ.1 dX11_init_121 rfl ?_
  refine s_new zcl1 zfk1 dX11_init_122 zw752 zw753 zw424 ?_
  refine s_dup hZ.1 dX11_init_125 ?_
  refine s_iconst dX11_init_126 (by decide +kernel) ?_
  refine s_iconst dX11_init_127 (by decide +kernel) ?_
  refine s_iconst dX11_init_128 (by decide +kernel) ?_
  refine s_iconst dX11_init_129 (by decide +kernel) ?_
  refine s_iconst dX11_init_130 (by decide +kernel) ?_
  refine s_iconst dX11_init_131 (by decide +kernel) ?_
  refine s_callI hZ.1 (Met_X1_init hZ) (Nat.le_of_ble_eq_true rfl) vy_X1_init rfl rfl zw755 (Or.inl zw754) dX11_init_132 ?_
  refine yp11_0 hZ.1 rfl rfl dX11_init_135 zw1250 ?_
  refine s_aload_n hZ.1 dX11_init_138 rfl ?_
  refine yg11_0 dX11_init_139 zw1250 ?_
  refine s_callV hZ.1 (Met_X1_newRow hZ) (Nat.le_of_ble_eq_true rfl) vy_X1_newRow zcl1 zw1213 zw1214 (Or.inl zw1212) dX11_init_142 ?_
  exact (wX11_init_145 hZ)
noncomputable def vX11_init_50 : rx_K := o_newa 0 0 (o_putf rx_isR 11 7 (o_ld rx_isR 0 (o_const 512 (o_newa 0 0 (o_putf rx_isR 11 8 (o_ld rx_isR 0 (o_const 512 (o_newa 1 1 (o_putf rx_isR 11 9 (o_ld rx_isR 0 (o_const 32768 (o_newa 0 0 (o_putf rx_isR 11 10 (o_ld rx_isR 0 (o_const 512 (o_newa 0 0 (o_putf rx_isR 11 11 (o_ld rx_isR 0 (o_const 528 (o_newa 0 0 (o_putf rx_isR 11 12 (o_ld rx_isR 0 (o_const 528 (vX11_init_99))))))))))))))))))))))))
set_option maxRecDepth 20000 in
theorem wX11_init_50 (hZ : zO b e D A X) : rx_OK (zV b e D A X) mX11_init 3 50 vX11_init_50 := by
  unfold vX11_init_50
  refine s_newa (tt := 0) (ty := .int) rfl rfl rfl rfl rfl (by decide) zw527 dX11_init_50 ?_
  refine yp11_7 hZ.1 rfl rfl dX11_init_52 zw1277 ?_
  refine s_aload_n hZ.1 dX11_init_55 rfl ?_
  refine s_bipush dX11_init_56 (by decide +kernel) ?_
  refine s_newa (tt := 0) (ty := .int) rfl rfl rfl rfl rfl (by decide) zw527 dX11_init_58 ?_
  refine yp11_8 hZ.1 rfl rfl dX11_init_60 zw1279 ?_
  refine s_aload_n hZ.1 dX11_init_63 rfl ?_
  refine s_bipush dX11_init_64 (by decide +kernel) ?_
  refine s_newa (tt := 1) (ty := .long) rfl rfl rfl rfl rfl (by decide) zw528 dX11_init_66 ?_
  refine yp11_9 hZ.1 rfl rfl dX11_init_68 zw1281 ?_
  refine s_aload_n hZ.1 dX11_init_71 rfl ?_
  refine s_sipush dX11_init_72 (by decide +kernel) ?_
  refine s_newa (tt := 0) (ty := .int) rfl rfl rfl rfl rfl (by decide) zw527 dX11_init_75 ?_
  refine yp11_10 hZ.1 rfl rfl dX11_init_77 zw1282 ?_
  refine s_aload_n hZ.1 dX11_init_80 rfl ?_
  refine s_bipush dX11_init_81 (by decide +kernel) ?_
  refine s_newa (tt := 0) (ty := .int) rfl rfl rfl rfl rfl (by decide) zw527 dX11_init_83 ?_
  refine yp11_11 hZ.1 rfl rfl dX11_init_85 zw1286 ?_
  refine s_aload_n hZ.1 dX11_init_88 rfl ?_
  refine s_bipush dX11_init_89 (by decide +kernel) ?_
  refine s_newa (tt := 0) (ty := .int) rfl rfl rfl rfl rfl (by decide) zw527 dX11_init_91 ?_
  refine yp11_12 hZ.1 rfl rfl dX11_init_93 zw1287 ?_
  refine s_aload_n hZ.1 dX11_init_96 rfl ?_
  refine s_bipush dX11_init_97 (by decide +kernel) ?_
  exact (wX11_init_99 hZ)
noncomputable def vX11_init_0 : rx_K := o_ld rx_isR 0 (o_obj (o_ld rx_isR 0 (o_const 512 (o_newa 4 3 (o_putf rx_isR 11 1 (o_ld rx_isR 0 (o_const 512 (o_newa 0 0 (o_putf rx_isR 11 3 (o_ld rx_isR 0 (o_const 512 (o_newa 0 0 (o_putf rx_isR 11 4 (o_ld rx_isR 0 (o_const 2048 (o_newa 0 0 (o_putf rx_isR 11 5 (o_ld rx_isR 0 (o_const 2560 (o_newa 0 0 (o_putf rx_isR 11 6 (o_ld rx_isR 0 (o_const 512 (vX11_init_50))))))))))))))))))))))))
set_option maxRecDepth 20000 in
theorem wX11_init_0 (hZ : zO b e D A X) : rx_OK (zV b e D A X) mX11_init 3 0 vX11_init_0 := by
  unfold vX11_init_0
  refine s_aload_n hZ.1 dX11_init_0 rfl ?_
  refine s_obj hZ.1 (Nat.le_of_ble_eq_true rfl) zw748 zw440 zw441 dX11_init_1 ?_
  refine s_aload_n hZ.1 dX11_init_4 rfl ?_
  refine s_bipush dX11_init_5 (by decide +kernel) ?_
  refine s_anewa (tt := 4) rfl zw749 (zo_W4 hZ) dX11_init_7 ?_
  refine yp11_1 hZ.1 rfl rfl dX11_init_10 zw1252 ?_
  refine s_aload_n hZ.1 dX11_init_13 rfl ?_
  refine s_bipush dX11_init_14 (by decide +kernel) ?_
  refine s_newa (tt := 0) (ty := .int) rfl rfl rfl rfl rfl (by decide) zw527 dX11_init_16 ?_
  refine yp11_3 hZ.1 rfl rfl dX11_init_18 zw1262 ?_
  refine s_aload_n hZ.1 dX11_init_21 rfl ?_
  refine s_bipush dX11_init_22 (by decide +kernel) ?_
  refine s_newa (tt := 0) (ty := .int) rfl rfl rfl rfl rfl (by decide) zw527 dX11_init_24 ?_
  refine yp11_4 hZ.1 rfl rfl dX11_init_26 zw1267 ?_
  refine s_aload_n hZ.1 dX11_init_29 rfl ?_
  refine s_sipush dX11_init_30 (by decide +kernel) ?_
  refine s_newa (tt := 0) (ty := .int) rfl rfl rfl rfl rfl (by decide) zw527 dX11_init_33 ?_
  refine yp11_5 hZ.1 rfl rfl dX11_init_35 zw1272 ?_
  refine s_aload_n hZ.1 dX11_init_38 rfl ?_
  refine s_sipush dX11_init_39 (by decide +kernel) ?_
  refine s_newa (tt := 0) (ty := .int) rfl rfl rfl rfl rfl (by decide) zw527 dX11_init_42 ?_
  refine yp11_6 hZ.1 rfl rfl dX11_init_44 zw1275 ?_
  refine s_aload_n hZ.1 dX11_init_47 rfl ?_
  refine s_bipush dX11_init_48 (by decide +kernel) ?_
  exact (wX11_init_50 hZ)
noncomputable def FX11_init : List Nat → rx_H → Option (Nat × rx_H) := rx_ent 4 vX11_init_0
theorem Met_X11_init (hZ : zO b e D A X) : rx_Met (zV b e D A X) 3 yX11_init mX11_init (FX11_init) := rx_entry hZ.1 (wX11_init_0 hZ) (by decide +kernel) rfl (fun _ => rfl)
abbrev mX11_clear : rx_M := (RX11, cX11_clear, 1, none, false)
theorem vy_X11_clear : rx_Y (zV b e D A X) yX11_clear mX11_clear 0 := ⟨zw1556, zw423, by decide, by decide +kernel, by decide +kernel, by decide +kernel⟩
noncomputable def vX11_clear_0 : rx_K := o_ld rx_isR 0 (o_const 16 (o_putf rx_isI 11 2 (o_ld rx_isR 0 (o_getf 11 1 (o_const 0 (o_ld rx_isR 0 (o_getf 11 0 (o_getf 1 2 (o_const 0 (o_ald 4 (o_aast 4 [10] (o_ld rx_isR 0 (o_getf 11 1 (o_const 8 (o_ld rx_isR 0 (o_getf 11 0 (o_getf 1 2 (o_const 8 (o_ald 4 (o_aast 4 [10] (o_ret0)))))))))))))))))))))
set_option maxRecDepth 20000 in
theorem wX11_clear_0 (hZ : zO b e D A X) : rx_OK (zV b e D A X) mX11_clear 0 0 vX11_clear_0 := by
  unfold vX11_clear_0
  refine s_aload_n hZ.1 dX11_clear_0 rfl ?_
  refine s_iconst dX11_clear_1 (by decide +kernel) ?_
  refine yp11_2 hZ.1 dX11_clear_2 zw1260 ?_
  refine s_aload_n hZ.1 dX11_clear_5 rfl ?_
  refine yg11_1 dX11_clear_6 zw1252 ?_
  refine s_iconst dX11_clear_9 (by decide +kernel) ?_
  refine s_aload_n hZ.1 dX11_clear_10 rfl ?_
  refine yg11_0 dX11_clear_11 zw1250 ?_
  refine yg1_2 dX11_clear_14 zw1116 ?_
  refine s_iconst dX11_clear_17 (by decide +kernel) ?_
  refine s_aald (tt := 4) rfl rfl dX11_clear_18 ?_
  refine s_aast (tt := 4) rfl zaa10 dX11_clear_19 ?_
  refine s_aload_n hZ.1 dX11_clear_20 rfl ?_
  refine yg11_1 dX11_clear_21 zw1252 ?_
  refine s_iconst dX11_clear_24 (by decide +kernel) ?_
  refine s_aload_n hZ.1 dX11_clear_25 rfl ?_
  refine yg11_0 dX11_clear_26 zw1250 ?_
  refine yg1_2 dX11_clear_29 zw1116 ?_
  refine s_iconst dX11_clear_32 (by decide +kernel) ?_
  refine s_aald (tt := 4) rfl rfl dX11_clear_33 ?_
  refine s_aast (tt := 4) rfl zaa10 dX11_clear_34 ?_
  exact s_vret rfl dX11_clear_35
noncomputable def FX11_clear : List Nat → rx_H → Option (Nat × rx_H) := rx_ent 1 vX11_clear_0
theorem Met_X11_clear (hZ : zO b e D A X) : rx_Met (zV b e D A X) 0 yX11_clear mX11_clear (FX11_clear) := rx_entry hZ.1 (wX11_clear_0 hZ) (by decide +kernel) rfl (fun h => by cases h)
abbrev mX11_enter : rx_M := (RX11, cX11_enter, 5, none, false)
theorem vy_X11_enter : rx_Y (zV b e D A X) yX11_enter mX11_enter 1 := ⟨zw1568, zw423, by decide, by decide +kernel, by decide +kernel, by decide +kernel⟩
noncomputable def vX11_enter_115 (j : Nat → rx_K) : rx_K := o_ret0
set_option maxRecDepth 20000 in
theorem wX11_enter_115 (hZ : zO b e D A X) (j : Nat → rx_K) (hj : ∀ k pc, [2, 32][k]? = some pc → rx_OK (zV b e D A X) mX11_enter 0 pc (j k)) : rx_OK (zV b e D A X) mX11_enter 0 115 (vX11_enter_115 j) := by
  unfold vX11_enter_115
  exact s_vret rfl dX11_enter_115
noncomputable def vX11_enter_109 (j : Nat → rx_K) : rx_K := o_inc 2 (1) ((j 0))
set_option maxRecDepth 20000 in
theorem wX11_enter_109 (hZ : zO b e D A X) (j : Nat → rx_K) (hj : ∀ k pc, [2, 32][k]? = some pc → rx_OK (zV b e D A X) mX11_enter 0 pc (j k)) : rx_OK (zV b e D A X) mX11_enter 0 109 (vX11_enter_109 j) := by
  unfold vX11_enter_109
  refine s_iinc hZ.1 dX11_enter_109 (Nat.le_of_ble_eq_true rfl) ?_
  exact s_goto dX11_enter_112 (by decide) (hj 0 2 rfl)
noncomputable def vX11_enter_84 (j : Nat → rx_K) : rx_K := o_ld rx_isR 0 (o_getf 11 1 (o_ld rx_isR 0 (o_getf 11 2 (o_ld rx_isR 1 (o_getf 1 2 (o_ld rx_isI 2 (o_ald 4 (o_aast 4 [10] (o_ld rx_isR 0 (o_dup (o_getf 11 2 (o_const 8 (o_bi (fun x y => x + y) (o_putf rx_isI 11 2 ((vX11_enter_109 j))))))))))))))))
set_option maxRecDepth 20000 in
theorem wX11_enter_84 (hZ : zO b e D A X) (j : Nat → rx_K) (hj : ∀ k pc, [2, 32][k]? = some pc → rx_OK (zV b e D A X) mX11_enter 0 pc (j k)) : rx_OK (zV b e D A X) mX11_enter 0 84 (vX11_enter_84 j) := by
  unfold vX11_enter_84
  refine s_aload_n hZ.1 dX11_enter_84 rfl ?_
  refine yg11_1 dX11_enter_85 zw1252 ?_
  refine s_aload_n hZ.1 dX11_enter_88 rfl ?_
  refine yg11_2 dX11_enter_89 zw1260 ?_
  refine s_aload_n hZ.1 dX11_enter_92 rfl ?_
  refine yg1_2 dX11_enter_93 zw1116 ?_
  refine s_iload_n hZ.1 dX11_enter_96 rfl ?_
  refine s_aald (tt := 4) rfl rfl dX11_enter_97 ?_
  refine s_aast (tt := 4) rfl zaa10 dX11_enter_98 ?_
  refine s_aload_n hZ.1 dX11_enter_99 rfl ?_
  refine s_dup hZ.1 dX11_enter_100 ?_
  refine yg11_2 dX11_enter_101 zw1260 ?_
  refine s_iconst dX11_enter_104 (by decide +kernel) ?_
  refine s_iadd dX11_enter_105 ?_
  refine yp11_2 hZ.1 dX11_enter_106 zw1260 ?_
  exact (wX11_enter_109 hZ j hj)
noncomputable def vX11_enter_80 (j : Nat → rx_K) : rx_K := o_ld rx_isI 3 (o_c1 rx_eq (vX11_enter_84 j) (vX11_enter_109 j))
set_option maxRecDepth 20000 in
theorem wX11_enter_80 (hZ : zO b e D A X) (j : Nat → rx_K) (hj : ∀ k pc, [2, 32][k]? = some pc → rx_OK (zV b e D A X) mX11_enter 0 pc (j k)) : rx_OK (zV b e D A X) mX11_enter 0 80 (vX11_enter_80 j) := by
  unfold vX11_enter_80
  refine s_iload_n hZ.1 dX11_enter_80 rfl ?_
  exact s_if_ne dX11_enter_81 (by decide) (wX11_enter_109 hZ j hj) (wX11_enter_84 hZ j hj)
noncomputable def vX11_enter_73 (j : Nat → rx_K) : rx_K := o_st rx_isI 3 (o_inc 4 (1) ((j 1)))
set_option maxRecDepth 20000 in
theorem wX11_enter_73 (hZ : zO b e D A X) (j : Nat → rx_K) (hj : ∀ k pc, [2, 32][k]? = some pc → rx_OK (zV b e D A X) mX11_enter 0 pc (j k)) : rx_OK (zV b e D A X) mX11_enter 0 73 (vX11_enter_73 j) := by
  unfold vX11_enter_73
  refine s_istore_n hZ.1 dX11_enter_73 rfl (Nat.le_of_ble_eq_true rfl) ?_
  refine s_iinc hZ.1 dX11_enter_74 (Nat.le_of_ble_eq_true rfl) ?_
  exact s_goto dX11_enter_77 (by decide) (hj 1 32 rfl)
noncomputable def vX11_enter_72 (j : Nat → rx_K) : rx_K := o_const 0 ((vX11_enter_73 j))
set_option maxRecDepth 20000 in
theorem wX11_enter_72 (hZ : zO b e D A X) (j : Nat → rx_K) (hj : ∀ k pc, [2, 32][k]? = some pc → rx_OK (zV b e D A X) mX11_enter 0 pc (j k)) : rx_OK (zV b e D A X) mX11_enter 0 72 (vX11_enter_72 j) := by
  unfold vX11_enter_72
  refine s_iconst dX11_enter_72 (by decide +kernel) ?_
  exact (wX11_enter_73 hZ j hj)
noncomputable def vX11_enter_68 (j : Nat → rx_K) : rx_K := o_const 8 ((vX11_enter_73 j))
set_option maxRecDepth 20000 in
theorem wX11_enter_68 (hZ : zO b e D A X) (j : Nat → rx_K) (hj : ∀ k pc, [2, 32][k]? = some pc → rx_OK (zV b e D A X) mX11_enter 0 pc (j k)) : rx_OK (zV b e D A X) mX11_enter 0 68 (vX11_enter_68 j) := by
  unfold vX11_enter_68
  refine s_iconst dX11_enter_68 (by decide +kernel) ?_
  exact s_goto dX11_enter_69 (by decide) (wX11_enter_73 hZ j hj)
noncomputable def vX11_enter_45 (j : Nat → rx_K) : rx_K := o_ld rx_isR 0 (o_getf 11 1 (o_ld rx_isI 4 (o_ald 4 (o_getf 10 1 (o_ld rx_isR 1 (o_getf 1 2 (o_ld rx_isI 2 (o_ald 4 (o_getf 10 1 (o_bc (fun x y => lg_cmp x y) (o_c1 rx_eq (vX11_enter_68 j) (vX11_enter_72 j))))))))))))
set_option maxRecDepth 20000 in
theorem wX11_enter_45 (hZ : zO b e D A X) (j : Nat → rx_K) (hj : ∀ k pc, [2, 32][k]? = some pc → rx_OK (zV b e D A X) mX11_enter 0 pc (j k)) : rx_OK (zV b e D A X) mX11_enter 0 45 (vX11_enter_45 j) := by
  unfold vX11_enter_45
  refine s_aload_n hZ.1 dX11_enter_45 rfl ?_
  refine yg11_1 dX11_enter_46 zw1252 ?_
  refine s_iload hZ.1 dX11_enter_49 ?_
  refine s_aald (tt := 4) rfl rfl dX11_enter_51 ?_
  refine yg10_1 dX11_enter_52 zw768 ?_
  refine s_aload_n hZ.1 dX11_enter_55 rfl ?_
  refine yg1_2 dX11_enter_56 zw1116 ?_
  refine s_iload_n hZ.1 dX11_enter_59 rfl ?_
  refine s_aald (tt := 4) rfl rfl dX11_enter_60 ?_
  refine yg10_1 dX11_enter_61 zw768 ?_
  refine s_lcmp dX11_enter_64 ?_
  exact s_if_ne dX11_enter_65 (by decide) (wX11_enter_72 hZ j hj) (wX11_enter_68 hZ j hj)
noncomputable def vX11_enter_41 (j : Nat → rx_K) : rx_K := o_ld rx_isI 3 (o_c1 rx_eq (vX11_enter_45 j) (vX11_enter_80 j))
set_option maxRecDepth 20000 in
theorem wX11_enter_41 (hZ : zO b e D A X) (j : Nat → rx_K) (hj : ∀ k pc, [2, 32][k]? = some pc → rx_OK (zV b e D A X) mX11_enter 0 pc (j k)) : rx_OK (zV b e D A X) mX11_enter 0 41 (vX11_enter_41 j) := by
  unfold vX11_enter_41
  refine s_iload_n hZ.1 dX11_enter_41 rfl ?_
  exact s_if_ne dX11_enter_42 (by decide) (wX11_enter_80 hZ j hj) (wX11_enter_45 hZ j hj)
noncomputable def vX11_enter_32 (j : Nat → rx_K) : rx_K := o_ld rx_isI 4 (o_ld rx_isR 0 (o_getf 11 2 (o_c2 rx_lt (vX11_enter_41 j) (vX11_enter_80 j))))
set_option maxRecDepth 20000 in
theorem wX11_enter_32 (hZ : zO b e D A X) (j : Nat → rx_K) (hj : ∀ k pc, [2, 32][k]? = some pc → rx_OK (zV b e D A X) mX11_enter 0 pc (j k)) : rx_OK (zV b e D A X) mX11_enter 0 32 (vX11_enter_32 j) := by
  unfold vX11_enter_32
  refine s_iload hZ.1 dX11_enter_32 ?_
  refine s_aload_n hZ.1 dX11_enter_34 rfl ?_
  refine yg11_2 dX11_enter_35 zw1260 ?_
  exact s_icmp_ge dX11_enter_38 (by decide) (wX11_enter_80 hZ j hj) (wX11_enter_41 hZ j hj)
noncomputable def vX11_enter_28 (j : Nat → rx_K) : rx_K := o_st rx_isI 3 (o_const 16 (o_st rx_isI 4 ((vX11_enter_32 j))))
set_option maxRecDepth 20000 in
theorem wX11_enter_28 (hZ : zO b e D A X) (j : Nat → rx_K) (hj : ∀ k pc, [2, 32][k]? = some pc → rx_OK (zV b e D A X) mX11_enter 0 pc (j k)) : rx_OK (zV b e D A X) mX11_enter 0 28 (vX11_enter_28 j) := by
  unfold vX11_enter_28
  refine s_istore_n hZ.1 dX11_enter_28 rfl (Nat.le_of_ble_eq_true rfl) ?_
  refine s_iconst dX11_enter_29 (by decide +kernel) ?_
  refine s_istore hZ.1 dX11_enter_30 (Nat.le_of_ble_eq_true rfl) ?_
  exact (wX11_enter_32 hZ j hj)
noncomputable def vX11_enter_27 (j : Nat → rx_K) : rx_K := o_const 0 ((vX11_enter_28 j))
set_option maxRecDepth 20000 in
theorem wX11_enter_27 (hZ : zO b e D A X) (j : Nat → rx_K) (hj : ∀ k pc, [2, 32][k]? = some pc → rx_OK (zV b e D A X) mX11_enter 0 pc (j k)) : rx_OK (zV b e D A X) mX11_enter 0 27 (vX11_enter_27 j) := by
  unfold vX11_enter_27
  refine s_iconst dX11_enter_27 (by decide +kernel) ?_
  exact (wX11_enter_28 hZ j hj)
noncomputable def vX11_enter_23 (j : Nat → rx_K) : rx_K := o_const 8 ((vX11_enter_28 j))
set_option maxRecDepth 20000 in
theorem wX11_enter_23 (hZ : zO b e D A X) (j : Nat → rx_K) (hj : ∀ k pc, [2, 32][k]? = some pc → rx_OK (zV b e D A X) mX11_enter 0 pc (j k)) : rx_OK (zV b e D A X) mX11_enter 0 23 (vX11_enter_23 j) := by
  unfold vX11_enter_23
  refine s_iconst dX11_enter_23 (by decide +kernel) ?_
  exact s_goto dX11_enter_24 (by decide) (wX11_enter_28 hZ j hj)
noncomputable def vX11_enter_14 (j : Nat → rx_K) : rx_K := o_ld rx_isR 0 (o_getf 11 2 (o_const 512 (o_c2 rx_lt (vX11_enter_27 j) (vX11_enter_23 j))))
set_option maxRecDepth 20000 in
theorem wX11_enter_14 (hZ : zO b e D A X) (j : Nat → rx_K) (hj : ∀ k pc, [2, 32][k]? = some pc → rx_OK (zV b e D A X) mX11_enter 0 pc (j k)) : rx_OK (zV b e D A X) mX11_enter 0 14 (vX11_enter_14 j) := by
  unfold vX11_enter_14
  refine s_aload_n hZ.1 dX11_enter_14 rfl ?_
  refine yg11_2 dX11_enter_15 zw1260 ?_
  refine s_bipush dX11_enter_18 (by decide +kernel) ?_
  exact s_icmp_lt dX11_enter_20 (by decide) (wX11_enter_27 hZ j hj) (wX11_enter_23 hZ j hj)
noncomputable def vX11_enter_6 (j : Nat → rx_K) : rx_K := o_ld rx_isI 2 (o_ld rx_isR 1 (o_getf 1 3 (o_c2 rx_lt (vX11_enter_14 j) (vX11_enter_115 j))))
set_option maxRecDepth 20000 in
theorem wX11_enter_6 (hZ : zO b e D A X) (j : Nat → rx_K) (hj : ∀ k pc, [2, 32][k]? = some pc → rx_OK (zV b e D A X) mX11_enter 0 pc (j k)) : rx_OK (zV b e D A X) mX11_enter 0 6 (vX11_enter_6 j) := by
  unfold vX11_enter_6
  refine s_iload_n hZ.1 dX11_enter_6 rfl ?_
  refine s_aload_n hZ.1 dX11_enter_7 rfl ?_
  refine yg1_3 dX11_enter_8 zw1125 ?_
  exact s_icmp_ge dX11_enter_11 (by decide) (wX11_enter_115 hZ j hj) (wX11_enter_14 hZ j hj)
noncomputable def vX11_enter_2 (j : Nat → rx_K) : rx_K := o_ld rx_isR 1 (o_nul (vX11_enter_115 j) (vX11_enter_6 j))
set_option maxRecDepth 20000 in
theorem wX11_enter_2 (hZ : zO b e D A X) (j : Nat → rx_K) (hj : ∀ k pc, [2, 32][k]? = some pc → rx_OK (zV b e D A X) mX11_enter 0 pc (j k)) : rx_OK (zV b e D A X) mX11_enter 0 2 (vX11_enter_2 j) := by
  unfold vX11_enter_2
  refine s_aload_n hZ.1 dX11_enter_2 rfl ?_
  exact s_ifnull dX11_enter_3 (by decide) (wX11_enter_115 hZ j hj) (wX11_enter_6 hZ j hj)
noncomputable def vX11_enter_0 (j : Nat → rx_K) : rx_K := o_const 0 (o_st rx_isI 2 ((vX11_enter_2 j)))
set_option maxRecDepth 20000 in
theorem wX11_enter_0 (hZ : zO b e D A X) (j : Nat → rx_K) (hj : ∀ k pc, [2, 32][k]? = some pc → rx_OK (zV b e D A X) mX11_enter 0 pc (j k)) : rx_OK (zV b e D A X) mX11_enter 0 0 (vX11_enter_0 j) := by
  unfold vX11_enter_0
  refine s_iconst dX11_enter_0 (by decide +kernel) ?_
  refine s_istore_n hZ.1 dX11_enter_1 rfl (Nat.le_of_ble_eq_true rfl) ?_
  exact (wX11_enter_2 hZ j hj)
noncomputable def vhX11_enter (j : Nat → rx_K) : List rx_K := [vX11_enter_2 j, vX11_enter_32 j]
theorem vlX11_enter (hZ : zO b e D A X) : ∀ n k pc, [2, 32][k]? = some pc → rx_OK (zV b e D A X) mX11_enter 0 pc (rx_J (vhX11_enter) n k) := rx_loop fun j hj k pc h => by
  match k, h with
  | 0, h =>
    have e9 := Option.some.inj (show some 2 = some pc from h)
    subst e9
    exact wX11_enter_2 hZ j hj
  | 1, h =>
    have e9 := Option.some.inj (show some 32 = some pc from h)
    subst e9
    exact wX11_enter_32 hZ j hj
  | _ + 2, h => exact absurd h (by simp)
noncomputable def FX11_enter : List Nat → rx_H → Option (Nat × rx_H) := rx_ent 5 (vX11_enter_0 (rx_J (vhX11_enter) 4000000000))
theorem Met_X11_enter (hZ : zO b e D A X) : rx_Met (zV b e D A X) 0 yX11_enter mX11_enter (FX11_enter) := rx_entry hZ.1 (wX11_enter_0 hZ _ (vlX11_enter hZ 4000000000)) (by decide +kernel) rfl (fun h => by cases h)
abbrev mX11_bars : rx_M := (RX11, cX11_bars, 5, (some .int), false)
theorem vy_X11_bars : rx_Y (zV b e D A X) yX11_bars mX11_bars 3 := ⟨zw1584, zw423, by decide, by decide +kernel, by decide +kernel, by decide +kernel⟩
noncomputable def vX11_bars_94 : rx_K := o_ret1 rx_isI
set_option maxRecDepth 20000 in
theorem wX11_bars_94 (hZ : zO b e D A X) : rx_OK (zV b e D A X) mX11_bars 1 94 vX11_bars_94 := by
  unfold vX11_bars_94
  exact s_iret hZ.1 rfl dX11_bars_94
noncomputable def vX11_bars_93 : rx_K := o_const 0 (vX11_bars_94)
set_option maxRecDepth 20000 in
theorem wX11_bars_93 (hZ : zO b e D A X) : rx_OK (zV b e D A X) mX11_bars 1 93 vX11_bars_93 := by
  unfold vX11_bars_93
  refine s_iconst dX11_bars_93 (by decide +kernel) ?_
  exact (wX11_bars_94 hZ)
noncomputable def vX11_bars_89 : rx_K := o_const 24 (vX11_bars_94)
set_option maxRecDepth 20000 in
theorem wX11_bars_89 (hZ : zO b e D A X) : rx_OK (zV b e D A X) mX11_bars 1 89 vX11_bars_89 := by
  unfold vX11_bars_89
  refine s_iconst dX11_bars_89 (by decide +kernel) ?_
  exact s_goto dX11_bars_90 (by decide) (wX11_bars_94 hZ)
noncomputable def vX11_bars_76 : rx_K := o_ld rx_isR 4 (o_const 16 (o_ld rx_isR 1 (o_getf 10 1 (o_callV 2 10 FX10_has (o_c1 rx_eq vX11_bars_89 vX11_bars_93)))))
set_option maxRecDepth 20000 in
theorem wX11_bars_76 (hZ : zO b e D A X) : rx_OK (zV b e D A X) mX11_bars 1 76 vX11_bars_76 := by
  unfold vX11_bars_76
  refine s_aload hZ.1 dX11_bars_76 ?_
  refine s_iconst dX11_bars_78 (by decide +kernel) ?_
  refine s_aload_n hZ.1 dX11_bars_79 rfl ?_
  refine yg10_1 dX11_bars_80 zw768 ?_
  refine s_callV hZ.1 (Met_X10_has hZ) (Nat.le_of_ble_eq_true rfl) vy_X10_has zcl10 zw1578 zw1579 (Or.inl zw1577) dX11_bars_83 ?_
  exact s_if_ne dX11_bars_86 (by decide) (wX11_bars_93 hZ) (wX11_bars_89 hZ)
noncomputable def vX11_bars_66 : rx_K := o_ld rx_isR 4 (o_getf 10 11 (o_const 16 (o_ald 0 (o_c1 (fun h x y => rx_lt h y x) vX11_bars_76 vX11_bars_93))))
set_option maxRecDepth 20000 in
theorem wX11_bars_66 (hZ : zO b e D A X) : rx_OK (zV b e D A X) mX11_bars 1 66 vX11_bars_66 := by
  unfold vX11_bars_66
  refine s_aload hZ.1 dX11_bars_66 ?_
  refine yg10_11 dX11_bars_68 zw841 ?_
  refine s_iconst dX11_bars_71 (by decide +kernel) ?_
  refine s_iald (tt := 0) rfl dX11_bars_72 ?_
  exact s_if_le dX11_bars_73 (by decide) (wX11_bars_93 hZ) (wX11_bars_76 hZ)
noncomputable def vX11_bars_58 : rx_K := o_ld rx_isR 4 (o_getf 10 5 (o_c1 rx_eq vX11_bars_66 vX11_bars_89))
set_option maxRecDepth 20000 in
theorem wX11_bars_58 (hZ : zO b e D A X) : rx_OK (zV b e D A X) mX11_bars 1 58 vX11_bars_58 := by
  unfold vX11_bars_58
  refine s_aload hZ.1 dX11_bars_58 ?_
  refine yg10_5 dX11_bars_60 zw803 ?_
  exact s_if_ne dX11_bars_63 (by decide) (wX11_bars_89 hZ) (wX11_bars_66 hZ)
noncomputable def vX11_bars_54 : rx_K := o_ld rx_isI 3 (o_c1 rx_eq vX11_bars_66 vX11_bars_58)
set_option maxRecDepth 20000 in
theorem wX11_bars_54 (hZ : zO b e D A X) : rx_OK (zV b e D A X) mX11_bars 1 54 vX11_bars_54 := by
  unfold vX11_bars_54
  refine s_iload_n hZ.1 dX11_bars_54 rfl ?_
  exact s_if_eq dX11_bars_55 (by decide) (wX11_bars_66 hZ) (wX11_bars_58 hZ)
noncomputable def vX11_bars_52 : rx_K := o_const 16 (o_ret1 rx_isI)
set_option maxRecDepth 20000 in
theorem wX11_bars_52 (hZ : zO b e D A X) : rx_OK (zV b e D A X) mX11_bars 1 52 vX11_bars_52 := by
  unfold vX11_bars_52
  refine s_iconst dX11_bars_52 (by decide +kernel) ?_
  exact s_iret hZ.1 rfl dX11_bars_53
noncomputable def vX11_bars_33 : rx_K := o_ld rx_isR 4 (o_getf 10 1 (o_const 472 (o_bs (fun x y => (x.toUInt64 >>> (y.toInt64.toUInt64 &&& Int64.toUInt64 63)).toInt64) (o_ld rx_isR 1 (o_getf 10 1 (o_const 472 (o_bs (fun x y => (x.toUInt64 >>> (y.toInt64.toUInt64 &&& Int64.toUInt64 63)).toInt64) (o_bc (fun x y => lg_cmp x y) (o_c1 rx_eq vX11_bars_54 vX11_bars_52)))))))))
set_option maxRecDepth 20000 in
theorem wX11_bars_33 (hZ : zO b e D A X) : rx_OK (zV b e D A X) mX11_bars 1 33 vX11_bars_33 := by
  unfold vX11_bars_33
  refine s_aload hZ.1 dX11_bars_33 ?_
  refine yg10_1 dX11_bars_35 zw768 ?_
  refine s_bipush dX11_bars_38 (by decide +kernel) ?_
  refine s_lushr dX11_bars_40 ?_
  refine s_aload_n hZ.1 dX11_bars_41 rfl ?_
  refine yg10_1 dX11_bars_42 zw768 ?_
  refine s_bipush dX11_bars_45 (by decide +kernel) ?_
  refine s_lushr dX11_bars_47 ?_
  refine s_lcmp dX11_bars_48 ?_
  exact s_if_eq dX11_bars_49 (by decide) (wX11_bars_54 hZ) (wX11_bars_52 hZ)
noncomputable def vX11_bars_25 : rx_K := o_ld rx_isR 4 (o_getf 10 3 (o_c1 rx_eq vX11_bars_33 vX11_bars_54))
set_option maxRecDepth 20000 in
theorem wX11_bars_25 (hZ : zO b e D A X) : rx_OK (zV b e D A X) mX11_bars 1 25 vX11_bars_25 := by
  unfold vX11_bars_25
  refine s_aload hZ.1 dX11_bars_25 ?_
  refine yg10_3 dX11_bars_27 zw783 ?_
  exact s_if_ne dX11_bars_30 (by decide) (wX11_bars_54 hZ) (wX11_bars_33 hZ)
noncomputable def vX11_bars_23 : rx_K := o_const 24 (o_ret1 rx_isI)
set_option maxRecDepth 20000 in
theorem wX11_bars_23 (hZ : zO b e D A X) : rx_OK (zV b e D A X) mX11_bars 1 23 vX11_bars_23 := by
  unfold vX11_bars_23
  refine s_iconst dX11_bars_23 (by decide +kernel) ?_
  exact s_iret hZ.1 rfl dX11_bars_24
noncomputable def vX11_bars_6 : rx_K := o_ld rx_isR 0 (o_getf 11 1 (o_ld rx_isI 2 (o_ald 4 (o_st rx_isR 4 (o_ld rx_isR 4 (o_getf 10 4 (o_ld rx_isI 3 (o_c2 rx_eq vX11_bars_23 vX11_bars_25))))))))
set_option maxRecDepth 20000 in
theorem wX11_bars_6 (hZ : zO b e D A X) : rx_OK (zV b e D A X) mX11_bars 1 6 vX11_bars_6 := by
  unfold vX11_bars_6
  refine s_aload_n hZ.1 dX11_bars_6 rfl ?_
  refine yg11_1 dX11_bars_7 zw1252 ?_
  refine s_iload_n hZ.1 dX11_bars_10 rfl ?_
  refine s_aald (tt := 4) rfl rfl dX11_bars_11 ?_
  refine s_astore hZ.1 dX11_bars_12 (Nat.le_of_ble_eq_true rfl) ?_
  refine s_aload hZ.1 dX11_bars_14 ?_
  refine yg10_4 dX11_bars_16 zw793 ?_
  refine s_iload_n hZ.1 dX11_bars_19 rfl ?_
  exact s_icmp_ne dX11_bars_20 (by decide) (wX11_bars_25 hZ) (wX11_bars_23 hZ)
noncomputable def vX11_bars_4 : rx_K := o_const 8 (o_ret1 rx_isI)
set_option maxRecDepth 20000 in
theorem wX11_bars_4 (hZ : zO b e D A X) : rx_OK (zV b e D A X) mX11_bars 1 4 vX11_bars_4 := by
  unfold vX11_bars_4
  refine s_iconst dX11_bars_4 (by decide +kernel) ?_
  exact s_iret hZ.1 rfl dX11_bars_5
noncomputable def vX11_bars_0 : rx_K := o_ld rx_isI 2 (o_c1 rx_lt vX11_bars_4 vX11_bars_6)
set_option maxRecDepth 20000 in
theorem wX11_bars_0 (hZ : zO b e D A X) : rx_OK (zV b e D A X) mX11_bars 1 0 vX11_bars_0 := by
  unfold vX11_bars_0
  refine s_iload_n hZ.1 dX11_bars_0 rfl ?_
  exact s_if_ge dX11_bars_1 (by decide) (wX11_bars_6 hZ) (wX11_bars_4 hZ)
noncomputable def FX11_bars : List Nat → rx_H → Option (Nat × rx_H) := rx_ent 5 vX11_bars_0
theorem Met_X11_bars (hZ : zO b e D A X) : rx_Met (zV b e D A X) 1 yX11_bars mX11_bars (FX11_bars) := rx_entry hZ.1 (wX11_bars_0 hZ) (by decide +kernel) rfl (fun h => by cases h)
abbrev mX11_close : rx_M := (RX11, cX11_close, 7, none, false)
theorem vy_X11_close : rx_Y (zV b e D A X) yX11_close mX11_close 0 := ⟨zw1592, zw423, by decide, by decide +kernel, by decide +kernel, by decide +kernel⟩
noncomputable def vX11_close_267 (j : Nat → rx_K) : rx_K := o_ret0
set_option maxRecDepth 20000 in
theorem wX11_close_267 (hZ : zO b e D A X) (j : Nat → rx_K) (hj : ∀ k pc, [4, 18, 81, 176, 204][k]? = some pc → rx_OK (zV b e D A X) mX11_close 0 pc (j k)) : rx_OK (zV b e D A X) mX11_close 0 267 (vX11_close_267 j) := by
  unfold vX11_close_267
  exact s_vret rfl dX11_close_267
noncomputable def vX11_close_261 (j : Nat → rx_K) : rx_K := o_inc 2 (1) ((j 3))
set_option maxRecDepth 20000 in
theorem wX11_close_261 (hZ : zO b e D A X) (j : Nat → rx_K) (hj : ∀ k pc, [4, 18, 81, 176, 204][k]? = some pc → rx_OK (zV b e D A X) mX11_close 0 pc (j k)) : rx_OK (zV b e D A X) mX11_close 0 261 (vX11_close_261 j) := by
  unfold vX11_close_261
  refine s_iinc hZ.1 dX11_close_261 (Nat.le_of_ble_eq_true rfl) ?_
  exact s_goto dX11_close_264 (by decide) (hj 3 176 rfl)
noncomputable def vX11_close_229 (j : Nat → rx_K) : rx_K := o_ld rx_isL 3 (o_const 9 (o_ld rx_isI 5 (o_bs (fun x y => x <<< (y.toInt64 &&& 63)) (o_bl (fun x y => x ||| y) (o_stL 3 (o_ld rx_isR 0 (o_getf 11 4 (o_ld rx_isI 2 (o_dup2 (o_ald 0 (o_const 8 (o_bi (fun x y => x + y) (o_ast 0 (fun v => v) rx_isI (o_ld rx_isR 0 (o_getf 11 3 (o_ld rx_isI 5 (o_ald 0 (o_st rx_isI 5 (o_inc 6 (1) ((j 4)))))))))))))))))))))
set_option maxRecDepth 20000 in
theorem wX11_close_229 (hZ : zO b e D A X) (j : Nat → rx_K) (hj : ∀ k pc, [4, 18, 81, 176, 204][k]? = some pc → rx_OK (zV b e D A X) mX11_close 0 pc (j k)) : rx_OK (zV b e D A X) mX11_close 0 229 (vX11_close_229 j) := by
  unfold vX11_close_229
  refine s_lload_n hZ.1 dX11_close_229 rfl ?_
  refine s_lconst dX11_close_230 (by decide +kernel) ?_
  refine s_iload hZ.1 dX11_close_231 ?_
  refine s_lshl dX11_close_233 ?_
  refine s_lor dX11_close_234 ?_
  refine s_lstore_n hZ.1 dX11_close_235 rfl (Nat.le_of_ble_eq_true rfl) ?_
  refine s_aload_n hZ.1 dX11_close_236 rfl ?_
  refine yg11_4 dX11_close_237 zw1267 ?_
  refine s_iload_n hZ.1 dX11_close_240 rfl ?_
  refine s_dup2 hZ.1 dX11_close_241 ?_
  refine s_iald (tt := 0) rfl dX11_close_242 ?_
  refine s_iconst dX11_close_243 (by decide +kernel) ?_
  refine s_iadd dX11_close_244 ?_
  refine s_iast hZ.1 (tt := 0) rfl dX11_close_245 ?_
  refine s_aload_n hZ.1 dX11_close_246 rfl ?_
  refine yg11_3 dX11_close_247 zw1262 ?_
  refine s_iload hZ.1 dX11_close_250 ?_
  refine s_iald (tt := 0) rfl dX11_close_252 ?_
  refine s_istore hZ.1 dX11_close_253 (Nat.le_of_ble_eq_true rfl) ?_
  refine s_iinc hZ.1 dX11_close_255 (Nat.le_of_ble_eq_true rfl) ?_
  exact s_goto dX11_close_258 (by decide) (hj 4 204 rfl)
noncomputable def vX11_close_218 (j : Nat → rx_K) : rx_K := o_ld rx_isL 3 (o_ld rx_isI 5 (o_bs (fun x y => (x.toUInt64 >>> (y.toInt64.toUInt64 &&& Int64.toUInt64 63)).toInt64) (o_const 9 (o_bl (fun x y => x &&& y) (o_const 1 (o_bc (fun x y => lg_cmp x y) (o_c1 rx_eq (vX11_close_229 j) (vX11_close_261 j))))))))
set_option maxRecDepth 20000 in
theorem wX11_close_218 (hZ : zO b e D A X) (j : Nat → rx_K) (hj : ∀ k pc, [4, 18, 81, 176, 204][k]? = some pc → rx_OK (zV b e D A X) mX11_close 0 pc (j k)) : rx_OK (zV b e D A X) mX11_close 0 218 (vX11_close_218 j) := by
  unfold vX11_close_218
  refine s_lload_n hZ.1 dX11_close_218 rfl ?_
  refine s_iload hZ.1 dX11_close_219 ?_
  refine s_lushr dX11_close_221 ?_
  refine s_lconst dX11_close_222 (by decide +kernel) ?_
  refine s_land dX11_close_223 ?_
  refine s_lconst dX11_close_224 (by decide +kernel) ?_
  refine s_lcmp dX11_close_225 ?_
  exact s_if_ne dX11_close_226 (by decide) (wX11_close_261 hZ j hj) (wX11_close_229 hZ j hj)
noncomputable def vX11_close_213 (j : Nat → rx_K) : rx_K := o_ld rx_isI 5 (o_c1 rx_lt (vX11_close_261 j) (vX11_close_218 j))
set_option maxRecDepth 20000 in
theorem wX11_close_213 (hZ : zO b e D A X) (j : Nat → rx_K) (hj : ∀ k pc, [4, 18, 81, 176, 204][k]? = some pc → rx_OK (zV b e D A X) mX11_close 0 pc (j k)) : rx_OK (zV b e D A X) mX11_close 0 213 (vX11_close_213 j) := by
  unfold vX11_close_213
  refine s_iload hZ.1 dX11_close_213 ?_
  exact s_if_lt dX11_close_215 (by decide) (wX11_close_261 hZ j hj) (wX11_close_218 hZ j hj)
noncomputable def vX11_close_204 (j : Nat → rx_K) : rx_K := o_ld rx_isI 6 (o_ld rx_isR 0 (o_getf 11 2 (o_c2 rx_lt (vX11_close_213 j) (vX11_close_261 j))))
set_option maxRecDepth 20000 in
theorem wX11_close_204 (hZ : zO b e D A X) (j : Nat → rx_K) (hj : ∀ k pc, [4, 18, 81, 176, 204][k]? = some pc → rx_OK (zV b e D A X) mX11_close 0 pc (j k)) : rx_OK (zV b e D A X) mX11_close 0 204 (vX11_close_204 j) := by
  unfold vX11_close_204
  refine s_iload hZ.1 dX11_close_204 ?_
  refine s_aload_n hZ.1 dX11_close_206 rfl ?_
  refine yg11_2 dX11_close_207 zw1260 ?_
  exact s_icmp_ge dX11_close_210 (by decide) (wX11_close_261 hZ j hj) (wX11_close_213 hZ j hj)
noncomputable def vX11_close_184 (j : Nat → rx_K) : rx_K := o_ld rx_isR 0 (o_getf 11 4 (o_ld rx_isI 2 (o_const 0 (o_ast 0 (fun v => v) rx_isI (o_const 1 (o_stL 3 (o_ld rx_isR 0 (o_getf 11 3 (o_ld rx_isI 2 (o_ald 0 (o_st rx_isI 5 (o_const 0 (o_st rx_isI 6 ((vX11_close_204 j)))))))))))))))
set_option maxRecDepth 20000 in
theorem wX11_close_184 (hZ : zO b e D A X) (j : Nat → rx_K) (hj : ∀ k pc, [4, 18, 81, 176, 204][k]? = some pc → rx_OK (zV b e D A X) mX11_close 0 pc (j k)) : rx_OK (zV b e D A X) mX11_close 0 184 (vX11_close_184 j) := by
  unfold vX11_close_184
  refine s_aload_n hZ.1 dX11_close_184 rfl ?_
  refine yg11_4 dX11_close_185 zw1267 ?_
  refine s_iload_n hZ.1 dX11_close_188 rfl ?_
  refine s_iconst dX11_close_189 (by decide +kernel) ?_
  refine s_iast hZ.1 (tt := 0) rfl dX11_close_190 ?_
  refine s_lconst dX11_close_191 (by decide +kernel) ?_
  refine s_lstore_n hZ.1 dX11_close_192 rfl (Nat.le_of_ble_eq_true rfl) ?_
  refine s_aload_n hZ.1 dX11_close_193 rfl ?_
  refine yg11_3 dX11_close_194 zw1262 ?_
  refine s_iload_n hZ.1 dX11_close_197 rfl ?_
  refine s_iald (tt := 0) rfl dX11_close_198 ?_
  refine s_istore hZ.1 dX11_close_199 (Nat.le_of_ble_eq_true rfl) ?_
  refine s_iconst dX11_close_201 (by decide +kernel) ?_
  refine s_istore hZ.1 dX11_close_202 (Nat.le_of_ble_eq_true rfl) ?_
  exact (wX11_close_204 hZ j hj)
noncomputable def vX11_close_176 (j : Nat → rx_K) : rx_K := o_ld rx_isI 2 (o_ld rx_isR 0 (o_getf 11 2 (o_c2 rx_lt (vX11_close_184 j) (vX11_close_267 j))))
set_option maxRecDepth 20000 in
theorem wX11_close_176 (hZ : zO b e D A X) (j : Nat → rx_K) (hj : ∀ k pc, [4, 18, 81, 176, 204][k]? = some pc → rx_OK (zV b e D A X) mX11_close 0 pc (j k)) : rx_OK (zV b e D A X) mX11_close 0 176 (vX11_close_176 j) := by
  unfold vX11_close_176
  refine s_iload_n hZ.1 dX11_close_176 rfl ?_
  refine s_aload_n hZ.1 dX11_close_177 rfl ?_
  refine yg11_2 dX11_close_178 zw1260 ?_
  exact s_icmp_ge dX11_close_181 (by decide) (wX11_close_267 hZ j hj) (wX11_close_184 hZ j hj)
noncomputable def vX11_close_174 (j : Nat → rx_K) : rx_K := o_const 0 (o_st rx_isI 2 ((vX11_close_176 j)))
set_option maxRecDepth 20000 in
theorem wX11_close_174 (hZ : zO b e D A X) (j : Nat → rx_K) (hj : ∀ k pc, [4, 18, 81, 176, 204][k]? = some pc → rx_OK (zV b e D A X) mX11_close 0 pc (j k)) : rx_OK (zV b e D A X) mX11_close 0 174 (vX11_close_174 j) := by
  unfold vX11_close_174
  refine s_iconst dX11_close_174 (by decide +kernel) ?_
  refine s_istore_n hZ.1 dX11_close_175 rfl (Nat.le_of_ble_eq_true rfl) ?_
  exact (wX11_close_176 hZ j hj)
noncomputable def vX11_close_168 (j : Nat → rx_K) : rx_K := o_inc 2 (1) ((j 0))
set_option maxRecDepth 20000 in
theorem wX11_close_168 (hZ : zO b e D A X) (j : Nat → rx_K) (hj : ∀ k pc, [4, 18, 81, 176, 204][k]? = some pc → rx_OK (zV b e D A X) mX11_close 0 pc (j k)) : rx_OK (zV b e D A X) mX11_close 0 168 (vX11_close_168 j) := by
  unfold vX11_close_168
  refine s_iinc hZ.1 dX11_close_168 (Nat.le_of_ble_eq_true rfl) ?_
  exact s_goto dX11_close_171 (by decide) (hj 0 4 rfl)
noncomputable def vX11_close_160 (j : Nat → rx_K) : rx_K := o_bi (fun x y => x ||| y) (o_st rx_isI 1 (o_inc 3 (1) ((j 1))))
set_option maxRecDepth 20000 in
theorem wX11_close_160 (hZ : zO b e D A X) (j : Nat → rx_K) (hj : ∀ k pc, [4, 18, 81, 176, 204][k]? = some pc → rx_OK (zV b e D A X) mX11_close 0 pc (j k)) : rx_OK (zV b e D A X) mX11_close 0 160 (vX11_close_160 j) := by
  unfold vX11_close_160
  refine s_ior dX11_close_160 ?_
  refine s_istore_n hZ.1 dX11_close_161 rfl (Nat.le_of_ble_eq_true rfl) ?_
  refine s_iinc hZ.1 dX11_close_162 (Nat.le_of_ble_eq_true rfl) ?_
  exact s_goto dX11_close_165 (by decide) (hj 1 18 rfl)
noncomputable def vX11_close_159 (j : Nat → rx_K) : rx_K := o_const 0 ((vX11_close_160 j))
set_option maxRecDepth 20000 in
theorem wX11_close_159 (hZ : zO b e D A X) (j : Nat → rx_K) (hj : ∀ k pc, [4, 18, 81, 176, 204][k]? = some pc → rx_OK (zV b e D A X) mX11_close 0 pc (j k)) : rx_OK (zV b e D A X) mX11_close 0 159 (vX11_close_159 j) := by
  unfold vX11_close_159
  refine s_iconst dX11_close_159 (by decide +kernel) ?_
  exact (wX11_close_160 hZ j hj)
noncomputable def vX11_close_155 (j : Nat → rx_K) : rx_K := o_const 8 ((vX11_close_160 j))
set_option maxRecDepth 20000 in
theorem wX11_close_155 (hZ : zO b e D A X) (j : Nat → rx_K) (hj : ∀ k pc, [4, 18, 81, 176, 204][k]? = some pc → rx_OK (zV b e D A X) mX11_close 0 pc (j k)) : rx_OK (zV b e D A X) mX11_close 0 155 (vX11_close_155 j) := by
  unfold vX11_close_155
  refine s_iconst dX11_close_155 (by decide +kernel) ?_
  exact s_goto dX11_close_156 (by decide) (wX11_close_160 hZ j hj)
noncomputable def vX11_close_142 (j : Nat → rx_K) : rx_K := o_ld rx_isI 1 (o_ld rx_isR 0 (o_getf 11 9 (o_ld rx_isI 3 (o_ald 1 (o_ld rx_isL 4 (o_bc (fun x y => lg_cmp x y) (o_c1 rx_eq (vX11_close_159 j) (vX11_close_155 j))))))))
set_option maxRecDepth 20000 in
theorem wX11_close_142 (hZ : zO b e D A X) (j : Nat → rx_K) (hj : ∀ k pc, [4, 18, 81, 176, 204][k]? = some pc → rx_OK (zV b e D A X) mX11_close 0 pc (j k)) : rx_OK (zV b e D A X) mX11_close 0 142 (vX11_close_142 j) := by
  unfold vX11_close_142
  refine s_iload_n hZ.1 dX11_close_142 rfl ?_
  refine s_aload_n hZ.1 dX11_close_143 rfl ?_
  refine yg11_9 dX11_close_144 zw1281 ?_
  refine s_iload_n hZ.1 dX11_close_147 rfl ?_
  refine s_lald (tt := 1) rfl dX11_close_148 ?_
  refine s_lload hZ.1 dX11_close_149 ?_
  refine s_lcmp dX11_close_151 ?_
  exact s_if_eq dX11_close_152 (by decide) (wX11_close_159 hZ j hj) (wX11_close_155 hZ j hj)
noncomputable def vX11_close_134 (j : Nat → rx_K) : rx_K := o_bl (fun x y => x ||| y) (o_ast 1 (fun v => v) rx_isL (o_inc 6 (1) ((j 2))))
set_option maxRecDepth 20000 in
theorem wX11_close_134 (hZ : zO b e D A X) (j : Nat → rx_K) (hj : ∀ k pc, [4, 18, 81, 176, 204][k]? = some pc → rx_OK (zV b e D A X) mX11_close 0 pc (j k)) : rx_OK (zV b e D A X) mX11_close 0 134 (vX11_close_134 j) := by
  unfold vX11_close_134
  refine s_lor dX11_close_134 ?_
  refine s_last (tt := 1) rfl dX11_close_135 ?_
  refine s_iinc hZ.1 dX11_close_136 (Nat.le_of_ble_eq_true rfl) ?_
  exact s_goto dX11_close_139 (by decide) (hj 2 81 rfl)
noncomputable def vX11_close_112 (j : Nat → rx_K) : rx_K := o_const 9 (o_ld rx_isR 0 (o_getf 11 5 (o_ld rx_isI 6 (o_ald 0 (o_bs (fun x y => x <<< (y.toInt64 &&& 63)) (o_ld rx_isR 0 (o_getf 11 9 (o_ld rx_isR 0 (o_getf 11 5 (o_ld rx_isI 6 (o_ald 0 (o_ald 1 (o_bl (fun x y => x ||| y) ((vX11_close_134 j)))))))))))))))
set_option maxRecDepth 20000 in
theorem wX11_close_112 (hZ : zO b e D A X) (j : Nat → rx_K) (hj : ∀ k pc, [4, 18, 81, 176, 204][k]? = some pc → rx_OK (zV b e D A X) mX11_close 0 pc (j k)) : rx_OK (zV b e D A X) mX11_close 0 112 (vX11_close_112 j) := by
  unfold vX11_close_112
  refine s_lconst dX11_close_112 (by decide +kernel) ?_
  refine s_aload_n hZ.1 dX11_close_113 rfl ?_
  refine yg11_5 dX11_close_114 zw1272 ?_
  refine s_iload hZ.1 dX11_close_117 ?_
  refine s_iald (tt := 0) rfl dX11_close_119 ?_
  refine s_lshl dX11_close_120 ?_
  refine s_aload_n hZ.1 dX11_close_121 rfl ?_
  refine yg11_9 dX11_close_122 zw1281 ?_
  refine s_aload_n hZ.1 dX11_close_125 rfl ?_
  refine yg11_5 dX11_close_126 zw1272 ?_
  refine s_iload hZ.1 dX11_close_129 ?_
  refine s_iald (tt := 0) rfl dX11_close_131 ?_
  refine s_lald (tt := 1) rfl dX11_close_132 ?_
  refine s_lor dX11_close_133 ?_
  exact (wX11_close_134 hZ j hj)
noncomputable def vX11_close_108 (j : Nat → rx_K) : rx_K := o_const 1 ((vX11_close_134 j))
set_option maxRecDepth 20000 in
theorem wX11_close_108 (hZ : zO b e D A X) (j : Nat → rx_K) (hj : ∀ k pc, [4, 18, 81, 176, 204][k]? = some pc → rx_OK (zV b e D A X) mX11_close 0 pc (j k)) : rx_OK (zV b e D A X) mX11_close 0 108 (vX11_close_108 j) := by
  unfold vX11_close_108
  refine s_lconst dX11_close_108 (by decide +kernel) ?_
  exact s_goto dX11_close_109 (by decide) (wX11_close_134 hZ j hj)
noncomputable def vX11_close_91 (j : Nat → rx_K) : rx_K := o_ld rx_isR 0 (o_getf 11 9 (o_ld rx_isI 3 (o_dup2 (o_ald 1 (o_ld rx_isR 0 (o_getf 11 5 (o_ld rx_isI 6 (o_ald 0 (o_c1 rx_lt (vX11_close_108 j) (vX11_close_112 j))))))))))
set_option maxRecDepth 20000 in
theorem wX11_close_91 (hZ : zO b e D A X) (j : Nat → rx_K) (hj : ∀ k pc, [4, 18, 81, 176, 204][k]? = some pc → rx_OK (zV b e D A X) mX11_close 0 pc (j k)) : rx_OK (zV b e D A X) mX11_close 0 91 (vX11_close_91 j) := by
  unfold vX11_close_91
  refine s_aload_n hZ.1 dX11_close_91 rfl ?_
  refine yg11_9 dX11_close_92 zw1281 ?_
  refine s_iload_n hZ.1 dX11_close_95 rfl ?_
  refine s_dup2 hZ.1 dX11_close_96 ?_
  refine s_lald (tt := 1) rfl dX11_close_97 ?_
  refine s_aload_n hZ.1 dX11_close_98 rfl ?_
  refine yg11_5 dX11_close_99 zw1272 ?_
  refine s_iload hZ.1 dX11_close_102 ?_
  refine s_iald (tt := 0) rfl dX11_close_104 ?_
  exact s_if_ge dX11_close_105 (by decide) (wX11_close_112 hZ j hj) (wX11_close_108 hZ j hj)
noncomputable def vX11_close_81 (j : Nat → rx_K) : rx_K := o_ld rx_isI 6 (o_ld rx_isI 3 (o_const 32 (o_bi (fun x y => x * y) (o_const 32 (o_bi (fun x y => x + y) (o_c2 rx_lt (vX11_close_91 j) (vX11_close_142 j)))))))
set_option maxRecDepth 20000 in
theorem wX11_close_81 (hZ : zO b e D A X) (j : Nat → rx_K) (hj : ∀ k pc, [4, 18, 81, 176, 204][k]? = some pc → rx_OK (zV b e D A X) mX11_close 0 pc (j k)) : rx_OK (zV b e D A X) mX11_close 0 81 (vX11_close_81 j) := by
  unfold vX11_close_81
  refine s_iload hZ.1 dX11_close_81 ?_
  refine s_iload_n hZ.1 dX11_close_83 rfl ?_
  refine s_iconst dX11_close_84 (by decide +kernel) ?_
  refine s_imul dX11_close_85 ?_
  refine s_iconst dX11_close_86 (by decide +kernel) ?_
  refine s_iadd dX11_close_87 ?_
  exact s_icmp_ge dX11_close_88 (by decide) (wX11_close_142 hZ j hj) (wX11_close_91 hZ j hj)
noncomputable def vX11_close_74 (j : Nat → rx_K) : rx_K := o_bl (fun x y => x ||| y) (o_ast 1 (fun v => v) rx_isL (o_ld rx_isI 3 (o_const 32 (o_bi (fun x y => x * y) (o_st rx_isI 6 ((vX11_close_81 j)))))))
set_option maxRecDepth 20000 in
theorem wX11_close_74 (hZ : zO b e D A X) (j : Nat → rx_K) (hj : ∀ k pc, [4, 18, 81, 176, 204][k]? = some pc → rx_OK (zV b e D A X) mX11_close 0 pc (j k)) : rx_OK (zV b e D A X) mX11_close 0 74 (vX11_close_74 j) := by
  unfold vX11_close_74
  refine s_lor dX11_close_74 ?_
  refine s_last (tt := 1) rfl dX11_close_75 ?_
  refine s_iload_n hZ.1 dX11_close_76 rfl ?_
  refine s_iconst dX11_close_77 (by decide +kernel) ?_
  refine s_imul dX11_close_78 ?_
  refine s_istore hZ.1 dX11_close_79 (Nat.le_of_ble_eq_true rfl) ?_
  exact (wX11_close_81 hZ j hj)
noncomputable def vX11_close_54 (j : Nat → rx_K) : rx_K := o_const 9 (o_ld rx_isR 0 (o_getf 11 3 (o_ld rx_isI 3 (o_ald 0 (o_bs (fun x y => x <<< (y.toInt64 &&& 63)) (o_ld rx_isR 0 (o_getf 11 9 (o_ld rx_isR 0 (o_getf 11 3 (o_ld rx_isI 3 (o_ald 0 (o_ald 1 (o_bl (fun x y => x ||| y) ((vX11_close_74 j)))))))))))))))
set_option maxRecDepth 20000 in
theorem wX11_close_54 (hZ : zO b e D A X) (j : Nat → rx_K) (hj : ∀ k pc, [4, 18, 81, 176, 204][k]? = some pc → rx_OK (zV b e D A X) mX11_close 0 pc (j k)) : rx_OK (zV b e D A X) mX11_close 0 54 (vX11_close_54 j) := by
  unfold vX11_close_54
  refine s_lconst dX11_close_54 (by decide +kernel) ?_
  refine s_aload_n hZ.1 dX11_close_55 rfl ?_
  refine yg11_3 dX11_close_56 zw1262 ?_
  refine s_iload_n hZ.1 dX11_close_59 rfl ?_
  refine s_iald (tt := 0) rfl dX11_close_60 ?_
  refine s_lshl dX11_close_61 ?_
  refine s_aload_n hZ.1 dX11_close_62 rfl ?_
  refine yg11_9 dX11_close_63 zw1281 ?_
  refine s_aload_n hZ.1 dX11_close_66 rfl ?_
  refine yg11_3 dX11_close_67 zw1262 ?_
  refine s_iload_n hZ.1 dX11_close_70 rfl ?_
  refine s_iald (tt := 0) rfl dX11_close_71 ?_
  refine s_lald (tt := 1) rfl dX11_close_72 ?_
  refine s_lor dX11_close_73 ?_
  exact (wX11_close_74 hZ j hj)
noncomputable def vX11_close_50 (j : Nat → rx_K) : rx_K := o_const 1 ((vX11_close_74 j))
set_option maxRecDepth 20000 in
theorem wX11_close_50 (hZ : zO b e D A X) (j : Nat → rx_K) (hj : ∀ k pc, [4, 18, 81, 176, 204][k]? = some pc → rx_OK (zV b e D A X) mX11_close 0 pc (j k)) : rx_OK (zV b e D A X) mX11_close 0 50 (vX11_close_50 j) := by
  unfold vX11_close_50
  refine s_lconst dX11_close_50 (by decide +kernel) ?_
  exact s_goto dX11_close_51 (by decide) (wX11_close_74 hZ j hj)
noncomputable def vX11_close_26 (j : Nat → rx_K) : rx_K := o_ld rx_isR 0 (o_getf 11 9 (o_ld rx_isI 3 (o_ald 1 (o_stL 4 (o_ld rx_isR 0 (o_getf 11 9 (o_ld rx_isI 3 (o_dup2 (o_ald 1 (o_ld rx_isR 0 (o_getf 11 3 (o_ld rx_isI 3 (o_ald 0 (o_c1 rx_lt (vX11_close_50 j) (vX11_close_54 j)))))))))))))))
set_option maxRecDepth 20000 in
theorem wX11_close_26 (hZ : zO b e D A X) (j : Nat → rx_K) (hj : ∀ k pc, [4, 18, 81, 176, 204][k]? = some pc → rx_OK (zV b e D A X) mX11_close 0 pc (j k)) : rx_OK (zV b e D A X) mX11_close 0 26 (vX11_close_26 j) := by
  unfold vX11_close_26
  refine s_aload_n hZ.1 dX11_close_26 rfl ?_
  refine yg11_9 dX11_close_27 zw1281 ?_
  refine s_iload_n hZ.1 dX11_close_30 rfl ?_
  refine s_lald (tt := 1) rfl dX11_close_31 ?_
  refine s_lstore hZ.1 dX11_close_32 (Nat.le_of_ble_eq_true rfl) ?_
  refine s_aload_n hZ.1 dX11_close_34 rfl ?_
  refine yg11_9 dX11_close_35 zw1281 ?_
  refine s_iload_n hZ.1 dX11_close_38 rfl ?_
  refine s_dup2 hZ.1 dX11_close_39 ?_
  refine s_lald (tt := 1) rfl dX11_close_40 ?_
  refine s_aload_n hZ.1 dX11_close_41 rfl ?_
  refine yg11_3 dX11_close_42 zw1262 ?_
  refine s_iload_n hZ.1 dX11_close_45 rfl ?_
  refine s_iald (tt := 0) rfl dX11_close_46 ?_
  exact s_if_ge dX11_close_47 (by decide) (wX11_close_54 hZ j hj) (wX11_close_50 hZ j hj)
noncomputable def vX11_close_18 (j : Nat → rx_K) : rx_K := o_ld rx_isI 3 (o_ld rx_isR 0 (o_getf 11 2 (o_c2 rx_lt (vX11_close_26 j) (vX11_close_168 j))))
set_option maxRecDepth 20000 in
theorem wX11_close_18 (hZ : zO b e D A X) (j : Nat → rx_K) (hj : ∀ k pc, [4, 18, 81, 176, 204][k]? = some pc → rx_OK (zV b e D A X) mX11_close 0 pc (j k)) : rx_OK (zV b e D A X) mX11_close 0 18 (vX11_close_18 j) := by
  unfold vX11_close_18
  refine s_iload_n hZ.1 dX11_close_18 rfl ?_
  refine s_aload_n hZ.1 dX11_close_19 rfl ?_
  refine yg11_2 dX11_close_20 zw1260 ?_
  exact s_icmp_ge dX11_close_23 (by decide) (wX11_close_168 hZ j hj) (wX11_close_26 hZ j hj)
noncomputable def vX11_close_14 (j : Nat → rx_K) : rx_K := o_const 0 (o_st rx_isI 1 (o_const 0 (o_st rx_isI 3 ((vX11_close_18 j)))))
set_option maxRecDepth 20000 in
theorem wX11_close_14 (hZ : zO b e D A X) (j : Nat → rx_K) (hj : ∀ k pc, [4, 18, 81, 176, 204][k]? = some pc → rx_OK (zV b e D A X) mX11_close 0 pc (j k)) : rx_OK (zV b e D A X) mX11_close 0 14 (vX11_close_14 j) := by
  unfold vX11_close_14
  refine s_iconst dX11_close_14 (by decide +kernel) ?_
  refine s_istore_n hZ.1 dX11_close_15 rfl (Nat.le_of_ble_eq_true rfl) ?_
  refine s_iconst dX11_close_16 (by decide +kernel) ?_
  refine s_istore_n hZ.1 dX11_close_17 rfl (Nat.le_of_ble_eq_true rfl) ?_
  exact (wX11_close_18 hZ j hj)
noncomputable def vX11_close_10 (j : Nat → rx_K) : rx_K := o_ld rx_isI 1 (o_c1 rx_eq (vX11_close_174 j) (vX11_close_14 j))
set_option maxRecDepth 20000 in
theorem wX11_close_10 (hZ : zO b e D A X) (j : Nat → rx_K) (hj : ∀ k pc, [4, 18, 81, 176, 204][k]? = some pc → rx_OK (zV b e D A X) mX11_close 0 pc (j k)) : rx_OK (zV b e D A X) mX11_close 0 10 (vX11_close_10 j) := by
  unfold vX11_close_10
  refine s_iload_n hZ.1 dX11_close_10 rfl ?_
  exact s_if_eq dX11_close_11 (by decide) (wX11_close_174 hZ j hj) (wX11_close_14 hZ j hj)
noncomputable def vX11_close_4 (j : Nat → rx_K) : rx_K := o_ld rx_isI 2 (o_const 512 (o_c2 (fun h x y => rx_lt h y x) (vX11_close_174 j) (vX11_close_10 j)))
set_option maxRecDepth 20000 in
theorem wX11_close_4 (hZ : zO b e D A X) (j : Nat → rx_K) (hj : ∀ k pc, [4, 18, 81, 176, 204][k]? = some pc → rx_OK (zV b e D A X) mX11_close 0 pc (j k)) : rx_OK (zV b e D A X) mX11_close 0 4 (vX11_close_4 j) := by
  unfold vX11_close_4
  refine s_iload_n hZ.1 dX11_close_4 rfl ?_
  refine s_bipush dX11_close_5 (by decide +kernel) ?_
  exact s_icmp_gt dX11_close_7 (by decide) (wX11_close_174 hZ j hj) (wX11_close_10 hZ j hj)
noncomputable def vX11_close_0 (j : Nat → rx_K) : rx_K := o_const 8 (o_st rx_isI 1 (o_const 0 (o_st rx_isI 2 ((vX11_close_4 j)))))
set_option maxRecDepth 20000 in
theorem wX11_close_0 (hZ : zO b e D A X) (j : Nat → rx_K) (hj : ∀ k pc, [4, 18, 81, 176, 204][k]? = some pc → rx_OK (zV b e D A X) mX11_close 0 pc (j k)) : rx_OK (zV b e D A X) mX11_close 0 0 (vX11_close_0 j) := by
  unfold vX11_close_0
  refine s_iconst dX11_close_0 (by decide +kernel) ?_
  refine s_istore_n hZ.1 dX11_close_1 rfl (Nat.le_of_ble_eq_true rfl) ?_
  refine s_iconst dX11_close_2 (by decide +kernel) ?_
  refine s_istore_n hZ.1 dX11_close_3 rfl (Nat.le_of_ble_eq_true rfl) ?_
  exact (wX11_close_4 hZ j hj)
noncomputable def vhX11_close (j : Nat → rx_K) : List rx_K := [vX11_close_4 j, vX11_close_18 j, vX11_close_81 j, vX11_close_176 j, vX11_close_204 j]
theorem vlX11_close (hZ : zO b e D A X) : ∀ n k pc, [4, 18, 81, 176, 204][k]? = some pc → rx_OK (zV b e D A X) mX11_close 0 pc (rx_J (vhX11_close) n k) := rx_loop fun j hj k pc h => by
  match k, h with
  | 0, h =>
    have e9 := Option.some.inj (show some 4 = some pc from h)
    subst e9
    exact wX11_close_4 hZ j hj
  | 1, h =>
    have e9 := Option.some.inj (show some 18 = some pc from h)
    subst e9
    exact wX11_close_18 hZ j hj
  | 2, h =>
    have e9 := Option.some.inj (show some 81 = some pc from h)
    subst e9
    exact wX11_close_81 hZ j hj
  | 3, h =>
    have e9 := Option.some.inj (show some 176 = some pc from h)
    subst e9
    exact wX11_close_176 hZ j hj
  | 4, h =>
    have e9 := Option.some.inj (show some 204 = some pc from h)
    subst e9
    exact wX11_close_204 hZ j hj
  | _ + 5, h => exact absurd h (by simp)
noncomputable def FX11_close : List Nat → rx_H → Option (Nat × rx_H) := rx_ent 7 (vX11_close_0 (rx_J (vhX11_close) 4000000000))
theorem Met_X11_close (hZ : zO b e D A X) : rx_Met (zV b e D A X) 0 yX11_close mX11_close (FX11_close) := rx_entry hZ.1 (wX11_close_0 hZ _ (vlX11_close hZ 4000000000)) (by decide +kernel) rfl (fun h => by cases h)
end ZM29

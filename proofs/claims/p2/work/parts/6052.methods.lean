section ZM52
variable {b : Nat} {e : Nat → Value} {D : va_G} {A : Nat → ClassId} {X : State → Prop}
abbrev mX13_takesArgs : rx_M := (RX13, cX13_takesArgs, 6, (some .boolean), false)
theorem vy_X13_takesArgs : rx_Y (zV b e D A X) yX13_takesArgs mX13_takesArgs 2 := ⟨zw3431, zw431, by decide, by decide +kernel, by decide +kernel, by decide +kernel⟩
noncomputable def vX13_takesArgs_105 (j : Nat → rx_K) : rx_K := o_ret1 rx_isZ
set_option maxRecDepth 20000 in
theorem wX13_takesArgs_105 (hZ : zO b e D A X) (j : Nat → rx_K) (hj : ∀ k pc, [8][k]? = some pc → rx_OK (zV b e D A X) mX13_takesArgs 5 pc (j k)) : rx_OK (zV b e D A X) mX13_takesArgs 5 105 (vX13_takesArgs_105 j) := by
  unfold vX13_takesArgs_105
  exact s_zret rx_z_ok rfl dX13_takesArgs_105
noncomputable def vX13_takesArgs_104 (j : Nat → rx_K) : rx_K := o_const 0 ((vX13_takesArgs_105 j))
set_option maxRecDepth 20000 in
theorem wX13_takesArgs_104 (hZ : zO b e D A X) (j : Nat → rx_K) (hj : ∀ k pc, [8][k]? = some pc → rx_OK (zV b e D A X) mX13_takesArgs 5 pc (j k)) : rx_OK (zV b e D A X) mX13_takesArgs 5 104 (vX13_takesArgs_104 j) := by
  unfold vX13_takesArgs_104
  refine s_iconst dX13_takesArgs_104 (by decide +kernel) ?_
  exact (wX13_takesArgs_105 hZ j hj)
noncomputable def vX13_takesArgs_100 (j : Nat → rx_K) : rx_K := o_const 8 ((vX13_takesArgs_105 j))
set_option maxRecDepth 20000 in
theorem wX13_takesArgs_100 (hZ : zO b e D A X) (j : Nat → rx_K) (hj : ∀ k pc, [8][k]? = some pc → rx_OK (zV b e D A X) mX13_takesArgs 5 pc (j k)) : rx_OK (zV b e D A X) mX13_takesArgs 5 100 (vX13_takesArgs_100 j) := by
  unfold vX13_takesArgs_100
  refine s_iconst dX13_takesArgs_100 (by decide +kernel) ?_
  exact s_goto dX13_takesArgs_101 (by decide) (wX13_takesArgs_105 hZ j hj)
noncomputable def vX13_takesArgs_90 (j : Nat → rx_K) : rx_K := o_ld rx_isI 3 (o_ld rx_isR 0 (o_getf 13 55 (o_ld rx_isI 1 (o_ald 0 (o_c2 rx_eq (vX13_takesArgs_100 j) (vX13_takesArgs_104 j))))))
set_option maxRecDepth 20000 in
theorem wX13_takesArgs_90 (hZ : zO b e D A X) (j : Nat → rx_K) (hj : ∀ k pc, [8][k]? = some pc → rx_OK (zV b e D A X) mX13_takesArgs 5 pc (j k)) : rx_OK (zV b e D A X) mX13_takesArgs 5 90 (vX13_takesArgs_90 j) := by
  unfold vX13_takesArgs_90
  refine s_iload_n hZ.1 dX13_takesArgs_90 rfl ?_
  refine s_aload_n hZ.1 dX13_takesArgs_91 rfl ?_
  refine yg13_55 dX13_takesArgs_92 zw4176 ?_
  refine s_iload_n hZ.1 dX13_takesArgs_95 rfl ?_
  refine s_iald (tt := 0) rfl dX13_takesArgs_96 ?_
  exact s_icmp_ne dX13_takesArgs_97 (by decide) (wX13_takesArgs_104 hZ j hj) (wX13_takesArgs_100 hZ j hj)
noncomputable def vX13_takesArgs_85 (j : Nat → rx_K) : rx_K := o_ld rx_isI 4 (o_c1 rx_eq (vX13_takesArgs_104 j) (vX13_takesArgs_90 j))
set_option maxRecDepth 20000 in
theorem wX13_takesArgs_85 (hZ : zO b e D A X) (j : Nat → rx_K) (hj : ∀ k pc, [8][k]? = some pc → rx_OK (zV b e D A X) mX13_takesArgs 5 pc (j k)) : rx_OK (zV b e D A X) mX13_takesArgs 5 85 (vX13_takesArgs_85 j) := by
  unfold vX13_takesArgs_85
  refine s_iload hZ.1 dX13_takesArgs_85 ?_
  exact s_if_eq dX13_takesArgs_87 (by decide) (wX13_takesArgs_104 hZ j hj) (wX13_takesArgs_90 hZ j hj)
noncomputable def vX13_takesArgs_68 (j : Nat → rx_K) : rx_K := o_st rx_isI 4 (o_inc 3 (1) (o_ld rx_isR 0 (o_getf 13 80 (o_ld rx_isI 5 (o_ald 0 (o_st rx_isI 5 ((j 0))))))))
set_option maxRecDepth 20000 in
theorem wX13_takesArgs_68 (hZ : zO b e D A X) (j : Nat → rx_K) (hj : ∀ k pc, [8][k]? = some pc → rx_OK (zV b e D A X) mX13_takesArgs 5 pc (j k)) : rx_OK (zV b e D A X) mX13_takesArgs 5 68 (vX13_takesArgs_68 j) := by
  unfold vX13_takesArgs_68
  refine s_istore hZ.1 dX13_takesArgs_68 (Nat.le_of_ble_eq_true rfl) ?_
  refine s_iinc hZ.1 dX13_takesArgs_70 (Nat.le_of_ble_eq_true rfl) ?_
  refine s_aload_n hZ.1 dX13_takesArgs_73 rfl ?_
  refine yg13_80 dX13_takesArgs_74 zw4201 ?_
  refine s_iload hZ.1 dX13_takesArgs_77 ?_
  refine s_iald (tt := 0) rfl dX13_takesArgs_79 ?_
  refine s_istore hZ.1 dX13_takesArgs_80 (Nat.le_of_ble_eq_true rfl) ?_
  exact s_goto dX13_takesArgs_82 (by decide) (hj 0 8 rfl)
noncomputable def vX13_takesArgs_67 (j : Nat → rx_K) : rx_K := o_const 0 ((vX13_takesArgs_68 j))
set_option maxRecDepth 20000 in
theorem wX13_takesArgs_67 (hZ : zO b e D A X) (j : Nat → rx_K) (hj : ∀ k pc, [8][k]? = some pc → rx_OK (zV b e D A X) mX13_takesArgs 5 pc (j k)) : rx_OK (zV b e D A X) mX13_takesArgs 5 67 (vX13_takesArgs_67 j) := by
  unfold vX13_takesArgs_67
  refine s_iconst dX13_takesArgs_67 (by decide +kernel) ?_
  exact (wX13_takesArgs_68 hZ j hj)
noncomputable def vX13_takesArgs_63 (j : Nat → rx_K) : rx_K := o_const 8 ((vX13_takesArgs_68 j))
set_option maxRecDepth 20000 in
theorem wX13_takesArgs_63 (hZ : zO b e D A X) (j : Nat → rx_K) (hj : ∀ k pc, [8][k]? = some pc → rx_OK (zV b e D A X) mX13_takesArgs 5 pc (j k)) : rx_OK (zV b e D A X) mX13_takesArgs 5 63 (vX13_takesArgs_63 j) := by
  unfold vX13_takesArgs_63
  refine s_iconst dX13_takesArgs_63 (by decide +kernel) ?_
  exact s_goto dX13_takesArgs_64 (by decide) (wX13_takesArgs_68 hZ j hj)
noncomputable def vX13_takesArgs_55 (j : Nat → rx_K) : rx_K := o_bi (fun x y => x + y) (o_ald 1 (o_callV 2 13 FX13_fits (o_c1 rx_eq (vX13_takesArgs_67 j) (vX13_takesArgs_63 j))))
set_option maxRecDepth 20000 in
theorem wX13_takesArgs_55 (hZ : zO b e D A X) (j : Nat → rx_K) (hj : ∀ k pc, [8][k]? = some pc → rx_OK (zV b e D A X) mX13_takesArgs 5 pc (j k)) : rx_OK (zV b e D A X) mX13_takesArgs 5 55 (vX13_takesArgs_55 j) := by
  unfold vX13_takesArgs_55
  refine s_iadd dX13_takesArgs_55 ?_
  refine s_lald (tt := 1) rfl dX13_takesArgs_56 ?_
  refine s_callV hZ.1 (Met_X13_fits hZ) (Nat.le_of_ble_eq_true rfl) vy_X13_fits zcl13 zw3278 zw246 (Or.inl zw3276) dX13_takesArgs_57 ?_
  exact s_if_eq dX13_takesArgs_60 (by decide) (wX13_takesArgs_67 hZ j hj) (wX13_takesArgs_63 hZ j hj)
noncomputable def vX13_takesArgs_54 (j : Nat → rx_K) : rx_K := o_const 24 ((vX13_takesArgs_55 j))
set_option maxRecDepth 20000 in
theorem wX13_takesArgs_54 (hZ : zO b e D A X) (j : Nat → rx_K) (hj : ∀ k pc, [8][k]? = some pc → rx_OK (zV b e D A X) mX13_takesArgs 5 pc (j k)) : rx_OK (zV b e D A X) mX13_takesArgs 5 54 (vX13_takesArgs_54 j) := by
  unfold vX13_takesArgs_54
  refine s_iconst dX13_takesArgs_54 (by decide +kernel) ?_
  exact (wX13_takesArgs_55 hZ j hj)
noncomputable def vX13_takesArgs_50 (j : Nat → rx_K) : rx_K := o_ld rx_isI 3 ((vX13_takesArgs_55 j))
set_option maxRecDepth 20000 in
theorem wX13_takesArgs_50 (hZ : zO b e D A X) (j : Nat → rx_K) (hj : ∀ k pc, [8][k]? = some pc → rx_OK (zV b e D A X) mX13_takesArgs 5 pc (j k)) : rx_OK (zV b e D A X) mX13_takesArgs 5 50 (vX13_takesArgs_50 j) := by
  unfold vX13_takesArgs_50
  refine s_iload_n hZ.1 dX13_takesArgs_50 rfl ?_
  exact s_goto dX13_takesArgs_51 (by decide) (wX13_takesArgs_55 hZ j hj)
noncomputable def vX13_takesArgs_30 (j : Nat → rx_K) : rx_K := o_ld rx_isR 0 (o_ld rx_isR 0 (o_getf 13 76 (o_ld rx_isI 5 (o_ald 1 (o_ld rx_isR 0 (o_getf 13 56 (o_const 32 (o_ld rx_isI 1 (o_bi (fun x y => x * y) (o_ld rx_isI 3 (o_const 32 (o_c2 rx_lt (vX13_takesArgs_50 j) (vX13_takesArgs_54 j)))))))))))))
set_option maxRecDepth 20000 in
theorem wX13_takesArgs_30 (hZ : zO b e D A X) (j : Nat → rx_K) (hj : ∀ k pc, [8][k]? = some pc → rx_OK (zV b e D A X) mX13_takesArgs 5 pc (j k)) : rx_OK (zV b e D A X) mX13_takesArgs 5 30 (vX13_takesArgs_30 j) := by
  unfold vX13_takesArgs_30
  refine s_aload_n hZ.1 dX13_takesArgs_30 rfl ?_
  refine s_aload_n hZ.1 dX13_takesArgs_31 rfl ?_
  refine yg13_76 dX13_takesArgs_32 zw4197 ?_
  refine s_iload hZ.1 dX13_takesArgs_35 ?_
  refine s_lald (tt := 1) rfl dX13_takesArgs_37 ?_
  refine s_aload_n hZ.1 dX13_takesArgs_38 rfl ?_
  refine yg13_56 dX13_takesArgs_39 zw4177 ?_
  refine s_iconst dX13_takesArgs_42 (by decide +kernel) ?_
  refine s_iload_n hZ.1 dX13_takesArgs_43 rfl ?_
  refine s_imul dX13_takesArgs_44 ?_
  refine s_iload_n hZ.1 dX13_takesArgs_45 rfl ?_
  refine s_iconst dX13_takesArgs_46 (by decide +kernel) ?_
  exact s_icmp_ge dX13_takesArgs_47 (by decide) (wX13_takesArgs_54 hZ j hj) (wX13_takesArgs_50 hZ j hj)
noncomputable def vX13_takesArgs_20 (j : Nat → rx_K) : rx_K := o_ld rx_isI 3 (o_ld rx_isR 0 (o_getf 13 55 (o_ld rx_isI 1 (o_ald 0 (o_c2 rx_lt (vX13_takesArgs_30 j) (vX13_takesArgs_67 j))))))
set_option maxRecDepth 20000 in
theorem wX13_takesArgs_20 (hZ : zO b e D A X) (j : Nat → rx_K) (hj : ∀ k pc, [8][k]? = some pc → rx_OK (zV b e D A X) mX13_takesArgs 5 pc (j k)) : rx_OK (zV b e D A X) mX13_takesArgs 5 20 (vX13_takesArgs_20 j) := by
  unfold vX13_takesArgs_20
  refine s_iload_n hZ.1 dX13_takesArgs_20 rfl ?_
  refine s_aload_n hZ.1 dX13_takesArgs_21 rfl ?_
  refine yg13_55 dX13_takesArgs_22 zw4176 ?_
  refine s_iload_n hZ.1 dX13_takesArgs_25 rfl ?_
  refine s_iald (tt := 0) rfl dX13_takesArgs_26 ?_
  exact s_icmp_ge dX13_takesArgs_27 (by decide) (wX13_takesArgs_67 hZ j hj) (wX13_takesArgs_30 hZ j hj)
noncomputable def vX13_takesArgs_15 (j : Nat → rx_K) : rx_K := o_ld rx_isI 4 (o_c1 rx_eq (vX13_takesArgs_67 j) (vX13_takesArgs_20 j))
set_option maxRecDepth 20000 in
theorem wX13_takesArgs_15 (hZ : zO b e D A X) (j : Nat → rx_K) (hj : ∀ k pc, [8][k]? = some pc → rx_OK (zV b e D A X) mX13_takesArgs 5 pc (j k)) : rx_OK (zV b e D A X) mX13_takesArgs 5 15 (vX13_takesArgs_15 j) := by
  unfold vX13_takesArgs_15
  refine s_iload hZ.1 dX13_takesArgs_15 ?_
  exact s_if_eq dX13_takesArgs_17 (by decide) (wX13_takesArgs_67 hZ j hj) (wX13_takesArgs_20 hZ j hj)
noncomputable def vX13_takesArgs_8 (j : Nat → rx_K) : rx_K := o_ld rx_isI 5 (o_const 34359738352 (o_c2 rx_eq (vX13_takesArgs_85 j) (vX13_takesArgs_15 j)))
set_option maxRecDepth 20000 in
theorem wX13_takesArgs_8 (hZ : zO b e D A X) (j : Nat → rx_K) (hj : ∀ k pc, [8][k]? = some pc → rx_OK (zV b e D A X) mX13_takesArgs 5 pc (j k)) : rx_OK (zV b e D A X) mX13_takesArgs 5 8 (vX13_takesArgs_8 j) := by
  unfold vX13_takesArgs_8
  refine s_iload hZ.1 dX13_takesArgs_8 ?_
  refine s_bipush dX13_takesArgs_10 (by decide +kernel) ?_
  exact s_icmp_eq dX13_takesArgs_12 (by decide) (wX13_takesArgs_85 hZ j hj) (wX13_takesArgs_15 hZ j hj)
noncomputable def vX13_takesArgs_0 (j : Nat → rx_K) : rx_K := o_const 0 (o_st rx_isI 3 (o_const 8 (o_st rx_isI 4 (o_ld rx_isI 2 (o_st rx_isI 5 ((vX13_takesArgs_8 j)))))))
set_option maxRecDepth 20000 in
theorem wX13_takesArgs_0 (hZ : zO b e D A X) (j : Nat → rx_K) (hj : ∀ k pc, [8][k]? = some pc → rx_OK (zV b e D A X) mX13_takesArgs 5 pc (j k)) : rx_OK (zV b e D A X) mX13_takesArgs 5 0 (vX13_takesArgs_0 j) := by
  unfold vX13_takesArgs_0
  refine s_iconst dX13_takesArgs_0 (by decide +kernel) ?_
  refine s_istore_n hZ.1 dX13_takesArgs_1 rfl (Nat.le_of_ble_eq_true rfl) ?_
  refine s_iconst dX13_takesArgs_2 (by decide +kernel) ?_
  refine s_istore hZ.1 dX13_takesArgs_3 (Nat.le_of_ble_eq_true rfl) ?_
  refine s_iload_n hZ.1 dX13_takesArgs_5 rfl ?_
  refine s_istore hZ.1 dX13_takesArgs_6 (Nat.le_of_ble_eq_true rfl) ?_
  exact (wX13_takesArgs_8 hZ j hj)
noncomputable def vhX13_takesArgs (j : Nat → rx_K) : List rx_K := [vX13_takesArgs_8 j]
theorem vlX13_takesArgs (hZ : zO b e D A X) : ∀ n k pc, [8][k]? = some pc → rx_OK (zV b e D A X) mX13_takesArgs 5 pc (rx_J (vhX13_takesArgs) n k) := rx_loop fun j hj k pc h => by
  match k, h with
  | 0, h =>
    have e9 := Option.some.inj (show some 8 = some pc from h)
    subst e9
    exact wX13_takesArgs_8 hZ j hj
  | _ + 1, h => exact absurd h (by simp)
noncomputable def FX13_takesArgs : List Nat → rx_H → Option (Nat × rx_H) := rx_ent 6 (vX13_takesArgs_0 (rx_J (vhX13_takesArgs) 4000000000))
theorem Met_X13_takesArgs (hZ : zO b e D A X) : rx_Met (zV b e D A X) 5 yX13_takesArgs mX13_takesArgs (FX13_takesArgs) := rx_entry hZ.1 (wX13_takesArgs_0 hZ _ (vlX13_takesArgs hZ 4000000000)) (by decide +kernel) rfl (fun h => by cases h)
abbrev mX13_candidatesIn : rx_M := (RX13, cX13_candidatesIn, 11, none, false)
theorem vy_X13_candidatesIn : rx_Y (zV b e D A X) yX13_candidatesIn mX13_candidatesIn 4 := ⟨zw3427, zw431, by decide, by decide +kernel, by decide +kernel, by decide +kernel⟩
noncomputable def vX13_candidatesIn_207 (j : Nat → rx_K) : rx_K := o_ret0
set_option maxRecDepth 20000 in
theorem wX13_candidatesIn_207 (hZ : zO b e D A X) (j : Nat → rx_K) (hj : ∀ k pc, [3, 132][k]? = some pc → rx_OK (zV b e D A X) mX13_candidatesIn 169 pc (j k)) : rx_OK (zV b e D A X) mX13_candidatesIn 169 207 (vX13_candidatesIn_207 j) := by
  unfold vX13_candidatesIn_207
  exact s_vret rfl dX13_candidatesIn_207
noncomputable def vX13_candidatesIn_201 (j : Nat → rx_K) : rx_K := o_inc 6 (1) ((j 0))
set_option maxRecDepth 20000 in
theorem wX13_candidatesIn_201 (hZ : zO b e D A X) (j : Nat → rx_K) (hj : ∀ k pc, [3, 132][k]? = some pc → rx_OK (zV b e D A X) mX13_candidatesIn 169 pc (j k)) : rx_OK (zV b e D A X) mX13_candidatesIn 169 201 (vX13_candidatesIn_201 j) := by
  unfold vX13_candidatesIn_201
  refine s_iinc hZ.1 dX13_candidatesIn_201 (Nat.le_of_ble_eq_true rfl) ?_
  exact s_goto dX13_candidatesIn_204 (by decide) (hj 0 3 rfl)
noncomputable def vX13_candidatesIn_180 (j : Nat → rx_K) : rx_K := o_ld rx_isR 0 (o_getf 13 115 (o_ld rx_isR 0 (o_getf 13 116 (o_ld rx_isI 7 (o_ast 0 (fun v => v) rx_isI (o_ld rx_isR 0 (o_dup (o_getf 13 116 (o_const 8 (o_bi (fun x y => x + y) (o_putf rx_isI 13 116 ((vX13_candidatesIn_201 j)))))))))))))
set_option maxRecDepth 20000 in
theorem wX13_candidatesIn_180 (hZ : zO b e D A X) (j : Nat → rx_K) (hj : ∀ k pc, [3, 132][k]? = some pc → rx_OK (zV b e D A X) mX13_candidatesIn 169 pc (j k)) : rx_OK (zV b e D A X) mX13_candidatesIn 169 180 (vX13_candidatesIn_180 j) := by
  unfold vX13_candidatesIn_180
  refine s_aload_n hZ.1 dX13_candidatesIn_180 rfl ?_
  refine yg13_115 dX13_candidatesIn_181 zw4235 ?_
  refine s_aload_n hZ.1 dX13_candidatesIn_184 rfl ?_
  refine yg13_116 dX13_candidatesIn_185 zw4236 ?_
  refine s_iload hZ.1 dX13_candidatesIn_188 ?_
  refine s_iast hZ.1 (tt := 0) rfl dX13_candidatesIn_190 ?_
  refine s_aload_n hZ.1 dX13_candidatesIn_191 rfl ?_
  refine s_dup hZ.1 dX13_candidatesIn_192 ?_
  refine yg13_116 dX13_candidatesIn_193 zw4236 ?_
  refine s_iconst dX13_candidatesIn_196 (by decide +kernel) ?_
  refine s_iadd dX13_candidatesIn_197 ?_
  refine yp13_116 hZ.1 dX13_candidatesIn_198 zw4236 ?_
  exact (wX13_candidatesIn_201 hZ j hj)
noncomputable def vX13_candidatesIn_175 (j : Nat → rx_K) : rx_K := o_ld rx_isI 9 (o_c1 rx_eq (vX13_candidatesIn_180 j) (vX13_candidatesIn_201 j))
set_option maxRecDepth 20000 in
theorem wX13_candidatesIn_175 (hZ : zO b e D A X) (j : Nat → rx_K) (hj : ∀ k pc, [3, 132][k]? = some pc → rx_OK (zV b e D A X) mX13_candidatesIn 169 pc (j k)) : rx_OK (zV b e D A X) mX13_candidatesIn 169 175 (vX13_candidatesIn_175 j) := by
  unfold vX13_candidatesIn_175
  refine s_iload hZ.1 dX13_candidatesIn_175 ?_
  exact s_if_ne dX13_candidatesIn_177 (by decide) (wX13_candidatesIn_201 hZ j hj) (wX13_candidatesIn_180 hZ j hj)
noncomputable def vX13_candidatesIn_167 (j : Nat → rx_K) : rx_K := o_st rx_isI 9 (o_inc 10 (1) ((j 1)))
set_option maxRecDepth 20000 in
theorem wX13_candidatesIn_167 (hZ : zO b e D A X) (j : Nat → rx_K) (hj : ∀ k pc, [3, 132][k]? = some pc → rx_OK (zV b e D A X) mX13_candidatesIn 169 pc (j k)) : rx_OK (zV b e D A X) mX13_candidatesIn 169 167 (vX13_candidatesIn_167 j) := by
  unfold vX13_candidatesIn_167
  refine s_istore hZ.1 dX13_candidatesIn_167 (Nat.le_of_ble_eq_true rfl) ?_
  refine s_iinc hZ.1 dX13_candidatesIn_169 (Nat.le_of_ble_eq_true rfl) ?_
  exact s_goto dX13_candidatesIn_172 (by decide) (hj 1 132 rfl)
noncomputable def vX13_candidatesIn_166 (j : Nat → rx_K) : rx_K := o_const 0 ((vX13_candidatesIn_167 j))
set_option maxRecDepth 20000 in
theorem wX13_candidatesIn_166 (hZ : zO b e D A X) (j : Nat → rx_K) (hj : ∀ k pc, [3, 132][k]? = some pc → rx_OK (zV b e D A X) mX13_candidatesIn 169 pc (j k)) : rx_OK (zV b e D A X) mX13_candidatesIn 169 166 (vX13_candidatesIn_166 j) := by
  unfold vX13_candidatesIn_166
  refine s_iconst dX13_candidatesIn_166 (by decide +kernel) ?_
  exact (wX13_candidatesIn_167 hZ j hj)
noncomputable def vX13_candidatesIn_162 (j : Nat → rx_K) : rx_K := o_const 8 ((vX13_candidatesIn_167 j))
set_option maxRecDepth 20000 in
theorem wX13_candidatesIn_162 (hZ : zO b e D A X) (j : Nat → rx_K) (hj : ∀ k pc, [3, 132][k]? = some pc → rx_OK (zV b e D A X) mX13_candidatesIn 169 pc (j k)) : rx_OK (zV b e D A X) mX13_candidatesIn 169 162 (vX13_candidatesIn_162 j) := by
  unfold vX13_candidatesIn_162
  refine s_iconst dX13_candidatesIn_162 (by decide +kernel) ?_
  exact s_goto dX13_candidatesIn_163 (by decide) (wX13_candidatesIn_167 hZ j hj)
noncomputable def vX13_candidatesIn_146 (j : Nat → rx_K) : rx_K := o_ld rx_isR 0 (o_ld rx_isR 0 (o_getf 13 115 (o_ld rx_isI 10 (o_ald 0 (o_ld rx_isI 7 (o_callV 2 13 FX13_sameParams (o_c1 rx_eq (vX13_candidatesIn_166 j) (vX13_candidatesIn_162 j))))))))
set_option maxRecDepth 20000 in
theorem wX13_candidatesIn_146 (hZ : zO b e D A X) (j : Nat → rx_K) (hj : ∀ k pc, [3, 132][k]? = some pc → rx_OK (zV b e D A X) mX13_candidatesIn 169 pc (j k)) : rx_OK (zV b e D A X) mX13_candidatesIn 169 146 (vX13_candidatesIn_146 j) := by
  unfold vX13_candidatesIn_146
  refine s_aload_n hZ.1 dX13_candidatesIn_146 rfl ?_
  refine s_aload_n hZ.1 dX13_candidatesIn_147 rfl ?_
  refine yg13_115 dX13_candidatesIn_148 zw4235 ?_
  refine s_iload hZ.1 dX13_candidatesIn_151 ?_
  refine s_iald (tt := 0) rfl dX13_candidatesIn_153 ?_
  refine s_iload hZ.1 dX13_candidatesIn_154 ?_
  refine s_callV hZ.1 (Met_X13_sameParams hZ) (Nat.le_of_ble_eq_true rfl) vy_X13_sameParams zcl13 zw3243 zw238 (Or.inl zw3241) dX13_candidatesIn_156 ?_
  exact s_if_eq dX13_candidatesIn_159 (by decide) (wX13_candidatesIn_166 hZ j hj) (wX13_candidatesIn_162 hZ j hj)
noncomputable def vX13_candidatesIn_141 (j : Nat → rx_K) : rx_K := o_ld rx_isI 9 (o_c1 rx_eq (vX13_candidatesIn_146 j) (vX13_candidatesIn_162 j))
set_option maxRecDepth 20000 in
theorem wX13_candidatesIn_141 (hZ : zO b e D A X) (j : Nat → rx_K) (hj : ∀ k pc, [3, 132][k]? = some pc → rx_OK (zV b e D A X) mX13_candidatesIn 169 pc (j k)) : rx_OK (zV b e D A X) mX13_candidatesIn 169 141 (vX13_candidatesIn_141 j) := by
  unfold vX13_candidatesIn_141
  refine s_iload hZ.1 dX13_candidatesIn_141 ?_
  exact s_if_ne dX13_candidatesIn_143 (by decide) (wX13_candidatesIn_162 hZ j hj) (wX13_candidatesIn_146 hZ j hj)
noncomputable def vX13_candidatesIn_132 (j : Nat → rx_K) : rx_K := o_ld rx_isI 10 (o_ld rx_isR 0 (o_getf 13 116 (o_c2 rx_lt (vX13_candidatesIn_141 j) (vX13_candidatesIn_175 j))))
set_option maxRecDepth 20000 in
theorem wX13_candidatesIn_132 (hZ : zO b e D A X) (j : Nat → rx_K) (hj : ∀ k pc, [3, 132][k]? = some pc → rx_OK (zV b e D A X) mX13_candidatesIn 169 pc (j k)) : rx_OK (zV b e D A X) mX13_candidatesIn 169 132 (vX13_candidatesIn_132 j) := by
  unfold vX13_candidatesIn_132
  refine s_iload hZ.1 dX13_candidatesIn_132 ?_
  refine s_aload_n hZ.1 dX13_candidatesIn_134 rfl ?_
  refine yg13_116 dX13_candidatesIn_135 zw4236 ?_
  exact s_icmp_ge dX13_candidatesIn_138 (by decide) (wX13_candidatesIn_175 hZ j hj) (wX13_candidatesIn_141 hZ j hj)
noncomputable def vX13_candidatesIn_126 (j : Nat → rx_K) : rx_K := o_const 0 (o_st rx_isI 9 (o_const 0 (o_st rx_isI 10 ((vX13_candidatesIn_132 j)))))
set_option maxRecDepth 20000 in
theorem wX13_candidatesIn_126 (hZ : zO b e D A X) (j : Nat → rx_K) (hj : ∀ k pc, [3, 132][k]? = some pc → rx_OK (zV b e D A X) mX13_candidatesIn 169 pc (j k)) : rx_OK (zV b e D A X) mX13_candidatesIn 169 126 (vX13_candidatesIn_126 j) := by
  unfold vX13_candidatesIn_126
  refine s_iconst dX13_candidatesIn_126 (by decide +kernel) ?_
  refine s_istore hZ.1 dX13_candidatesIn_127 (Nat.le_of_ble_eq_true rfl) ?_
  refine s_iconst dX13_candidatesIn_129 (by decide +kernel) ?_
  refine s_istore hZ.1 dX13_candidatesIn_130 (Nat.le_of_ble_eq_true rfl) ?_
  exact (wX13_candidatesIn_132 hZ j hj)
noncomputable def vX13_candidatesIn_112 (j : Nat → rx_K) : rx_K := o_ld rx_isR 0 (o_ld rx_isI 7 (o_ld rx_isI 2 (o_ld rx_isR 0 (o_getf 13 109 (o_callV 3 13 FX13_isLetMember (o_c1 rx_eq (vX13_candidatesIn_201 j) (vX13_candidatesIn_126 j)))))))
set_option maxRecDepth 20000 in
theorem wX13_candidatesIn_112 (hZ : zO b e D A X) (j : Nat → rx_K) (hj : ∀ k pc, [3, 132][k]? = some pc → rx_OK (zV b e D A X) mX13_candidatesIn 169 pc (j k)) : rx_OK (zV b e D A X) mX13_candidatesIn 169 112 (vX13_candidatesIn_112 j) := by
  unfold vX13_candidatesIn_112
  refine s_aload_n hZ.1 dX13_candidatesIn_112 rfl ?_
  refine s_iload hZ.1 dX13_candidatesIn_113 ?_
  refine s_iload_n hZ.1 dX13_candidatesIn_115 rfl ?_
  refine s_aload_n hZ.1 dX13_candidatesIn_116 rfl ?_
  refine yg13_109 dX13_candidatesIn_117 zw4229 ?_
  refine s_callV hZ.1 (Met_X13_isLetMember hZ) (Nat.le_of_ble_eq_true rfl) vy_X13_isLetMember zcl13 zw3355 zw264 (Or.inl zw3353) dX13_candidatesIn_120 ?_
  exact s_if_eq dX13_candidatesIn_123 (by decide) (wX13_candidatesIn_201 hZ j hj) (wX13_candidatesIn_126 hZ j hj)
noncomputable def vX13_candidatesIn_101 (j : Nat → rx_K) : rx_K := o_ld rx_isR 0 (o_ld rx_isI 7 (o_ld rx_isI 5 (o_callV 2 13 FX13_takesArgs (o_c1 rx_eq (vX13_candidatesIn_201 j) (vX13_candidatesIn_112 j)))))
set_option maxRecDepth 20000 in
theorem wX13_candidatesIn_101 (hZ : zO b e D A X) (j : Nat → rx_K) (hj : ∀ k pc, [3, 132][k]? = some pc → rx_OK (zV b e D A X) mX13_candidatesIn 169 pc (j k)) : rx_OK (zV b e D A X) mX13_candidatesIn 169 101 (vX13_candidatesIn_101 j) := by
  unfold vX13_candidatesIn_101
  refine s_aload_n hZ.1 dX13_candidatesIn_101 rfl ?_
  refine s_iload hZ.1 dX13_candidatesIn_102 ?_
  refine s_iload hZ.1 dX13_candidatesIn_104 ?_
  refine s_callV hZ.1 (Met_X13_takesArgs hZ) (Nat.le_of_ble_eq_true rfl) vy_X13_takesArgs zcl13 zw3430 zw282 (Or.inl zw3428) dX13_candidatesIn_106 ?_
  exact s_if_eq dX13_candidatesIn_109 (by decide) (wX13_candidatesIn_201 hZ j hj) (wX13_candidatesIn_112 hZ j hj)
noncomputable def vX13_candidatesIn_94 (j : Nat → rx_K) : rx_K := o_st rx_isI 8 (o_ld rx_isI 8 (o_c1 rx_eq (vX13_candidatesIn_201 j) (vX13_candidatesIn_101 j)))
set_option maxRecDepth 20000 in
theorem wX13_candidatesIn_94 (hZ : zO b e D A X) (j : Nat → rx_K) (hj : ∀ k pc, [3, 132][k]? = some pc → rx_OK (zV b e D A X) mX13_candidatesIn 169 pc (j k)) : rx_OK (zV b e D A X) mX13_candidatesIn 169 94 (vX13_candidatesIn_94 j) := by
  unfold vX13_candidatesIn_94
  refine s_istore hZ.1 dX13_candidatesIn_94 (Nat.le_of_ble_eq_true rfl) ?_
  refine s_iload hZ.1 dX13_candidatesIn_96 ?_
  exact s_if_eq dX13_candidatesIn_98 (by decide) (wX13_candidatesIn_201 hZ j hj) (wX13_candidatesIn_101 hZ j hj)
noncomputable def vX13_candidatesIn_93 (j : Nat → rx_K) : rx_K := o_const 0 ((vX13_candidatesIn_94 j))
set_option maxRecDepth 20000 in
theorem wX13_candidatesIn_93 (hZ : zO b e D A X) (j : Nat → rx_K) (hj : ∀ k pc, [3, 132][k]? = some pc → rx_OK (zV b e D A X) mX13_candidatesIn 169 pc (j k)) : rx_OK (zV b e D A X) mX13_candidatesIn 169 93 (vX13_candidatesIn_93 j) := by
  unfold vX13_candidatesIn_93
  refine s_iconst dX13_candidatesIn_93 (by decide +kernel) ?_
  exact (wX13_candidatesIn_94 hZ j hj)
noncomputable def vX13_candidatesIn_89 (j : Nat → rx_K) : rx_K := o_const 8 ((vX13_candidatesIn_94 j))
set_option maxRecDepth 20000 in
theorem wX13_candidatesIn_89 (hZ : zO b e D A X) (j : Nat → rx_K) (hj : ∀ k pc, [3, 132][k]? = some pc → rx_OK (zV b e D A X) mX13_candidatesIn 169 pc (j k)) : rx_OK (zV b e D A X) mX13_candidatesIn 169 89 (vX13_candidatesIn_89 j) := by
  unfold vX13_candidatesIn_89
  refine s_iconst dX13_candidatesIn_89 (by decide +kernel) ?_
  exact s_goto dX13_candidatesIn_90 (by decide) (wX13_candidatesIn_94 hZ j hj)
noncomputable def vX13_candidatesIn_84 (j : Nat → rx_K) : rx_K := o_ld rx_isI 1 (o_ld rx_isI 2 (o_c2 rx_eq (vX13_candidatesIn_89 j) (vX13_candidatesIn_93 j)))
set_option maxRecDepth 20000 in
theorem wX13_candidatesIn_84 (hZ : zO b e D A X) (j : Nat → rx_K) (hj : ∀ k pc, [3, 132][k]? = some pc → rx_OK (zV b e D A X) mX13_candidatesIn 169 pc (j k)) : rx_OK (zV b e D A X) mX13_candidatesIn 169 84 (vX13_candidatesIn_84 j) := by
  unfold vX13_candidatesIn_84
  refine s_iload_n hZ.1 dX13_candidatesIn_84 rfl ?_
  refine s_iload_n hZ.1 dX13_candidatesIn_85 rfl ?_
  exact s_icmp_ne dX13_candidatesIn_86 (by decide) (wX13_candidatesIn_93 hZ j hj) (wX13_candidatesIn_89 hZ j hj)
noncomputable def vX13_candidatesIn_76 (j : Nat → rx_K) : rx_K := o_ld rx_isR 0 (o_ld rx_isI 1 (o_callV 1 13 FX13_isFace (o_c1 rx_eq (vX13_candidatesIn_89 j) (vX13_candidatesIn_84 j))))
set_option maxRecDepth 20000 in
theorem wX13_candidatesIn_76 (hZ : zO b e D A X) (j : Nat → rx_K) (hj : ∀ k pc, [3, 132][k]? = some pc → rx_OK (zV b e D A X) mX13_candidatesIn 169 pc (j k)) : rx_OK (zV b e D A X) mX13_candidatesIn 169 76 (vX13_candidatesIn_76 j) := by
  unfold vX13_candidatesIn_76
  refine s_aload_n hZ.1 dX13_candidatesIn_76 rfl ?_
  refine s_iload_n hZ.1 dX13_candidatesIn_77 rfl ?_
  refine s_callV hZ.1 (Met_X13_isFace hZ) (Nat.le_of_ble_eq_true rfl) vy_X13_isFace zcl13 zw3192 zw227 (Or.inl zw3190) dX13_candidatesIn_78 ?_
  exact s_if_eq dX13_candidatesIn_81 (by decide) (wX13_candidatesIn_89 hZ j hj) (wX13_candidatesIn_84 hZ j hj)
noncomputable def vX13_candidatesIn_66 (j : Nat → rx_K) : rx_K := o_ld rx_isR 0 (o_getf 13 45 (o_ld rx_isI 7 (o_ald 3 (o_c1 rx_eq (vX13_candidatesIn_89 j) (vX13_candidatesIn_76 j)))))
set_option maxRecDepth 20000 in
theorem wX13_candidatesIn_66 (hZ : zO b e D A X) (j : Nat → rx_K) (hj : ∀ k pc, [3, 132][k]? = some pc → rx_OK (zV b e D A X) mX13_candidatesIn 169 pc (j k)) : rx_OK (zV b e D A X) mX13_candidatesIn 169 66 (vX13_candidatesIn_66 j) := by
  unfold vX13_candidatesIn_66
  refine s_aload_n hZ.1 dX13_candidatesIn_66 rfl ?_
  refine yg13_45 dX13_candidatesIn_67 zw4166 ?_
  refine s_iload hZ.1 dX13_candidatesIn_70 ?_
  refine s_zald (tt := 3) rfl dX13_candidatesIn_72 ?_
  exact s_if_eq dX13_candidatesIn_73 (by decide) (wX13_candidatesIn_89 hZ j hj) (wX13_candidatesIn_76 hZ j hj)
noncomputable def vX13_candidatesIn_56 (j : Nat → rx_K) : rx_K := o_ld rx_isR 0 (o_getf 13 49 (o_ld rx_isI 7 (o_ald 3 (o_c1 rx_eq (vX13_candidatesIn_66 j) (vX13_candidatesIn_93 j)))))
set_option maxRecDepth 20000 in
theorem wX13_candidatesIn_56 (hZ : zO b e D A X) (j : Nat → rx_K) (hj : ∀ k pc, [3, 132][k]? = some pc → rx_OK (zV b e D A X) mX13_candidatesIn 169 pc (j k)) : rx_OK (zV b e D A X) mX13_candidatesIn 169 56 (vX13_candidatesIn_56 j) := by
  unfold vX13_candidatesIn_56
  refine s_aload_n hZ.1 dX13_candidatesIn_56 rfl ?_
  refine yg13_49 dX13_candidatesIn_57 zw4170 ?_
  refine s_iload hZ.1 dX13_candidatesIn_60 ?_
  refine s_zald (tt := 3) rfl dX13_candidatesIn_62 ?_
  exact s_if_ne dX13_candidatesIn_63 (by decide) (wX13_candidatesIn_93 hZ j hj) (wX13_candidatesIn_66 hZ j hj)
noncomputable def vX13_candidatesIn_44 (j : Nat → rx_K) : rx_K := o_ld rx_isR 0 (o_getf 13 51 (o_ld rx_isI 7 (o_ald 1 (o_ld rx_isL 3 (o_bc (fun x y => lg_cmp x y) (o_c1 rx_eq (vX13_candidatesIn_56 j) (vX13_candidatesIn_93 j)))))))
set_option maxRecDepth 20000 in
theorem wX13_candidatesIn_44 (hZ : zO b e D A X) (j : Nat → rx_K) (hj : ∀ k pc, [3, 132][k]? = some pc → rx_OK (zV b e D A X) mX13_candidatesIn 169 pc (j k)) : rx_OK (zV b e D A X) mX13_candidatesIn 169 44 (vX13_candidatesIn_44 j) := by
  unfold vX13_candidatesIn_44
  refine s_aload_n hZ.1 dX13_candidatesIn_44 rfl ?_
  refine yg13_51 dX13_candidatesIn_45 zw4172 ?_
  refine s_iload hZ.1 dX13_candidatesIn_48 ?_
  refine s_lald (tt := 1) rfl dX13_candidatesIn_50 ?_
  refine s_lload_n hZ.1 dX13_candidatesIn_51 rfl ?_
  refine s_lcmp dX13_candidatesIn_52 ?_
  exact s_if_ne dX13_candidatesIn_53 (by decide) (wX13_candidatesIn_93 hZ j hj) (wX13_candidatesIn_56 hZ j hj)
noncomputable def vX13_candidatesIn_41 (j : Nat → rx_K) : rx_K := o_c2 rx_eq (vX13_candidatesIn_44 j) (vX13_candidatesIn_93 j)
set_option maxRecDepth 20000 in
theorem wX13_candidatesIn_41 (hZ : zO b e D A X) (j : Nat → rx_K) (hj : ∀ k pc, [3, 132][k]? = some pc → rx_OK (zV b e D A X) mX13_candidatesIn 169 pc (j k)) : rx_OK (zV b e D A X) mX13_candidatesIn 169 41 (vX13_candidatesIn_41 j) := by
  unfold vX13_candidatesIn_41
  exact s_icmp_ne dX13_candidatesIn_41 (by decide) (wX13_candidatesIn_93 hZ j hj) (wX13_candidatesIn_44 hZ j hj)
noncomputable def vX13_candidatesIn_40 (j : Nat → rx_K) : rx_K := o_const 8 ((vX13_candidatesIn_41 j))
set_option maxRecDepth 20000 in
theorem wX13_candidatesIn_40 (hZ : zO b e D A X) (j : Nat → rx_K) (hj : ∀ k pc, [3, 132][k]? = some pc → rx_OK (zV b e D A X) mX13_candidatesIn 169 pc (j k)) : rx_OK (zV b e D A X) mX13_candidatesIn 169 40 (vX13_candidatesIn_40 j) := by
  unfold vX13_candidatesIn_40
  refine s_iconst dX13_candidatesIn_40 (by decide +kernel) ?_
  exact (wX13_candidatesIn_41 hZ j hj)
noncomputable def vX13_candidatesIn_36 (j : Nat → rx_K) : rx_K := o_const 16 ((vX13_candidatesIn_41 j))
set_option maxRecDepth 20000 in
theorem wX13_candidatesIn_36 (hZ : zO b e D A X) (j : Nat → rx_K) (hj : ∀ k pc, [3, 132][k]? = some pc → rx_OK (zV b e D A X) mX13_candidatesIn 169 pc (j k)) : rx_OK (zV b e D A X) mX13_candidatesIn 169 36 (vX13_candidatesIn_36 j) := by
  unfold vX13_candidatesIn_36
  refine s_iconst dX13_candidatesIn_36 (by decide +kernel) ?_
  exact s_goto dX13_candidatesIn_37 (by decide) (wX13_candidatesIn_41 hZ j hj)
noncomputable def vX13_candidatesIn_14 (j : Nat → rx_K) : rx_K := o_ld rx_isI 1 (o_const 272 (o_bi (fun x y => x * y) (o_ld rx_isI 6 (o_bi (fun x y => x + y) (o_st rx_isI 7 (o_ld rx_isR 0 (o_getf 13 42 (o_ld rx_isI 7 (o_ald 0 (o_ld rx_isL 3 (o_const 1 (o_bc (fun x y => lg_cmp x y) (o_c1 rx_eq (vX13_candidatesIn_36 j) (vX13_candidatesIn_40 j))))))))))))))
set_option maxRecDepth 20000 in
theorem wX13_candidatesIn_14 (hZ : zO b e D A X) (j : Nat → rx_K) (hj : ∀ k pc, [3, 132][k]? = some pc → rx_OK (zV b e D A X) mX13_candidatesIn 169 pc (j k)) : rx_OK (zV b e D A X) mX13_candidatesIn 169 14 (vX13_candidatesIn_14 j) := by
  unfold vX13_candidatesIn_14
  refine s_iload_n hZ.1 dX13_candidatesIn_14 rfl ?_
  refine s_bipush dX13_candidatesIn_15 (by decide +kernel) ?_
  refine s_imul dX13_candidatesIn_17 ?_
  refine s_iload hZ.1 dX13_candidatesIn_18 ?_
  refine s_iadd dX13_candidatesIn_20 ?_
  refine s_istore hZ.1 dX13_candidatesIn_21 (Nat.le_of_ble_eq_true rfl) ?_
  refine s_aload_n hZ.1 dX13_candidatesIn_23 rfl ?_
  refine yg13_42 dX13_candidatesIn_24 zw4163 ?_
  refine s_iload hZ.1 dX13_candidatesIn_27 ?_
  refine s_iald (tt := 0) rfl dX13_candidatesIn_29 ?_
  refine s_lload_n hZ.1 dX13_candidatesIn_30 rfl ?_
  refine s_lconst dX13_candidatesIn_31 (by decide +kernel) ?_
  refine s_lcmp dX13_candidatesIn_32 ?_
  exact s_if_ne dX13_candidatesIn_33 (by decide) (wX13_candidatesIn_40 hZ j hj) (wX13_candidatesIn_36 hZ j hj)
noncomputable def vX13_candidatesIn_3 (j : Nat → rx_K) : rx_K := o_ld rx_isI 6 (o_ld rx_isR 0 (o_getf 13 41 (o_ld rx_isI 1 (o_ald 0 (o_c2 rx_lt (vX13_candidatesIn_14 j) (vX13_candidatesIn_207 j))))))
set_option maxRecDepth 20000 in
theorem wX13_candidatesIn_3 (hZ : zO b e D A X) (j : Nat → rx_K) (hj : ∀ k pc, [3, 132][k]? = some pc → rx_OK (zV b e D A X) mX13_candidatesIn 169 pc (j k)) : rx_OK (zV b e D A X) mX13_candidatesIn 169 3 (vX13_candidatesIn_3 j) := by
  unfold vX13_candidatesIn_3
  refine s_iload hZ.1 dX13_candidatesIn_3 ?_
  refine s_aload_n hZ.1 dX13_candidatesIn_5 rfl ?_
  refine yg13_41 dX13_candidatesIn_6 zw4162 ?_
  refine s_iload_n hZ.1 dX13_candidatesIn_9 rfl ?_
  refine s_iald (tt := 0) rfl dX13_candidatesIn_10 ?_
  exact s_icmp_ge dX13_candidatesIn_11 (by decide) (wX13_candidatesIn_207 hZ j hj) (wX13_candidatesIn_14 hZ j hj)
noncomputable def vX13_candidatesIn_0 (j : Nat → rx_K) : rx_K := o_const 0 (o_st rx_isI 6 ((vX13_candidatesIn_3 j)))
set_option maxRecDepth 20000 in
theorem wX13_candidatesIn_0 (hZ : zO b e D A X) (j : Nat → rx_K) (hj : ∀ k pc, [3, 132][k]? = some pc → rx_OK (zV b e D A X) mX13_candidatesIn 169 pc (j k)) : rx_OK (zV b e D A X) mX13_candidatesIn 169 0 (vX13_candidatesIn_0 j) := by
  unfold vX13_candidatesIn_0
  refine s_iconst dX13_candidatesIn_0 (by decide +kernel) ?_
  refine s_istore hZ.1 dX13_candidatesIn_1 (Nat.le_of_ble_eq_true rfl) ?_
  exact (wX13_candidatesIn_3 hZ j hj)
noncomputable def vhX13_candidatesIn (j : Nat → rx_K) : List rx_K := [vX13_candidatesIn_3 j, vX13_candidatesIn_132 j]
theorem vlX13_candidatesIn (hZ : zO b e D A X) : ∀ n k pc, [3, 132][k]? = some pc → rx_OK (zV b e D A X) mX13_candidatesIn 169 pc (rx_J (vhX13_candidatesIn) n k) := rx_loop fun j hj k pc h => by
  match k, h with
  | 0, h =>
    have e9 := Option.some.inj (show some 3 = some pc from h)
    subst e9
    exact wX13_candidatesIn_3 hZ j hj
  | 1, h =>
    have e9 := Option.some.inj (show some 132 = some pc from h)
    subst e9
    exact wX13_candidatesIn_132 hZ j hj
  | _ + 2, h => exact absurd h (by simp)
noncomputable def FX13_candidatesIn : List Nat → rx_H → Option (Nat × rx_H) := rx_ent 11 (vX13_candidatesIn_0 (rx_J (vhX13_candidatesIn) 4000000000))
theorem Met_X13_candidatesIn (hZ : zO b e D A X) : rx_Met (zV b e D A X) 169 yX13_candidatesIn mX13_candidatesIn (FX13_candidatesIn) := rx_entry hZ.1 (wX13_candidatesIn_0 hZ _ (vlX13_candidatesIn hZ 4000000000)) (by decide +kernel) rfl (fun h => by cases h)
abbrev mX13_meant : rx_M := (RX13, cX13_meant, 8, (some .int), false)
theorem vy_X13_meant : rx_Y (zV b e D A X) yX13_meant mX13_meant 3 := ⟨zw3423, zw431, by decide, by decide +kernel, by decide +kernel, by decide +kernel⟩
noncomputable def vX13_meant_89 (j : Nat → rx_K) : rx_K := o_ld rx_isR 0 (o_callV 0 13 FX13_best (o_ret1 rx_isI))
set_option maxRecDepth 20000 in
theorem wX13_meant_89 (hZ : zO b e D A X) (j : Nat → rx_K) (hj : ∀ k pc, [19, 61][k]? = some pc → rx_OK (zV b e D A X) mX13_meant 170 pc (j k)) : rx_OK (zV b e D A X) mX13_meant 170 89 (vX13_meant_89 j) := by
  unfold vX13_meant_89
  refine s_aload_n hZ.1 dX13_meant_89 rfl ?_
  refine s_callV hZ.1 (Met_X13_best hZ) (Nat.le_of_ble_eq_true rfl) vy_X13_best zcl13 zw3434 zw283 (Or.inl zw3432) dX13_meant_90 ?_
  exact s_iret hZ.1 rfl dX13_meant_93
noncomputable def vX13_meant_68 (j : Nat → rx_K) : rx_K := o_ld rx_isR 0 (o_ld rx_isR 0 (o_getf 13 117 (o_ld rx_isI 7 (o_ald 0 (o_ld rx_isI 1 (o_ld rx_isL 2 (o_ld rx_isI 4 (o_callV 4 13 FX13_candidatesIn (o_inc 7 (1) ((j 1)))))))))))
set_option maxRecDepth 20000 in
theorem wX13_meant_68 (hZ : zO b e D A X) (j : Nat → rx_K) (hj : ∀ k pc, [19, 61][k]? = some pc → rx_OK (zV b e D A X) mX13_meant 170 pc (j k)) : rx_OK (zV b e D A X) mX13_meant 170 68 (vX13_meant_68 j) := by
  unfold vX13_meant_68
  refine s_aload_n hZ.1 dX13_meant_68 rfl ?_
  refine s_aload_n hZ.1 dX13_meant_69 rfl ?_
  refine yg13_117 dX13_meant_70 zw4237 ?_
  refine s_iload hZ.1 dX13_meant_73 ?_
  refine s_iald (tt := 0) rfl dX13_meant_75 ?_
  refine s_iload_n hZ.1 dX13_meant_76 rfl ?_
  refine s_lload_n hZ.1 dX13_meant_77 rfl ?_
  refine s_iload hZ.1 dX13_meant_78 ?_
  refine s_callV hZ.1 (Met_X13_candidatesIn hZ) (Nat.le_of_ble_eq_true rfl) vy_X13_candidatesIn zcl13 zw3426 zw281 (Or.inl zw3424) dX13_meant_80 ?_
  refine s_iinc hZ.1 dX13_meant_83 (Nat.le_of_ble_eq_true rfl) ?_
  exact s_goto dX13_meant_86 (by decide) (hj 1 61 rfl)
noncomputable def vX13_meant_61 (j : Nat → rx_K) : rx_K := o_ld rx_isI 7 (o_ld rx_isI 6 (o_c2 rx_lt (vX13_meant_68 j) (vX13_meant_89 j)))
set_option maxRecDepth 20000 in
theorem wX13_meant_61 (hZ : zO b e D A X) (j : Nat → rx_K) (hj : ∀ k pc, [19, 61][k]? = some pc → rx_OK (zV b e D A X) mX13_meant 170 pc (j k)) : rx_OK (zV b e D A X) mX13_meant 170 61 (vX13_meant_61 j) := by
  unfold vX13_meant_61
  refine s_iload hZ.1 dX13_meant_61 ?_
  refine s_iload hZ.1 dX13_meant_63 ?_
  exact s_icmp_ge dX13_meant_65 (by decide) (wX13_meant_89 hZ j hj) (wX13_meant_68 hZ j hj)
noncomputable def vX13_meant_47 (j : Nat → rx_K) : rx_K := o_ld rx_isR 0 (o_ld rx_isI 1 (o_ld rx_isR 0 (o_getf 13 117 (o_callV 2 13 FX13_allFaces (o_st rx_isI 6 (o_const 0 (o_st rx_isI 7 ((vX13_meant_61 j)))))))))
set_option maxRecDepth 20000 in
theorem wX13_meant_47 (hZ : zO b e D A X) (j : Nat → rx_K) (hj : ∀ k pc, [19, 61][k]? = some pc → rx_OK (zV b e D A X) mX13_meant 170 pc (j k)) : rx_OK (zV b e D A X) mX13_meant 170 47 (vX13_meant_47 j) := by
  unfold vX13_meant_47
  refine s_aload_n hZ.1 dX13_meant_47 rfl ?_
  refine s_iload_n hZ.1 dX13_meant_48 rfl ?_
  refine s_aload_n hZ.1 dX13_meant_49 rfl ?_
  refine yg13_117 dX13_meant_50 zw4237 ?_
  refine s_callV hZ.1 (Met_X13_allFaces hZ) (Nat.le_of_ble_eq_true rfl) vy_X13_allFaces zcl13 zw3270 zw244 (Or.inl zw3268) dX13_meant_53 ?_
  refine s_istore hZ.1 dX13_meant_56 (Nat.le_of_ble_eq_true rfl) ?_
  refine s_iconst dX13_meant_58 (by decide +kernel) ?_
  refine s_istore hZ.1 dX13_meant_59 (Nat.le_of_ble_eq_true rfl) ?_
  exact (wX13_meant_61 hZ j hj)
noncomputable def vX13_meant_26 (j : Nat → rx_K) : rx_K := o_ld rx_isR 0 (o_ld rx_isR 0 (o_getf 13 117 (o_ld rx_isI 6 (o_ald 0 (o_ld rx_isI 1 (o_ld rx_isL 2 (o_ld rx_isI 4 (o_callV 4 13 FX13_candidatesIn (o_inc 6 (1) ((j 0)))))))))))
set_option maxRecDepth 20000 in
theorem wX13_meant_26 (hZ : zO b e D A X) (j : Nat → rx_K) (hj : ∀ k pc, [19, 61][k]? = some pc → rx_OK (zV b e D A X) mX13_meant 170 pc (j k)) : rx_OK (zV b e D A X) mX13_meant 170 26 (vX13_meant_26 j) := by
  unfold vX13_meant_26
  refine s_aload_n hZ.1 dX13_meant_26 rfl ?_
  refine s_aload_n hZ.1 dX13_meant_27 rfl ?_
  refine yg13_117 dX13_meant_28 zw4237 ?_
  refine s_iload hZ.1 dX13_meant_31 ?_
  refine s_iald (tt := 0) rfl dX13_meant_33 ?_
  refine s_iload_n hZ.1 dX13_meant_34 rfl ?_
  refine s_lload_n hZ.1 dX13_meant_35 rfl ?_
  refine s_iload hZ.1 dX13_meant_36 ?_
  refine s_callV hZ.1 (Met_X13_candidatesIn hZ) (Nat.le_of_ble_eq_true rfl) vy_X13_candidatesIn zcl13 zw3426 zw281 (Or.inl zw3424) dX13_meant_38 ?_
  refine s_iinc hZ.1 dX13_meant_41 (Nat.le_of_ble_eq_true rfl) ?_
  exact s_goto dX13_meant_44 (by decide) (hj 0 19 rfl)
noncomputable def vX13_meant_19 (j : Nat → rx_K) : rx_K := o_ld rx_isI 6 (o_ld rx_isI 5 (o_c2 rx_lt (vX13_meant_26 j) (vX13_meant_47 j)))
set_option maxRecDepth 20000 in
theorem wX13_meant_19 (hZ : zO b e D A X) (j : Nat → rx_K) (hj : ∀ k pc, [19, 61][k]? = some pc → rx_OK (zV b e D A X) mX13_meant 170 pc (j k)) : rx_OK (zV b e D A X) mX13_meant 170 19 (vX13_meant_19 j) := by
  unfold vX13_meant_19
  refine s_iload hZ.1 dX13_meant_19 ?_
  refine s_iload hZ.1 dX13_meant_21 ?_
  exact s_icmp_ge dX13_meant_23 (by decide) (wX13_meant_47 hZ j hj) (wX13_meant_26 hZ j hj)
noncomputable def vX13_meant_0 (j : Nat → rx_K) : rx_K := o_ld rx_isR 0 (o_const 0 (o_putf rx_isI 13 116 (o_ld rx_isR 0 (o_ld rx_isI 1 (o_ld rx_isR 0 (o_getf 13 117 (o_callV 2 13 FX13_parents (o_st rx_isI 5 (o_const 0 (o_st rx_isI 6 ((vX13_meant_19 j))))))))))))
set_option maxRecDepth 20000 in
theorem wX13_meant_0 (hZ : zO b e D A X) (j : Nat → rx_K) (hj : ∀ k pc, [19, 61][k]? = some pc → rx_OK (zV b e D A X) mX13_meant 170 pc (j k)) : rx_OK (zV b e D A X) mX13_meant 170 0 (vX13_meant_0 j) := by
  unfold vX13_meant_0
  refine s_aload_n hZ.1 dX13_meant_0 rfl ?_
  refine s_iconst dX13_meant_1 (by decide +kernel) ?_
  refine yp13_116 hZ.1 dX13_meant_2 zw4236 ?_
  refine s_aload_n hZ.1 dX13_meant_5 rfl ?_
  refine s_iload_n hZ.1 dX13_meant_6 rfl ?_
  refine s_aload_n hZ.1 dX13_meant_7 rfl ?_
  refine yg13_117 dX13_meant_8 zw4237 ?_
  refine s_callV hZ.1 (Met_X13_parents hZ) (Nat.le_of_ble_eq_true rfl) vy_X13_parents zcl13 zw3259 zw242 (Or.inl zw3257) dX13_meant_11 ?_
  refine s_istore hZ.1 dX13_meant_14 (Nat.le_of_ble_eq_true rfl) ?_
  refine s_iconst dX13_meant_16 (by decide +kernel) ?_
  refine s_istore hZ.1 dX13_meant_17 (Nat.le_of_ble_eq_true rfl) ?_
  exact (wX13_meant_19 hZ j hj)
noncomputable def vhX13_meant (j : Nat → rx_K) : List rx_K := [vX13_meant_19 j, vX13_meant_61 j]
theorem vlX13_meant (hZ : zO b e D A X) : ∀ n k pc, [19, 61][k]? = some pc → rx_OK (zV b e D A X) mX13_meant 170 pc (rx_J (vhX13_meant) n k) := rx_loop fun j hj k pc h => by
  match k, h with
  | 0, h =>
    have e9 := Option.some.inj (show some 19 = some pc from h)
    subst e9
    exact wX13_meant_19 hZ j hj
  | 1, h =>
    have e9 := Option.some.inj (show some 61 = some pc from h)
    subst e9
    exact wX13_meant_61 hZ j hj
  | _ + 2, h => exact absurd h (by simp)
noncomputable def FX13_meant : List Nat → rx_H → Option (Nat × rx_H) := rx_ent 8 (vX13_meant_0 (rx_J (vhX13_meant) 4000000000))
theorem Met_X13_meant (hZ : zO b e D A X) : rx_Met (zV b e D A X) 170 yX13_meant mX13_meant (FX13_meant) := rx_entry hZ.1 (wX13_meant_0 hZ _ (vlX13_meant hZ 4000000000)) (by decide +kernel) rfl (fun h => by cases h)
abbrev mX13_call : rx_M := (RX13, cX13_call, 7, (some .long), false)
theorem vy_X13_call : rx_Y (zV b e D A X) yX13_call mX13_call 4 := ⟨zw3419, zw431, by decide, by decide +kernel, by decide +kernel, by decide +kernel⟩
noncomputable def vX13_call_107 : rx_K := o_ld rx_isR 0 (o_ld rx_isI 1 (o_ld rx_isI 6 (o_ld rx_isL 3 (o_callV 3 13 FX13_means (o_ret1 rx_isL)))))
set_option maxRecDepth 20000 in
theorem wX13_call_107 (hZ : zO b e D A X) : rx_OK (zV b e D A X) mX13_call 171 107 vX13_call_107 := by
  unfold vX13_call_107
  refine s_aload_n hZ.1 dX13_call_107 rfl ?_
  refine s_iload_n hZ.1 dX13_call_108 rfl ?_
  refine s_iload hZ.1 dX13_call_109 ?_
  refine s_lload_n hZ.1 dX13_call_111 rfl ?_
  refine s_callV hZ.1 (Met_X13_means hZ) (Nat.le_of_ble_eq_true rfl) vy_X13_means zcl13 zw3438 zw284 (Or.inl zw3436) dX13_call_112 ?_
  exact s_lret rfl dX13_call_115
noncomputable def vX13_call_95 : rx_K := o_ld rx_isR 0 (o_const 112 (o_ld rx_isR 0 (o_getf 13 72 (o_ld rx_isI 1 (o_ald 0 (o_callV 2 13 FX13_fault (vX13_call_107)))))))
set_option maxRecDepth 20000 in
theorem wX13_call_95 (hZ : zO b e D A X) : rx_OK (zV b e D A X) mX13_call 171 95 vX13_call_95 := by
  unfold vX13_call_95
  refine s_aload_n hZ.1 dX13_call_95 rfl ?_
  refine s_bipush dX13_call_96 (by decide +kernel) ?_
  refine s_aload_n hZ.1 dX13_call_98 rfl ?_
  refine yg13_72 dX13_call_99 zw4193 ?_
  refine s_iload_n hZ.1 dX13_call_102 rfl ?_
  refine s_iald (tt := 0) rfl dX13_call_103 ?_
  refine s_callV hZ.1 (Met_X13_fault hZ) (Nat.le_of_ble_eq_true rfl) vy_X13_fault zcl13 zw3004 zw190 (Or.inl zw3002) dX13_call_104 ?_
  exact (wX13_call_107 hZ)
noncomputable def vX13_call_83 : rx_K := o_ld rx_isR 0 (o_getf 13 45 (o_ld rx_isI 6 (o_ald 3 (o_ld rx_isI 5 (o_c2 rx_eq vX13_call_107 vX13_call_95)))))
set_option maxRecDepth 20000 in
theorem wX13_call_83 (hZ : zO b e D A X) : rx_OK (zV b e D A X) mX13_call 171 83 vX13_call_83 := by
  unfold vX13_call_83
  refine s_aload_n hZ.1 dX13_call_83 rfl ?_
  refine yg13_45 dX13_call_84 zw4166 ?_
  refine s_iload hZ.1 dX13_call_87 ?_
  refine s_zald (tt := 3) rfl dX13_call_89 ?_
  refine s_iload hZ.1 dX13_call_90 ?_
  exact s_icmp_eq dX13_call_92 (by decide) (wX13_call_107 hZ) (wX13_call_95 hZ)
noncomputable def vX13_call_80 : rx_K := vX13_call_95
set_option maxRecDepth 20000 in
theorem wX13_call_80 (hZ : zO b e D A X) : rx_OK (zV b e D A X) mX13_call 171 80 vX13_call_80 := by
  unfold vX13_call_80
  exact s_goto dX13_call_80 (by decide) (wX13_call_95 hZ)
noncomputable def vX13_call_70 : rx_K := o_ld rx_isR 0 (o_getf 13 45 (o_ld rx_isI 6 (o_ald 3 (o_c1 rx_eq vX13_call_80 vX13_call_107))))
set_option maxRecDepth 20000 in
theorem wX13_call_70 (hZ : zO b e D A X) : rx_OK (zV b e D A X) mX13_call 171 70 vX13_call_70 := by
  unfold vX13_call_70
  refine s_aload_n hZ.1 dX13_call_70 rfl ?_
  refine yg13_45 dX13_call_71 zw4166 ?_
  refine s_iload hZ.1 dX13_call_74 ?_
  refine s_zald (tt := 3) rfl dX13_call_76 ?_
  exact s_if_ne dX13_call_77 (by decide) (wX13_call_107 hZ) (wX13_call_80 hZ)
noncomputable def vX13_call_63 : rx_K := o_ld rx_isR 0 (o_getf 13 111 (o_c1 rx_eq vX13_call_107 vX13_call_70))
set_option maxRecDepth 20000 in
theorem wX13_call_63 (hZ : zO b e D A X) : rx_OK (zV b e D A X) mX13_call 171 63 vX13_call_63 := by
  unfold vX13_call_63
  refine s_aload_n hZ.1 dX13_call_63 rfl ?_
  refine yg13_111 dX13_call_64 zw4231 ?_
  exact s_if_eq dX13_call_67 (by decide) (wX13_call_107 hZ) (wX13_call_70 hZ)
noncomputable def vX13_call_53 : rx_K := o_ld rx_isR 0 (o_getf 13 70 (o_ld rx_isI 1 (o_ald 0 (o_const 32 (o_c2 rx_eq vX13_call_63 vX13_call_83)))))
set_option maxRecDepth 20000 in
theorem wX13_call_53 (hZ : zO b e D A X) : rx_OK (zV b e D A X) mX13_call 171 53 vX13_call_53 := by
  unfold vX13_call_53
  refine s_aload_n hZ.1 dX13_call_53 rfl ?_
  refine yg13_70 dX13_call_54 zw4191 ?_
  refine s_iload_n hZ.1 dX13_call_57 rfl ?_
  refine s_iald (tt := 0) rfl dX13_call_58 ?_
  refine s_iconst dX13_call_59 (by decide +kernel) ?_
  exact s_icmp_ne dX13_call_60 (by decide) (wX13_call_83 hZ) (wX13_call_63 hZ)
noncomputable def vX13_call_37 : rx_K := o_ld rx_isR 0 (o_const 96 (o_ld rx_isR 0 (o_getf 13 72 (o_ld rx_isI 1 (o_ald 0 (o_callV 2 13 FX13_fault (o_const 17 (o_ret1 rx_isL))))))))
set_option maxRecDepth 20000 in
theorem wX13_call_37 (hZ : zO b e D A X) : rx_OK (zV b e D A X) mX13_call 171 37 vX13_call_37 := by
  unfold vX13_call_37
  refine s_aload_n hZ.1 dX13_call_37 rfl ?_
  refine s_bipush dX13_call_38 (by decide +kernel) ?_
  refine s_aload_n hZ.1 dX13_call_40 rfl ?_
  refine yg13_72 dX13_call_41 zw4193 ?_
  refine s_iload_n hZ.1 dX13_call_44 rfl ?_
  refine s_iald (tt := 0) rfl dX13_call_45 ?_
  refine s_callV hZ.1 (Met_X13_fault hZ) (Nat.le_of_ble_eq_true rfl) vy_X13_fault zcl13 zw3004 zw190 (Or.inl zw3002) dX13_call_46 ?_
  refine s_ldc2 dX13_call_49 zw3066 (by decide +kernel) ?_
  exact s_lret rfl dX13_call_52
noncomputable def vX13_call_28 : rx_K := o_st rx_isI 6 (o_ld rx_isI 6 (o_const 34359738352 (o_c2 rx_eq vX13_call_37 vX13_call_53)))
set_option maxRecDepth 20000 in
theorem wX13_call_28 (hZ : zO b e D A X) : rx_OK (zV b e D A X) mX13_call 171 28 vX13_call_28 := by
  unfold vX13_call_28
  refine s_istore hZ.1 dX13_call_28 (Nat.le_of_ble_eq_true rfl) ?_
  refine s_iload hZ.1 dX13_call_30 ?_
  refine s_bipush dX13_call_32 (by decide +kernel) ?_
  exact s_icmp_ne dX13_call_34 (by decide) (wX13_call_53 hZ) (wX13_call_37 hZ)
noncomputable def vX13_call_11 : rx_K := o_ld rx_isR 0 (o_ld rx_isI 2 (o_ld rx_isR 0 (o_getf 13 74 (o_ld rx_isI 1 (o_ald 1 (o_ld rx_isR 0 (o_getf 13 78 (o_ld rx_isI 1 (o_ald 0 (o_callV 3 13 FX13_meant (vX13_call_28)))))))))))
set_option maxRecDepth 20000 in
theorem wX13_call_11 (hZ : zO b e D A X) : rx_OK (zV b e D A X) mX13_call 171 11 vX13_call_11 := by
  unfold vX13_call_11
  refine s_aload_n hZ.1 dX13_call_11 rfl ?_
  refine s_iload_n hZ.1 dX13_call_12 rfl ?_
  refine s_aload_n hZ.1 dX13_call_13 rfl ?_
  refine yg13_74 dX13_call_14 zw4195 ?_
  refine s_iload_n hZ.1 dX13_call_17 rfl ?_
  refine s_lald (tt := 1) rfl dX13_call_18 ?_
  refine s_aload_n hZ.1 dX13_call_19 rfl ?_
  refine yg13_78 dX13_call_20 zw4199 ?_
  refine s_iload_n hZ.1 dX13_call_23 rfl ?_
  refine s_iald (tt := 0) rfl dX13_call_24 ?_
  refine s_callV hZ.1 (Met_X13_meant hZ) (Nat.le_of_ble_eq_true rfl) vy_X13_meant zcl13 zw3422 zw280 (Or.inl zw3420) dX13_call_25 ?_
  exact (wX13_call_28 hZ)
noncomputable def vX13_call_6 : rx_K := o_const 34359738352 (vX13_call_28)
set_option maxRecDepth 20000 in
theorem wX13_call_6 (hZ : zO b e D A X) : rx_OK (zV b e D A X) mX13_call 171 6 vX13_call_6 := by
  unfold vX13_call_6
  refine s_bipush dX13_call_6 (by decide +kernel) ?_
  exact s_goto dX13_call_8 (by decide) (wX13_call_28 hZ)
noncomputable def vX13_call_0 : rx_K := o_ld rx_isI 2 (o_const 34359738352 (o_c2 rx_eq vX13_call_6 vX13_call_11))
set_option maxRecDepth 20000 in
theorem wX13_call_0 (hZ : zO b e D A X) : rx_OK (zV b e D A X) mX13_call 171 0 vX13_call_0 := by
  unfold vX13_call_0
  refine s_iload_n hZ.1 dX13_call_0 rfl ?_
  refine s_bipush dX13_call_1 (by decide +kernel) ?_
  exact s_icmp_ne dX13_call_3 (by decide) (wX13_call_11 hZ) (wX13_call_6 hZ)
noncomputable def FX13_call : List Nat → rx_H → Option (Nat × rx_H) := rx_ent 7 vX13_call_0
theorem Met_X13_call (hZ : zO b e D A X) : rx_Met (zV b e D A X) 171 yX13_call mX13_call (FX13_call) := rx_entry hZ.1 (wX13_call_0 hZ) (by decide +kernel) rfl (fun h => by cases h)
abbrev mX13_field : rx_M := (RX13, cX13_field, 8, (some .long), false)
theorem vy_X13_field : rx_Y (zV b e D A X) yX13_field mX13_field 4 := ⟨zw3411, zw431, by decide, by decide +kernel, by decide +kernel, by decide +kernel⟩
noncomputable def vX13_field_203 : rx_K := o_ld rx_isI 1 (o_ld rx_isI 6 (o_ast 0 (fun v => v) rx_isI (o_ld rx_isR 0 (o_getf 13 53 (o_ld rx_isI 6 (o_ald 1 (o_ret1 rx_isL)))))))
set_option maxRecDepth 20000 in
theorem wX13_field_203 (hZ : zO b e D A X) : rx_OK (zV b e D A X) mX13_field 169 203 vX13_field_203 := by
  unfold vX13_field_203
  refine s_iload_n hZ.1 dX13_field_203 rfl ?_
  refine s_iload hZ.1 dX13_field_204 ?_
  refine s_iast hZ.1 (tt := 0) rfl dX13_field_206 ?_
  refine s_aload_n hZ.1 dX13_field_207 rfl ?_
  refine yg13_53 dX13_field_208 zw4174 ?_
  refine s_iload hZ.1 dX13_field_211 ?_
  refine s_lald (tt := 1) rfl dX13_field_213 ?_
  exact s_lret rfl dX13_field_214
noncomputable def vX13_field_165 : rx_K := o_ast 0 (fun v => v) rx_isI (o_ld rx_isR 0 (o_getf 13 81 (o_ld rx_isI 1 (o_ld rx_isR 0 (o_getf 13 65 (o_ld rx_isI 6 (o_ald 0 (o_ast 0 (fun v => v) rx_isI (o_ld rx_isR 0 (o_getf 13 83 (o_ld rx_isI 1 (o_ld rx_isL 3 (o_ast 1 (fun v => v) rx_isL (o_ld rx_isR 0 (o_getf 13 84 (o_ld rx_isI 1 (o_ld rx_isR 0 (o_getf 13 53 (o_ld rx_isI 6 (o_ald 1 (o_ast 1 (fun v => v) rx_isL (o_ld rx_isR 0 (o_getf 13 79 (vX13_field_203))))))))))))))))))))))))
set_option maxRecDepth 20000 in
theorem wX13_field_165 (hZ : zO b e D A X) : rx_OK (zV b e D A X) mX13_field 169 165 vX13_field_165 := by
  unfold vX13_field_165
  refine s_iast hZ.1 (tt := 0) rfl dX13_field_165 ?_
  refine s_aload_n hZ.1 dX13_field_166 rfl ?_
  refine yg13_81 dX13_field_167 zw4202 ?_
  refine s_iload_n hZ.1 dX13_field_170 rfl ?_
  refine s_aload_n hZ.1 dX13_field_171 rfl ?_
  refine yg13_65 dX13_field_172 zw4186 ?_
  refine s_iload hZ.1 dX13_field_175 ?_
  refine s_iald (tt := 0) rfl dX13_field_177 ?_
  refine s_iast hZ.1 (tt := 0) rfl dX13_field_178 ?_
  refine s_aload_n hZ.1 dX13_field_179 rfl ?_
  refine yg13_83 dX13_field_180 zw4204 ?_
  refine s_iload_n hZ.1 dX13_field_183 rfl ?_
  refine s_lload_n hZ.1 dX13_field_184 rfl ?_
  refine s_last (tt := 1) rfl dX13_field_185 ?_
  refine s_aload_n hZ.1 dX13_field_186 rfl ?_
  refine yg13_84 dX13_field_187 zw4205 ?_
  refine s_iload_n hZ.1 dX13_field_190 rfl ?_
  refine s_aload_n hZ.1 dX13_field_191 rfl ?_
  refine yg13_53 dX13_field_192 zw4174 ?_
  refine s_iload hZ.1 dX13_field_195 ?_
  refine s_lald (tt := 1) rfl dX13_field_197 ?_
  refine s_last (tt := 1) rfl dX13_field_198 ?_
  refine s_aload_n hZ.1 dX13_field_199 rfl ?_
  refine yg13_79 dX13_field_200 zw4200 ?_
  exact (wX13_field_203 hZ)
noncomputable def vX13_field_163 : rx_K := o_const 34359738272 (vX13_field_165)
set_option maxRecDepth 20000 in
theorem wX13_field_163 (hZ : zO b e D A X) : rx_OK (zV b e D A X) mX13_field 169 163 vX13_field_163 := by
  unfold vX13_field_163
  refine s_bipush dX13_field_163 (by decide +kernel) ?_
  exact (wX13_field_165 hZ)
noncomputable def vX13_field_158 : rx_K := o_const 34359738280 (vX13_field_165)
set_option maxRecDepth 20000 in
theorem wX13_field_158 (hZ : zO b e D A X) : rx_OK (zV b e D A X) mX13_field 169 158 vX13_field_158 := by
  unfold vX13_field_158
  refine s_bipush dX13_field_158 (by decide +kernel) ?_
  exact s_goto dX13_field_160 (by decide) (wX13_field_165 hZ)
noncomputable def vX13_field_148 : rx_K := o_ld rx_isR 0 (o_getf 13 45 (o_ld rx_isI 6 (o_ald 3 (o_c1 rx_eq vX13_field_163 vX13_field_158))))
set_option maxRecDepth 20000 in
theorem wX13_field_148 (hZ : zO b e D A X) : rx_OK (zV b e D A X) mX13_field 169 148 vX13_field_148 := by
  unfold vX13_field_148
  refine s_aload_n hZ.1 dX13_field_148 rfl ?_
  refine yg13_45 dX13_field_149 zw4166 ?_
  refine s_iload hZ.1 dX13_field_152 ?_
  refine s_zald (tt := 3) rfl dX13_field_154 ?_
  exact s_if_eq dX13_field_155 (by decide) (wX13_field_163 hZ) (wX13_field_158 hZ)
noncomputable def vX13_field_143 : rx_K := o_const 34359738288 (vX13_field_165)
set_option maxRecDepth 20000 in
theorem wX13_field_143 (hZ : zO b e D A X) : rx_OK (zV b e D A X) mX13_field 169 143 vX13_field_143 := by
  unfold vX13_field_143
  refine s_bipush dX13_field_143 (by decide +kernel) ?_
  exact s_goto dX13_field_145 (by decide) (wX13_field_165 hZ)
noncomputable def vX13_field_128 : rx_K := o_ld rx_isR 0 (o_getf 13 82 (o_ld rx_isI 1 (o_ld rx_isR 0 (o_getf 13 64 (o_ld rx_isI 6 (o_ald 3 (o_c1 rx_eq vX13_field_148 vX13_field_143)))))))
set_option maxRecDepth 20000 in
theorem wX13_field_128 (hZ : zO b e D A X) : rx_OK (zV b e D A X) mX13_field 169 128 vX13_field_128 := by
  unfold vX13_field_128
  refine s_aload_n hZ.1 dX13_field_128 rfl ?_
  refine yg13_82 dX13_field_129 zw4203 ?_
  refine s_iload_n hZ.1 dX13_field_132 rfl ?_
  refine s_aload_n hZ.1 dX13_field_133 rfl ?_
  refine yg13_64 dX13_field_134 zw4185 ?_
  refine s_iload hZ.1 dX13_field_137 ?_
  refine s_zald (tt := 3) rfl dX13_field_139 ?_
  exact s_if_eq dX13_field_140 (by decide) (wX13_field_148 hZ) (wX13_field_143 hZ)
noncomputable def vX13_field_116 : rx_K := o_ld rx_isR 0 (o_const 112 (o_ld rx_isR 0 (o_getf 13 72 (o_ld rx_isI 1 (o_ald 0 (o_callV 2 13 FX13_fault (vX13_field_128)))))))
set_option maxRecDepth 20000 in
theorem wX13_field_116 (hZ : zO b e D A X) : rx_OK (zV b e D A X) mX13_field 169 116 vX13_field_116 := by
  unfold vX13_field_116
  refine s_aload_n hZ.1 dX13_field_116 rfl ?_
  refine s_bipush dX13_field_117 (by decide +kernel) ?_
  refine s_aload_n hZ.1 dX13_field_119 rfl ?_
  refine yg13_72 dX13_field_120 zw4193 ?_
  refine s_iload_n hZ.1 dX13_field_123 rfl ?_
  refine s_iald (tt := 0) rfl dX13_field_124 ?_
  refine s_callV hZ.1 (Met_X13_fault hZ) (Nat.le_of_ble_eq_true rfl) vy_X13_fault zcl13 zw3004 zw190 (Or.inl zw3002) dX13_field_125 ?_
  exact (wX13_field_128 hZ)
noncomputable def vX13_field_104 : rx_K := o_ld rx_isR 0 (o_getf 13 45 (o_ld rx_isI 6 (o_ald 3 (o_ld rx_isI 5 (o_c2 rx_eq vX13_field_128 vX13_field_116)))))
set_option maxRecDepth 20000 in
theorem wX13_field_104 (hZ : zO b e D A X) : rx_OK (zV b e D A X) mX13_field 169 104 vX13_field_104 := by
  unfold vX13_field_104
  refine s_aload_n hZ.1 dX13_field_104 rfl ?_
  refine yg13_45 dX13_field_105 zw4166 ?_
  refine s_iload hZ.1 dX13_field_108 ?_
  refine s_zald (tt := 3) rfl dX13_field_110 ?_
  refine s_iload hZ.1 dX13_field_111 ?_
  exact s_icmp_eq dX13_field_113 (by decide) (wX13_field_128 hZ) (wX13_field_116 hZ)
noncomputable def vX13_field_101 : rx_K := vX13_field_116
set_option maxRecDepth 20000 in
theorem wX13_field_101 (hZ : zO b e D A X) : rx_OK (zV b e D A X) mX13_field 169 101 vX13_field_101 := by
  unfold vX13_field_101
  exact s_goto dX13_field_101 (by decide) (wX13_field_116 hZ)
noncomputable def vX13_field_91 : rx_K := o_ld rx_isR 0 (o_getf 13 45 (o_ld rx_isI 6 (o_ald 3 (o_c1 rx_eq vX13_field_101 vX13_field_128))))
set_option maxRecDepth 20000 in
theorem wX13_field_91 (hZ : zO b e D A X) : rx_OK (zV b e D A X) mX13_field 169 91 vX13_field_91 := by
  unfold vX13_field_91
  refine s_aload_n hZ.1 dX13_field_91 rfl ?_
  refine yg13_45 dX13_field_92 zw4166 ?_
  refine s_iload hZ.1 dX13_field_95 ?_
  refine s_zald (tt := 3) rfl dX13_field_97 ?_
  exact s_if_ne dX13_field_98 (by decide) (wX13_field_128 hZ) (wX13_field_101 hZ)
noncomputable def vX13_field_84 : rx_K := o_ld rx_isR 0 (o_getf 13 111 (o_c1 rx_eq vX13_field_128 vX13_field_91))
set_option maxRecDepth 20000 in
theorem wX13_field_84 (hZ : zO b e D A X) : rx_OK (zV b e D A X) mX13_field 169 84 vX13_field_84 := by
  unfold vX13_field_84
  refine s_aload_n hZ.1 dX13_field_84 rfl ?_
  refine yg13_111 dX13_field_85 zw4231 ?_
  exact s_if_eq dX13_field_88 (by decide) (wX13_field_128 hZ) (wX13_field_91 hZ)
noncomputable def vX13_field_77 : rx_K := o_st rx_isI 7 (o_ld rx_isI 7 (o_c1 rx_eq vX13_field_104 vX13_field_84))
set_option maxRecDepth 20000 in
theorem wX13_field_77 (hZ : zO b e D A X) : rx_OK (zV b e D A X) mX13_field 169 77 vX13_field_77 := by
  unfold vX13_field_77
  refine s_istore hZ.1 dX13_field_77 (Nat.le_of_ble_eq_true rfl) ?_
  refine s_iload hZ.1 dX13_field_79 ?_
  exact s_if_eq dX13_field_81 (by decide) (wX13_field_104 hZ) (wX13_field_84 hZ)
noncomputable def vX13_field_76 : rx_K := o_const 0 (vX13_field_77)
set_option maxRecDepth 20000 in
theorem wX13_field_76 (hZ : zO b e D A X) : rx_OK (zV b e D A X) mX13_field 169 76 vX13_field_76 := by
  unfold vX13_field_76
  refine s_iconst dX13_field_76 (by decide +kernel) ?_
  exact (wX13_field_77 hZ)
noncomputable def vX13_field_72 : rx_K := o_const 8 (vX13_field_77)
set_option maxRecDepth 20000 in
theorem wX13_field_72 (hZ : zO b e D A X) : rx_OK (zV b e D A X) mX13_field 169 72 vX13_field_72 := by
  unfold vX13_field_72
  refine s_iconst dX13_field_72 (by decide +kernel) ?_
  exact s_goto dX13_field_73 (by decide) (wX13_field_77 hZ)
noncomputable def vX13_field_62 : rx_K := o_ld rx_isR 0 (o_getf 13 70 (o_ld rx_isI 1 (o_ald 0 (o_const 24 (o_c2 rx_eq vX13_field_72 vX13_field_76)))))
set_option maxRecDepth 20000 in
theorem wX13_field_62 (hZ : zO b e D A X) : rx_OK (zV b e D A X) mX13_field 169 62 vX13_field_62 := by
  unfold vX13_field_62
  refine s_aload_n hZ.1 dX13_field_62 rfl ?_
  refine yg13_70 dX13_field_63 zw4191 ?_
  refine s_iload_n hZ.1 dX13_field_66 rfl ?_
  refine s_iald (tt := 0) rfl dX13_field_67 ?_
  refine s_iconst dX13_field_68 (by decide +kernel) ?_
  exact s_icmp_ne dX13_field_69 (by decide) (wX13_field_76 hZ) (wX13_field_72 hZ)
noncomputable def vX13_field_46 : rx_K := o_ld rx_isR 0 (o_const 88 (o_ld rx_isR 0 (o_getf 13 72 (o_ld rx_isI 1 (o_ald 0 (o_callV 2 13 FX13_fault (o_const 17 (o_ret1 rx_isL))))))))
set_option maxRecDepth 20000 in
theorem wX13_field_46 (hZ : zO b e D A X) : rx_OK (zV b e D A X) mX13_field 169 46 vX13_field_46 := by
  unfold vX13_field_46
  refine s_aload_n hZ.1 dX13_field_46 rfl ?_
  refine s_bipush dX13_field_47 (by decide +kernel) ?_
  refine s_aload_n hZ.1 dX13_field_49 rfl ?_
  refine yg13_72 dX13_field_50 zw4193 ?_
  refine s_iload_n hZ.1 dX13_field_53 rfl ?_
  refine s_iald (tt := 0) rfl dX13_field_54 ?_
  refine s_callV hZ.1 (Met_X13_fault hZ) (Nat.le_of_ble_eq_true rfl) vy_X13_fault zcl13 zw3004 zw190 (Or.inl zw3002) dX13_field_55 ?_
  refine s_ldc2 dX13_field_58 zw3066 (by decide +kernel) ?_
  exact s_lret rfl dX13_field_61
noncomputable def vX13_field_32 : rx_K := o_ld rx_isR 0 (o_ld rx_isI 6 (o_ld rx_isI 2 (o_ld rx_isR 0 (o_getf 13 109 (o_callV 3 13 FX13_isLetMember (o_c1 rx_eq vX13_field_46 vX13_field_62))))))
set_option maxRecDepth 20000 in
theorem wX13_field_32 (hZ : zO b e D A X) : rx_OK (zV b e D A X) mX13_field 169 32 vX13_field_32 := by
  unfold vX13_field_32
  refine s_aload_n hZ.1 dX13_field_32 rfl ?_
  refine s_iload hZ.1 dX13_field_33 ?_
  refine s_iload_n hZ.1 dX13_field_35 rfl ?_
  refine s_aload_n hZ.1 dX13_field_36 rfl ?_
  refine yg13_109 dX13_field_37 zw4229 ?_
  refine s_callV hZ.1 (Met_X13_isLetMember hZ) (Nat.le_of_ble_eq_true rfl) vy_X13_isLetMember zcl13 zw3355 zw264 (Or.inl zw3353) dX13_field_40 ?_
  exact s_if_ne dX13_field_43 (by decide) (wX13_field_62 hZ) (wX13_field_46 hZ)
noncomputable def vX13_field_23 : rx_K := o_st rx_isI 6 (o_ld rx_isI 6 (o_const 34359738352 (o_c2 rx_eq vX13_field_46 vX13_field_32)))
set_option maxRecDepth 20000 in
theorem wX13_field_23 (hZ : zO b e D A X) : rx_OK (zV b e D A X) mX13_field 169 23 vX13_field_23 := by
  unfold vX13_field_23
  refine s_istore hZ.1 dX13_field_23 (Nat.le_of_ble_eq_true rfl) ?_
  refine s_iload hZ.1 dX13_field_25 ?_
  refine s_bipush dX13_field_27 (by decide +kernel) ?_
  exact s_icmp_eq dX13_field_29 (by decide) (wX13_field_46 hZ) (wX13_field_32 hZ)
noncomputable def vX13_field_11 : rx_K := o_ld rx_isR 0 (o_ld rx_isI 2 (o_ld rx_isR 0 (o_getf 13 74 (o_ld rx_isI 1 (o_ald 1 (o_const 1 (o_callV 3 13 FX13_theField (vX13_field_23))))))))
set_option maxRecDepth 20000 in
theorem wX13_field_11 (hZ : zO b e D A X) : rx_OK (zV b e D A X) mX13_field 169 11 vX13_field_11 := by
  unfold vX13_field_11
  refine s_aload_n hZ.1 dX13_field_11 rfl ?_
  refine s_iload_n hZ.1 dX13_field_12 rfl ?_
  refine s_aload_n hZ.1 dX13_field_13 rfl ?_
  refine yg13_74 dX13_field_14 zw4195 ?_
  refine s_iload_n hZ.1 dX13_field_17 rfl ?_
  refine s_lald (tt := 1) rfl dX13_field_18 ?_
  refine s_lconst dX13_field_19 (by decide +kernel) ?_
  refine s_callV hZ.1 (Met_X13_theField hZ) (Nat.le_of_ble_eq_true rfl) vy_X13_theField zcl13 zw3347 zw262 (Or.inl zw3345) dX13_field_20 ?_
  exact (wX13_field_23 hZ)
noncomputable def vX13_field_6 : rx_K := o_const 34359738352 (vX13_field_23)
set_option maxRecDepth 20000 in
theorem wX13_field_6 (hZ : zO b e D A X) : rx_OK (zV b e D A X) mX13_field 169 6 vX13_field_6 := by
  unfold vX13_field_6
  refine s_bipush dX13_field_6 (by decide +kernel) ?_
  exact s_goto dX13_field_8 (by decide) (wX13_field_23 hZ)
noncomputable def vX13_field_0 : rx_K := o_ld rx_isI 2 (o_const 34359738352 (o_c2 rx_eq vX13_field_6 vX13_field_11))
set_option maxRecDepth 20000 in
theorem wX13_field_0 (hZ : zO b e D A X) : rx_OK (zV b e D A X) mX13_field 169 0 vX13_field_0 := by
  unfold vX13_field_0
  refine s_iload_n hZ.1 dX13_field_0 rfl ?_
  refine s_bipush dX13_field_1 (by decide +kernel) ?_
  exact s_icmp_ne dX13_field_3 (by decide) (wX13_field_11 hZ) (wX13_field_6 hZ)
noncomputable def FX13_field : List Nat → rx_H → Option (Nat × rx_H) := rx_ent 8 vX13_field_0
theorem Met_X13_field (hZ : zO b e D A X) : rx_Met (zV b e D A X) 169 yX13_field mX13_field (FX13_field) := rx_entry hZ.1 (wX13_field_0 hZ) (by decide +kernel) rfl (fun h => by cases h)
abbrev mX13_isObject : rx_M := (RX13, cX13_isObject, 2, (some .boolean), false)
theorem vy_X13_isObject : rx_Y (zV b e D A X) yX13_isObject mX13_isObject 1 := ⟨zw3458, zw431, by decide, by decide +kernel, by decide +kernel, by decide +kernel⟩
noncomputable def vX13_isObject_20 : rx_K := o_ret1 rx_isZ
set_option maxRecDepth 20000 in
theorem wX13_isObject_20 (hZ : zO b e D A X) : rx_OK (zV b e D A X) mX13_isObject 1 20 vX13_isObject_20 := by
  unfold vX13_isObject_20
  exact s_zret rx_z_ok rfl dX13_isObject_20
noncomputable def vX13_isObject_19 : rx_K := o_const 0 (vX13_isObject_20)
set_option maxRecDepth 20000 in
theorem wX13_isObject_19 (hZ : zO b e D A X) : rx_OK (zV b e D A X) mX13_isObject 1 19 vX13_isObject_19 := by
  unfold vX13_isObject_19
  refine s_iconst dX13_isObject_19 (by decide +kernel) ?_
  exact (wX13_isObject_20 hZ)
noncomputable def vX13_isObject_15 : rx_K := o_const 8 (vX13_isObject_20)
set_option maxRecDepth 20000 in
theorem wX13_isObject_15 (hZ : zO b e D A X) : rx_OK (zV b e D A X) mX13_isObject 1 15 vX13_isObject_15 := by
  unfold vX13_isObject_15
  refine s_iconst dX13_isObject_15 (by decide +kernel) ?_
  exact s_goto dX13_isObject_16 (by decide) (wX13_isObject_20 hZ)
noncomputable def vX13_isObject_7 : rx_K := o_ld rx_isL 0 (o_const 25 (o_bc (fun x y => lg_cmp x y) (o_c1 rx_eq vX13_isObject_15 vX13_isObject_19)))
set_option maxRecDepth 20000 in
theorem wX13_isObject_7 (hZ : zO b e D A X) : rx_OK (zV b e D A X) mX13_isObject 1 7 vX13_isObject_7 := by
  unfold vX13_isObject_7
  refine s_lload_n hZ.1 dX13_isObject_7 rfl ?_
  refine s_ldc2 dX13_isObject_8 zw3280 (by decide +kernel) ?_
  refine s_lcmp dX13_isObject_11 ?_
  exact s_if_ne dX13_isObject_12 (by decide) (wX13_isObject_19 hZ) (wX13_isObject_15 hZ)
noncomputable def vX13_isObject_0 : rx_K := o_ld rx_isL 0 (o_callS 1 FX13_isC (o_c1 rx_eq vX13_isObject_7 vX13_isObject_15))
set_option maxRecDepth 20000 in
theorem wX13_isObject_0 (hZ : zO b e D A X) : rx_OK (zV b e D A X) mX13_isObject 1 0 vX13_isObject_0 := by
  unfold vX13_isObject_0
  refine s_lload_n hZ.1 dX13_isObject_0 rfl ?_
  refine s_callS hZ.1 (Met_X13_isC hZ) (Nat.le_of_ble_eq_true rfl) vy_X13_isC zw3239 (Or.inl zw3238) dX13_isObject_1 ?_
  exact s_if_ne dX13_isObject_4 (by decide) (wX13_isObject_15 hZ) (wX13_isObject_7 hZ)
noncomputable def FX13_isObject : List Nat → rx_H → Option (Nat × rx_H) := rx_ent 2 vX13_isObject_0
theorem Met_X13_isObject (hZ : zO b e D A X) : rx_Met (zV b e D A X) 1 yX13_isObject mX13_isObject (FX13_isObject) := rx_entry hZ.1 (wX13_isObject_0 hZ) (by decide +kernel) rfl (fun h => by cases h)
abbrev mX13_meantMaker : rx_M := (RX13, cX13_meantMaker, 3, (some .int), false)
theorem vy_X13_meantMaker : rx_Y (zV b e D A X) yX13_meantMaker mX13_meantMaker 2 := ⟨zw3455, zw431, by decide, by decide +kernel, by decide +kernel, by decide +kernel⟩
noncomputable def vX13_meantMaker_0 : rx_K := o_ld rx_isR 0 (o_const 0 (o_putf rx_isI 13 116 (o_ld rx_isR 0 (o_ld rx_isI 1 (o_ld rx_isI 1 (o_const 1 (o_ld rx_isI 2 (o_callV 4 13 FX13_candidatesIn (o_ld rx_isR 0 (o_callV 0 13 FX13_best (o_ret1 rx_isI)))))))))))
set_option maxRecDepth 20000 in
theorem wX13_meantMaker_0 (hZ : zO b e D A X) : rx_OK (zV b e D A X) mX13_meantMaker 170 0 vX13_meantMaker_0 := by
  unfold vX13_meantMaker_0
  refine s_aload_n hZ.1 dX13_meantMaker_0 rfl ?_
  refine s_iconst dX13_meantMaker_1 (by decide +kernel) ?_
  refine yp13_116 hZ.1 dX13_meantMaker_2 zw4236 ?_
  refine s_aload_n hZ.1 dX13_meantMaker_5 rfl ?_
  refine s_iload_n hZ.1 dX13_meantMaker_6 rfl ?_
  refine s_iload_n hZ.1 dX13_meantMaker_7 rfl ?_
  refine s_lconst dX13_meantMaker_8 (by decide +kernel) ?_
  refine s_iload_n hZ.1 dX13_meantMaker_9 rfl ?_
  refine s_callV hZ.1 (Met_X13_candidatesIn hZ) (Nat.le_of_ble_eq_true rfl) vy_X13_candidatesIn zcl13 zw3426 zw281 (Or.inl zw3424) dX13_meantMaker_10 ?_
  refine s_aload_n hZ.1 dX13_meantMaker_13 rfl ?_
  refine s_callV hZ.1 (Met_X13_best hZ) (Nat.le_of_ble_eq_true rfl) vy_X13_best zcl13 zw3434 zw283 (Or.inl zw3432) dX13_meantMaker_14 ?_
  exact s_iret hZ.1 rfl dX13_meantMaker_17
noncomputable def FX13_meantMaker : List Nat → rx_H → Option (Nat × rx_H) := rx_ent 3 vX13_meantMaker_0
theorem Met_X13_meantMaker (hZ : zO b e D A X) : rx_Met (zV b e D A X) 170 yX13_meantMaker mX13_meantMaker (FX13_meantMaker) := rx_entry hZ.1 (wX13_meantMaker_0 hZ) (by decide +kernel) rfl (fun h => by cases h)
abbrev mX13_superCall : rx_M := (RX13, cX13_superCall, 5, (some .long), false)
theorem vy_X13_superCall : rx_Y (zV b e D A X) yX13_superCall mX13_superCall 3 := ⟨zw3451, zw431, by decide, by decide +kernel, by decide +kernel, by decide +kernel⟩
noncomputable def vX13_superCall_102 : rx_K := o_ld rx_isR 0 (o_ld rx_isI 1 (o_ld rx_isI 4 (o_ld rx_isR 0 (o_getf 13 24 (o_ld rx_isI 2 (o_ald 1 (o_callV 3 13 FX13_means (o_ret1 rx_isL))))))))
set_option maxRecDepth 20000 in
theorem wX13_superCall_102 (hZ : zO b e D A X) : rx_OK (zV b e D A X) mX13_superCall 171 102 vX13_superCall_102 := by
  unfold vX13_superCall_102
  refine s_aload_n hZ.1 dX13_superCall_102 rfl ?_
  refine s_iload_n hZ.1 dX13_superCall_103 rfl ?_
  refine s_iload hZ.1 dX13_superCall_104 ?_
  refine s_aload_n hZ.1 dX13_superCall_106 rfl ?_
  refine yg13_24 dX13_superCall_107 zw4145 ?_
  refine s_iload_n hZ.1 dX13_superCall_110 rfl ?_
  refine s_lald (tt := 1) rfl dX13_superCall_111 ?_
  refine s_callV hZ.1 (Met_X13_means hZ) (Nat.le_of_ble_eq_true rfl) vy_X13_means zcl13 zw3438 zw284 (Or.inl zw3436) dX13_superCall_112 ?_
  exact s_lret rfl dX13_superCall_115
noncomputable def vX13_superCall_90 : rx_K := o_ld rx_isR 0 (o_const 112 (o_ld rx_isR 0 (o_getf 13 72 (o_ld rx_isI 1 (o_ald 0 (o_callV 2 13 FX13_fault (vX13_superCall_102)))))))
set_option maxRecDepth 20000 in
theorem wX13_superCall_90 (hZ : zO b e D A X) : rx_OK (zV b e D A X) mX13_superCall 171 90 vX13_superCall_90 := by
  unfold vX13_superCall_90
  refine s_aload_n hZ.1 dX13_superCall_90 rfl ?_
  refine s_bipush dX13_superCall_91 (by decide +kernel) ?_
  refine s_aload_n hZ.1 dX13_superCall_93 rfl ?_
  refine yg13_72 dX13_superCall_94 zw4193 ?_
  refine s_iload_n hZ.1 dX13_superCall_97 rfl ?_
  refine s_iald (tt := 0) rfl dX13_superCall_98 ?_
  refine s_callV hZ.1 (Met_X13_fault hZ) (Nat.le_of_ble_eq_true rfl) vy_X13_fault zcl13 zw3004 zw190 (Or.inl zw3002) dX13_superCall_99 ?_
  exact (wX13_superCall_102 hZ)
noncomputable def vX13_superCall_80 : rx_K := o_ld rx_isR 0 (o_getf 13 45 (o_ld rx_isI 4 (o_ald 3 (o_c1 rx_eq vX13_superCall_102 vX13_superCall_90))))
set_option maxRecDepth 20000 in
theorem wX13_superCall_80 (hZ : zO b e D A X) : rx_OK (zV b e D A X) mX13_superCall 171 80 vX13_superCall_80 := by
  unfold vX13_superCall_80
  refine s_aload_n hZ.1 dX13_superCall_80 rfl ?_
  refine yg13_45 dX13_superCall_81 zw4166 ?_
  refine s_iload hZ.1 dX13_superCall_84 ?_
  refine s_zald (tt := 3) rfl dX13_superCall_86 ?_
  exact s_if_eq dX13_superCall_87 (by decide) (wX13_superCall_102 hZ) (wX13_superCall_90 hZ)
noncomputable def vX13_superCall_70 : rx_K := o_ld rx_isR 0 (o_const 112 (o_ld rx_isI 3 (o_callV 2 13 FX13_fault (vX13_superCall_102))))
set_option maxRecDepth 20000 in
theorem wX13_superCall_70 (hZ : zO b e D A X) : rx_OK (zV b e D A X) mX13_superCall 171 70 vX13_superCall_70 := by
  unfold vX13_superCall_70
  refine s_aload_n hZ.1 dX13_superCall_70 rfl ?_
  refine s_bipush dX13_superCall_71 (by decide +kernel) ?_
  refine s_iload_n hZ.1 dX13_superCall_73 rfl ?_
  refine s_callV hZ.1 (Met_X13_fault hZ) (Nat.le_of_ble_eq_true rfl) vy_X13_fault zcl13 zw3004 zw190 (Or.inl zw3002) dX13_superCall_74 ?_
  exact s_goto dX13_superCall_77 (by decide) (wX13_superCall_102 hZ)
noncomputable def vX13_superCall_63 : rx_K := o_ld rx_isR 0 (o_getf 13 111 (o_c1 rx_eq vX13_superCall_80 vX13_superCall_70))
set_option maxRecDepth 20000 in
theorem wX13_superCall_63 (hZ : zO b e D A X) : rx_OK (zV b e D A X) mX13_superCall 171 63 vX13_superCall_63 := by
  unfold vX13_superCall_63
  refine s_aload_n hZ.1 dX13_superCall_63 rfl ?_
  refine yg13_111 dX13_superCall_64 zw4231 ?_
  exact s_if_eq dX13_superCall_67 (by decide) (wX13_superCall_80 hZ) (wX13_superCall_70 hZ)
noncomputable def vX13_superCall_47 : rx_K := o_ld rx_isR 0 (o_const 96 (o_ld rx_isR 0 (o_getf 13 72 (o_ld rx_isI 1 (o_ald 0 (o_callV 2 13 FX13_fault (o_const 17 (o_ret1 rx_isL))))))))
set_option maxRecDepth 20000 in
theorem wX13_superCall_47 (hZ : zO b e D A X) : rx_OK (zV b e D A X) mX13_superCall 171 47 vX13_superCall_47 := by
  unfold vX13_superCall_47
  refine s_aload_n hZ.1 dX13_superCall_47 rfl ?_
  refine s_bipush dX13_superCall_48 (by decide +kernel) ?_
  refine s_aload_n hZ.1 dX13_superCall_50 rfl ?_
  refine yg13_72 dX13_superCall_51 zw4193 ?_
  refine s_iload_n hZ.1 dX13_superCall_54 rfl ?_
  refine s_iald (tt := 0) rfl dX13_superCall_55 ?_
  refine s_callV hZ.1 (Met_X13_fault hZ) (Nat.le_of_ble_eq_true rfl) vy_X13_fault zcl13 zw3004 zw190 (Or.inl zw3002) dX13_superCall_56 ?_
  refine s_ldc2 dX13_superCall_59 zw3066 (by decide +kernel) ?_
  exact s_lret rfl dX13_superCall_62
noncomputable def vX13_superCall_37 : rx_K := o_ld rx_isR 0 (o_getf 13 47 (o_ld rx_isI 4 (o_ald 3 (o_c1 rx_eq vX13_superCall_63 vX13_superCall_47))))
set_option maxRecDepth 20000 in
theorem wX13_superCall_37 (hZ : zO b e D A X) : rx_OK (zV b e D A X) mX13_superCall 171 37 vX13_superCall_37 := by
  unfold vX13_superCall_37
  refine s_aload_n hZ.1 dX13_superCall_37 rfl ?_
  refine yg13_47 dX13_superCall_38 zw4168 ?_
  refine s_iload hZ.1 dX13_superCall_41 ?_
  refine s_zald (tt := 3) rfl dX13_superCall_43 ?_
  exact s_if_eq dX13_superCall_44 (by decide) (wX13_superCall_63 hZ) (wX13_superCall_47 hZ)
noncomputable def vX13_superCall_28 : rx_K := o_st rx_isI 4 (o_ld rx_isI 4 (o_const 34359738352 (o_c2 rx_eq vX13_superCall_47 vX13_superCall_37)))
set_option maxRecDepth 20000 in
theorem wX13_superCall_28 (hZ : zO b e D A X) : rx_OK (zV b e D A X) mX13_superCall 171 28 vX13_superCall_28 := by
  unfold vX13_superCall_28
  refine s_istore hZ.1 dX13_superCall_28 (Nat.le_of_ble_eq_true rfl) ?_
  refine s_iload hZ.1 dX13_superCall_30 ?_
  refine s_bipush dX13_superCall_32 (by decide +kernel) ?_
  exact s_icmp_eq dX13_superCall_34 (by decide) (wX13_superCall_47 hZ) (wX13_superCall_37 hZ)
noncomputable def vX13_superCall_11 : rx_K := o_ld rx_isR 0 (o_ld rx_isI 2 (o_ld rx_isR 0 (o_getf 13 74 (o_ld rx_isI 1 (o_ald 1 (o_ld rx_isR 0 (o_getf 13 78 (o_ld rx_isI 1 (o_ald 0 (o_callV 3 13 FX13_meant (vX13_superCall_28)))))))))))
set_option maxRecDepth 20000 in
theorem wX13_superCall_11 (hZ : zO b e D A X) : rx_OK (zV b e D A X) mX13_superCall 171 11 vX13_superCall_11 := by
  unfold vX13_superCall_11
  refine s_aload_n hZ.1 dX13_superCall_11 rfl ?_
  refine s_iload_n hZ.1 dX13_superCall_12 rfl ?_
  refine s_aload_n hZ.1 dX13_superCall_13 rfl ?_
  refine yg13_74 dX13_superCall_14 zw4195 ?_
  refine s_iload_n hZ.1 dX13_superCall_17 rfl ?_
  refine s_lald (tt := 1) rfl dX13_superCall_18 ?_
  refine s_aload_n hZ.1 dX13_superCall_19 rfl ?_
  refine yg13_78 dX13_superCall_20 zw4199 ?_
  refine s_iload_n hZ.1 dX13_superCall_23 rfl ?_
  refine s_iald (tt := 0) rfl dX13_superCall_24 ?_
  refine s_callV hZ.1 (Met_X13_meant hZ) (Nat.le_of_ble_eq_true rfl) vy_X13_meant zcl13 zw3422 zw280 (Or.inl zw3420) dX13_superCall_25 ?_
  exact (wX13_superCall_28 hZ)
noncomputable def vX13_superCall_6 : rx_K := o_const 34359738352 (vX13_superCall_28)
set_option maxRecDepth 20000 in
theorem wX13_superCall_6 (hZ : zO b e D A X) : rx_OK (zV b e D A X) mX13_superCall 171 6 vX13_superCall_6 := by
  unfold vX13_superCall_6
  refine s_bipush dX13_superCall_6 (by decide +kernel) ?_
  exact s_goto dX13_superCall_8 (by decide) (wX13_superCall_28 hZ)
noncomputable def vX13_superCall_0 : rx_K := o_ld rx_isI 2 (o_const 34359738352 (o_c2 rx_eq vX13_superCall_6 vX13_superCall_11))
set_option maxRecDepth 20000 in
theorem wX13_superCall_0 (hZ : zO b e D A X) : rx_OK (zV b e D A X) mX13_superCall 171 0 vX13_superCall_0 := by
  unfold vX13_superCall_0
  refine s_iload_n hZ.1 dX13_superCall_0 rfl ?_
  refine s_bipush dX13_superCall_1 (by decide +kernel) ?_
  exact s_icmp_ne dX13_superCall_3 (by decide) (wX13_superCall_11 hZ) (wX13_superCall_6 hZ)
noncomputable def FX13_superCall : List Nat → rx_H → Option (Nat × rx_H) := rx_ent 5 vX13_superCall_0
theorem Met_X13_superCall (hZ : zO b e D A X) : rx_Met (zV b e D A X) 171 yX13_superCall mX13_superCall (FX13_superCall) := rx_entry hZ.1 (wX13_superCall_0 hZ) (by decide +kernel) rfl (fun h => by cases h)
abbrev mX13_nameAlone : rx_M := (RX13, cX13_nameAlone, 3, (some .long), false)
theorem vy_X13_nameAlone : rx_Y (zV b e D A X) yX13_nameAlone mX13_nameAlone 1 := ⟨zw3407, zw431, by decide, by decide +kernel, by decide +kernel, by decide +kernel⟩
noncomputable def vX13_nameAlone_58 (j : Nat → rx_K) : rx_K := o_ld rx_isR 0 (o_ld rx_isI 1 (o_ld rx_isR 0 (o_getf 13 109 (o_ld rx_isR 0 (o_getf 13 24 (o_ld rx_isR 0 (o_getf 13 109 (o_ald 1 (o_const 0 (o_callV 4 13 FX13_field (o_ret1 rx_isL)))))))))))
set_option maxRecDepth 20000 in
theorem wX13_nameAlone_58 (hZ : zO b e D A X) (j : Nat → rx_K) (hj : ∀ k pc, [2][k]? = some pc → rx_OK (zV b e D A X) mX13_nameAlone 170 pc (j k)) : rx_OK (zV b e D A X) mX13_nameAlone 170 58 (vX13_nameAlone_58 j) := by
  unfold vX13_nameAlone_58
  refine s_aload_n hZ.1 dX13_nameAlone_58 rfl ?_
  refine s_iload_n hZ.1 dX13_nameAlone_59 rfl ?_
  refine s_aload_n hZ.1 dX13_nameAlone_60 rfl ?_
  refine yg13_109 dX13_nameAlone_61 zw4229 ?_
  refine s_aload_n hZ.1 dX13_nameAlone_64 rfl ?_
  refine yg13_24 dX13_nameAlone_65 zw4145 ?_
  refine s_aload_n hZ.1 dX13_nameAlone_68 rfl ?_
  refine yg13_109 dX13_nameAlone_69 zw4229 ?_
  refine s_lald (tt := 1) rfl dX13_nameAlone_72 ?_
  refine s_iconst dX13_nameAlone_73 (by decide +kernel) ?_
  refine s_callV hZ.1 (Met_X13_field hZ) (Nat.le_of_ble_eq_true rfl) vy_X13_field zcl13 zw3410 zw277 (Or.inl zw3408) dX13_nameAlone_74 ?_
  exact s_lret rfl dX13_nameAlone_77
noncomputable def vX13_nameAlone_52 (j : Nat → rx_K) : rx_K := o_inc 2 (1) ((j 0))
set_option maxRecDepth 20000 in
theorem wX13_nameAlone_52 (hZ : zO b e D A X) (j : Nat → rx_K) (hj : ∀ k pc, [2][k]? = some pc → rx_OK (zV b e D A X) mX13_nameAlone 170 pc (j k)) : rx_OK (zV b e D A X) mX13_nameAlone 170 52 (vX13_nameAlone_52 j) := by
  unfold vX13_nameAlone_52
  refine s_iinc hZ.1 dX13_nameAlone_52 (Nat.le_of_ble_eq_true rfl) ?_
  exact s_goto dX13_nameAlone_55 (by decide) (hj 0 2 rfl)
noncomputable def vX13_nameAlone_26 (j : Nat → rx_K) : rx_K := o_ld rx_isR 0 (o_getf 13 82 (o_ld rx_isI 1 (o_ld rx_isI 2 (o_ast 0 (fun v => v) rx_isI (o_ld rx_isR 0 (o_getf 13 84 (o_ld rx_isI 1 (o_ld rx_isR 0 (o_getf 13 113 (o_ld rx_isI 2 (o_ald 1 (o_ast 1 (fun v => v) rx_isL (o_ld rx_isR 0 (o_getf 13 113 (o_ld rx_isI 2 (o_ald 1 (o_ret1 rx_isL)))))))))))))))))
set_option maxRecDepth 20000 in
theorem wX13_nameAlone_26 (hZ : zO b e D A X) (j : Nat → rx_K) (hj : ∀ k pc, [2][k]? = some pc → rx_OK (zV b e D A X) mX13_nameAlone 170 pc (j k)) : rx_OK (zV b e D A X) mX13_nameAlone 170 26 (vX13_nameAlone_26 j) := by
  unfold vX13_nameAlone_26
  refine s_aload_n hZ.1 dX13_nameAlone_26 rfl ?_
  refine yg13_82 dX13_nameAlone_27 zw4203 ?_
  refine s_iload_n hZ.1 dX13_nameAlone_30 rfl ?_
  refine s_iload_n hZ.1 dX13_nameAlone_31 rfl ?_
  refine s_iast hZ.1 (tt := 0) rfl dX13_nameAlone_32 ?_
  refine s_aload_n hZ.1 dX13_nameAlone_33 rfl ?_
  refine yg13_84 dX13_nameAlone_34 zw4205 ?_
  refine s_iload_n hZ.1 dX13_nameAlone_37 rfl ?_
  refine s_aload_n hZ.1 dX13_nameAlone_38 rfl ?_
  refine yg13_113 dX13_nameAlone_39 zw4233 ?_
  refine s_iload_n hZ.1 dX13_nameAlone_42 rfl ?_
  refine s_lald (tt := 1) rfl dX13_nameAlone_43 ?_
  refine s_last (tt := 1) rfl dX13_nameAlone_44 ?_
  refine s_aload_n hZ.1 dX13_nameAlone_45 rfl ?_
  refine yg13_113 dX13_nameAlone_46 zw4233 ?_
  refine s_iload_n hZ.1 dX13_nameAlone_49 rfl ?_
  refine s_lald (tt := 1) rfl dX13_nameAlone_50 ?_
  exact s_lret rfl dX13_nameAlone_51
noncomputable def vX13_nameAlone_10 (j : Nat → rx_K) : rx_K := o_ld rx_isR 0 (o_getf 13 112 (o_ld rx_isI 2 (o_ald 1 (o_ld rx_isR 0 (o_getf 13 74 (o_ld rx_isI 1 (o_ald 1 (o_bc (fun x y => lg_cmp x y) (o_c1 rx_eq (vX13_nameAlone_26 j) (vX13_nameAlone_52 j))))))))))
set_option maxRecDepth 20000 in
theorem wX13_nameAlone_10 (hZ : zO b e D A X) (j : Nat → rx_K) (hj : ∀ k pc, [2][k]? = some pc → rx_OK (zV b e D A X) mX13_nameAlone 170 pc (j k)) : rx_OK (zV b e D A X) mX13_nameAlone 170 10 (vX13_nameAlone_10 j) := by
  unfold vX13_nameAlone_10
  refine s_aload_n hZ.1 dX13_nameAlone_10 rfl ?_
  refine yg13_112 dX13_nameAlone_11 zw4232 ?_
  refine s_iload_n hZ.1 dX13_nameAlone_14 rfl ?_
  refine s_lald (tt := 1) rfl dX13_nameAlone_15 ?_
  refine s_aload_n hZ.1 dX13_nameAlone_16 rfl ?_
  refine yg13_74 dX13_nameAlone_17 zw4195 ?_
  refine s_iload_n hZ.1 dX13_nameAlone_20 rfl ?_
  refine s_lald (tt := 1) rfl dX13_nameAlone_21 ?_
  refine s_lcmp dX13_nameAlone_22 ?_
  exact s_if_ne dX13_nameAlone_23 (by decide) (wX13_nameAlone_52 hZ j hj) (wX13_nameAlone_26 hZ j hj)
noncomputable def vX13_nameAlone_2 (j : Nat → rx_K) : rx_K := o_ld rx_isI 2 (o_ld rx_isR 0 (o_getf 13 114 (o_c2 rx_lt (vX13_nameAlone_10 j) (vX13_nameAlone_58 j))))
set_option maxRecDepth 20000 in
theorem wX13_nameAlone_2 (hZ : zO b e D A X) (j : Nat → rx_K) (hj : ∀ k pc, [2][k]? = some pc → rx_OK (zV b e D A X) mX13_nameAlone 170 pc (j k)) : rx_OK (zV b e D A X) mX13_nameAlone 170 2 (vX13_nameAlone_2 j) := by
  unfold vX13_nameAlone_2
  refine s_iload_n hZ.1 dX13_nameAlone_2 rfl ?_
  refine s_aload_n hZ.1 dX13_nameAlone_3 rfl ?_
  refine yg13_114 dX13_nameAlone_4 zw4234 ?_
  exact s_icmp_ge dX13_nameAlone_7 (by decide) (wX13_nameAlone_58 hZ j hj) (wX13_nameAlone_10 hZ j hj)
noncomputable def vX13_nameAlone_0 (j : Nat → rx_K) : rx_K := o_const 0 (o_st rx_isI 2 ((vX13_nameAlone_2 j)))
set_option maxRecDepth 20000 in
theorem wX13_nameAlone_0 (hZ : zO b e D A X) (j : Nat → rx_K) (hj : ∀ k pc, [2][k]? = some pc → rx_OK (zV b e D A X) mX13_nameAlone 170 pc (j k)) : rx_OK (zV b e D A X) mX13_nameAlone 170 0 (vX13_nameAlone_0 j) := by
  unfold vX13_nameAlone_0
  refine s_iconst dX13_nameAlone_0 (by decide +kernel) ?_
  refine s_istore_n hZ.1 dX13_nameAlone_1 rfl (Nat.le_of_ble_eq_true rfl) ?_
  exact (wX13_nameAlone_2 hZ j hj)
noncomputable def vhX13_nameAlone (j : Nat → rx_K) : List rx_K := [vX13_nameAlone_2 j]
theorem vlX13_nameAlone (hZ : zO b e D A X) : ∀ n k pc, [2][k]? = some pc → rx_OK (zV b e D A X) mX13_nameAlone 170 pc (rx_J (vhX13_nameAlone) n k) := rx_loop fun j hj k pc h => by
  match k, h with
  | 0, h =>
    have e9 := Option.some.inj (show some 2 = some pc from h)
    subst e9
    exact wX13_nameAlone_2 hZ j hj
  | _ + 1, h => exact absurd h (by simp)
noncomputable def FX13_nameAlone : List Nat → rx_H → Option (Nat × rx_H) := rx_ent 3 (vX13_nameAlone_0 (rx_J (vhX13_nameAlone) 4000000000))
theorem Met_X13_nameAlone (hZ : zO b e D A X) : rx_Met (zV b e D A X) 170 yX13_nameAlone mX13_nameAlone (FX13_nameAlone) := rx_entry hZ.1 (wX13_nameAlone_0 hZ _ (vlX13_nameAlone hZ 4000000000)) (by decide +kernel) rfl (fun h => by cases h)
abbrev mX13_dot : rx_M := (RX13, cX13_dot, 5, (some .long), false)
theorem vy_X13_dot : rx_Y (zV b e D A X) yX13_dot mX13_dot 3 := ⟨zw3466, zw431, by decide, by decide +kernel, by decide +kernel, by decide +kernel⟩
noncomputable def vX13_dot_23 : rx_K := o_ld rx_isR 0 (o_ld rx_isI 1 (o_ld rx_isR 0 (o_ld rx_isL 3 (o_callV 1 13 FX13_find (o_ld rx_isL 3 (o_const 0 (o_callV 4 13 FX13_field (o_ret1 rx_isL))))))))
set_option maxRecDepth 20000 in
theorem wX13_dot_23 (hZ : zO b e D A X) : rx_OK (zV b e D A X) mX13_dot 170 23 vX13_dot_23 := by
  unfold vX13_dot_23
  refine s_aload_n hZ.1 dX13_dot_23 rfl ?_
  refine s_iload_n hZ.1 dX13_dot_24 rfl ?_
  refine s_aload_n hZ.1 dX13_dot_25 rfl ?_
  refine s_lload_n hZ.1 dX13_dot_26 rfl ?_
  refine s_callV hZ.1 (Met_X13_find hZ) (Nat.le_of_ble_eq_true rfl) vy_X13_find zcl13 zw3186 zw226 (Or.inl zw3184) dX13_dot_27 ?_
  refine s_lload_n hZ.1 dX13_dot_30 rfl ?_
  refine s_iconst dX13_dot_31 (by decide +kernel) ?_
  refine s_callV hZ.1 (Met_X13_field hZ) (Nat.le_of_ble_eq_true rfl) vy_X13_field zcl13 zw3410 zw277 (Or.inl zw3408) dX13_dot_32 ?_
  exact s_lret rfl dX13_dot_35
noncomputable def vX13_dot_7 : rx_K := o_ld rx_isR 0 (o_const 104 (o_ld rx_isR 0 (o_getf 13 71 (o_ld rx_isI 2 (o_ald 0 (o_callV 2 13 FX13_fault (o_const 17 (o_ret1 rx_isL))))))))
set_option maxRecDepth 20000 in
theorem wX13_dot_7 (hZ : zO b e D A X) : rx_OK (zV b e D A X) mX13_dot 170 7 vX13_dot_7 := by
  unfold vX13_dot_7
  refine s_aload_n hZ.1 dX13_dot_7 rfl ?_
  refine s_bipush dX13_dot_8 (by decide +kernel) ?_
  refine s_aload_n hZ.1 dX13_dot_10 rfl ?_
  refine yg13_71 dX13_dot_11 zw4192 ?_
  refine s_iload_n hZ.1 dX13_dot_14 rfl ?_
  refine s_iald (tt := 0) rfl dX13_dot_15 ?_
  refine s_callV hZ.1 (Met_X13_fault hZ) (Nat.le_of_ble_eq_true rfl) vy_X13_fault zcl13 zw3004 zw190 (Or.inl zw3002) dX13_dot_16 ?_
  refine s_ldc2 dX13_dot_19 zw3066 (by decide +kernel) ?_
  exact s_lret rfl dX13_dot_22
noncomputable def vX13_dot_0 : rx_K := o_ld rx_isL 3 (o_callS 1 FX13_isC (o_c1 rx_eq vX13_dot_7 vX13_dot_23))
set_option maxRecDepth 20000 in
theorem wX13_dot_0 (hZ : zO b e D A X) : rx_OK (zV b e D A X) mX13_dot 170 0 vX13_dot_0 := by
  unfold vX13_dot_0
  refine s_lload_n hZ.1 dX13_dot_0 rfl ?_
  refine s_callS hZ.1 (Met_X13_isC hZ) (Nat.le_of_ble_eq_true rfl) vy_X13_isC zw3239 (Or.inl zw3238) dX13_dot_1 ?_
  exact s_if_ne dX13_dot_4 (by decide) (wX13_dot_23 hZ) (wX13_dot_7 hZ)
noncomputable def FX13_dot : List Nat → rx_H → Option (Nat × rx_H) := rx_ent 5 vX13_dot_0
theorem Met_X13_dot (hZ : zO b e D A X) : rx_Met (zV b e D A X) 170 yX13_dot mX13_dot (FX13_dot) := rx_entry hZ.1 (wX13_dot_0 hZ) (by decide +kernel) rfl (fun h => by cases h)
abbrev mX13_args : rx_M := (RX13, cX13_args, 3, none, false)
theorem vy_X13_args : rx_Y (zV b e D A X) yX13_args mX13_args 1 := ⟨zw3415, zw431, by decide, by decide +kernel, by decide +kernel, by decide +kernel⟩
abbrev mX13_judge : rx_M := (RX13, cX13_judge, 5, (some .long), false)
theorem vy_X13_judge : rx_Y (zV b e D A X) yX13_judge mX13_judge 1 := ⟨zw3399, zw431, by decide, by decide +kernel, by decide +kernel, by decide +kernel⟩
abbrev mX13_leaf : rx_M := (RX13, cX13_leaf, 2, (some .long), false)
theorem vy_X13_leaf : rx_Y (zV b e D A X) yX13_leaf mX13_leaf 1 := ⟨zw3403, zw431, by decide, by decide +kernel, by decide +kernel, by decide +kernel⟩
abbrev mX13_leafOfMore : rx_M := (RX13, cX13_leafOfMore, 5, (some .long), false)
theorem vy_X13_leafOfMore : rx_Y (zV b e D A X) yX13_leafOfMore mX13_leafOfMore 1 := ⟨zw3447, zw431, by decide, by decide +kernel, by decide +kernel, by decide +kernel⟩
abbrev mX13_overLeft : rx_M := (RX13, cX13_overLeft, 5, (some .long), false)
theorem vy_X13_overLeft : rx_Y (zV b e D A X) yX13_overLeft mX13_overLeft 3 := ⟨zw3462, zw431, by decide, by decide +kernel, by decide +kernel, by decide +kernel⟩
abbrev mX13_two : rx_M := (RX13, cX13_two, 8, (some .long), false)
theorem vy_X13_two : rx_Y (zV b e D A X) yX13_two mX13_two 3 := ⟨zw3470, zw431, by decide, by decide +kernel, by decide +kernel, by decide +kernel⟩
abbrev vl13 : List (MethodName × rx_M) := [(yX13_args, mX13_args), (yX13_judge, mX13_judge), (yX13_leaf, mX13_leaf), (yX13_leafOfMore, mX13_leafOfMore), (yX13_overLeft, mX13_overLeft), (yX13_two, mX13_two)]
noncomputable def vX13_args_31 (g : Nat → List Nat → rx_H → Option (Nat × rx_H)) (j : Nat → rx_K) : rx_K := o_ret0
set_option maxRecDepth 20000 in
theorem wX13_args_31 {dn : Nat} {g : Nat → List Nat → rx_H → Option (Nat × rx_H)} (hZ : zO b e D A X) (hg : ∀ i y M, vl13[i]? = some (y, M) → rx_Met (zV b e D A X) dn y M (g i)) (hd : 172 ≤ dn) (j : Nat → rx_K) (hj : ∀ k pc, [2][k]? = some pc → rx_OK (zV b e D A X) mX13_args (dn + 1) pc (j k)) : rx_OK (zV b e D A X) mX13_args (dn + 1) 31 (vX13_args_31 g j) := by
  unfold vX13_args_31
  exact s_vret rfl dX13_args_31
noncomputable def vX13_args_15 (g : Nat → List Nat → rx_H → Option (Nat × rx_H)) (j : Nat → rx_K) : rx_K := o_ld rx_isR 0 (o_ld rx_isI 2 (o_callV 1 13 (g 1) (o_pop2 (o_ld rx_isR 0 (o_getf 13 80 (o_ld rx_isI 2 (o_ald 0 (o_st rx_isI 2 ((j 0))))))))))
set_option maxRecDepth 20000 in
theorem wX13_args_15 {dn : Nat} {g : Nat → List Nat → rx_H → Option (Nat × rx_H)} (hZ : zO b e D A X) (hg : ∀ i y M, vl13[i]? = some (y, M) → rx_Met (zV b e D A X) dn y M (g i)) (hd : 172 ≤ dn) (j : Nat → rx_K) (hj : ∀ k pc, [2][k]? = some pc → rx_OK (zV b e D A X) mX13_args (dn + 1) pc (j k)) : rx_OK (zV b e D A X) mX13_args (dn + 1) 15 (vX13_args_15 g j) := by
  unfold vX13_args_15
  refine s_aload_n hZ.1 dX13_args_15 rfl ?_
  refine s_iload_n hZ.1 dX13_args_16 rfl ?_
  refine s_callV hZ.1 (hg 1 _ _ rfl) (Nat.le_refl _) vy_X13_judge zcl13 zw3398 zw274 (Or.inl zw3396) dX13_args_17 ?_
  refine s_pop2L hZ.1 dX13_args_20 ?_
  refine s_aload_n hZ.1 dX13_args_21 rfl ?_
  refine yg13_80 dX13_args_22 zw4201 ?_
  refine s_iload_n hZ.1 dX13_args_25 rfl ?_
  refine s_iald (tt := 0) rfl dX13_args_26 ?_
  refine s_istore_n hZ.1 dX13_args_27 rfl (Nat.le_of_ble_eq_true rfl) ?_
  exact s_goto dX13_args_28 (by decide) (hj 0 2 rfl)
noncomputable def vX13_args_8 (g : Nat → List Nat → rx_H → Option (Nat × rx_H)) (j : Nat → rx_K) : rx_K := o_ld rx_isR 0 (o_getf 13 20 (o_c1 rx_eq (vX13_args_15 g j) (vX13_args_31 g j)))
set_option maxRecDepth 20000 in
theorem wX13_args_8 {dn : Nat} {g : Nat → List Nat → rx_H → Option (Nat × rx_H)} (hZ : zO b e D A X) (hg : ∀ i y M, vl13[i]? = some (y, M) → rx_Met (zV b e D A X) dn y M (g i)) (hd : 172 ≤ dn) (j : Nat → rx_K) (hj : ∀ k pc, [2][k]? = some pc → rx_OK (zV b e D A X) mX13_args (dn + 1) pc (j k)) : rx_OK (zV b e D A X) mX13_args (dn + 1) 8 (vX13_args_8 g j) := by
  unfold vX13_args_8
  refine s_aload_n hZ.1 dX13_args_8 rfl ?_
  refine yg13_20 dX13_args_9 zw4141 ?_
  exact s_if_ne dX13_args_12 (by decide) (wX13_args_31 hZ hg hd j hj) (wX13_args_15 hZ hg hd j hj)
noncomputable def vX13_args_2 (g : Nat → List Nat → rx_H → Option (Nat × rx_H)) (j : Nat → rx_K) : rx_K := o_ld rx_isI 2 (o_const 34359738352 (o_c2 rx_eq (vX13_args_31 g j) (vX13_args_8 g j)))
set_option maxRecDepth 20000 in
theorem wX13_args_2 {dn : Nat} {g : Nat → List Nat → rx_H → Option (Nat × rx_H)} (hZ : zO b e D A X) (hg : ∀ i y M, vl13[i]? = some (y, M) → rx_Met (zV b e D A X) dn y M (g i)) (hd : 172 ≤ dn) (j : Nat → rx_K) (hj : ∀ k pc, [2][k]? = some pc → rx_OK (zV b e D A X) mX13_args (dn + 1) pc (j k)) : rx_OK (zV b e D A X) mX13_args (dn + 1) 2 (vX13_args_2 g j) := by
  unfold vX13_args_2
  refine s_iload_n hZ.1 dX13_args_2 rfl ?_
  refine s_bipush dX13_args_3 (by decide +kernel) ?_
  exact s_icmp_eq dX13_args_5 (by decide) (wX13_args_31 hZ hg hd j hj) (wX13_args_8 hZ hg hd j hj)
noncomputable def vX13_args_0 (g : Nat → List Nat → rx_H → Option (Nat × rx_H)) (j : Nat → rx_K) : rx_K := o_ld rx_isI 1 (o_st rx_isI 2 ((vX13_args_2 g j)))
set_option maxRecDepth 20000 in
theorem wX13_args_0 {dn : Nat} {g : Nat → List Nat → rx_H → Option (Nat × rx_H)} (hZ : zO b e D A X) (hg : ∀ i y M, vl13[i]? = some (y, M) → rx_Met (zV b e D A X) dn y M (g i)) (hd : 172 ≤ dn) (j : Nat → rx_K) (hj : ∀ k pc, [2][k]? = some pc → rx_OK (zV b e D A X) mX13_args (dn + 1) pc (j k)) : rx_OK (zV b e D A X) mX13_args (dn + 1) 0 (vX13_args_0 g j) := by
  unfold vX13_args_0
  refine s_iload_n hZ.1 dX13_args_0 rfl ?_
  refine s_istore_n hZ.1 dX13_args_1 rfl (Nat.le_of_ble_eq_true rfl) ?_
  exact (wX13_args_2 hZ hg hd j hj)
noncomputable def vhX13_args (g : Nat → List Nat → rx_H → Option (Nat × rx_H)) (j : Nat → rx_K) : List rx_K := [vX13_args_2 g j]
theorem vlX13_args {dn : Nat} {g : Nat → List Nat → rx_H → Option (Nat × rx_H)} (hZ : zO b e D A X) (hg : ∀ i y M, vl13[i]? = some (y, M) → rx_Met (zV b e D A X) dn y M (g i)) (hd : 172 ≤ dn) : ∀ n k pc, [2][k]? = some pc → rx_OK (zV b e D A X) mX13_args (dn + 1) pc (rx_J (vhX13_args g) n k) := rx_loop fun j hj k pc h => by
  match k, h with
  | 0, h =>
    have e9 := Option.some.inj (show some 2 = some pc from h)
    subst e9
    exact wX13_args_2 hZ hg hd j hj
  | _ + 1, h => exact absurd h (by simp)
noncomputable def FX13_args (g : Nat → List Nat → rx_H → Option (Nat × rx_H)) : List Nat → rx_H → Option (Nat × rx_H) := rx_ent 3 (vX13_args_0 g (rx_J (vhX13_args g) 4000000000))
theorem Met_X13_args {dn : Nat} {g : Nat → List Nat → rx_H → Option (Nat × rx_H)} (hZ : zO b e D A X) (hg : ∀ i y M, vl13[i]? = some (y, M) → rx_Met (zV b e D A X) dn y M (g i)) (hd : 172 ≤ dn) : rx_Met (zV b e D A X) (dn + 1) yX13_args mX13_args (FX13_args g) := rx_entry hZ.1 (wX13_args_0 hZ hg hd _ (vlX13_args hZ hg hd 4000000000)) (by decide +kernel) rfl (fun h => by cases h)
end ZM52
